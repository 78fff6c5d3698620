theorem dL_lines_0 : decode cL_lines 0 = .ok (.iload_n 2, 1) := by decide +kernel
theorem dL_lines_1 : decode cL_lines 1 = .ok (.iconst 1, 1) := by decide +kernel
theorem dL_lines_2 : decode cL_lines 2 = .ok (.iand, 1) := by decide +kernel
theorem dL_lines_3 : decode cL_lines 3 = .ok (.istore 18, 2) := by decide +kernel
theorem dL_lines_5 : decode cL_lines 5 = .ok (.iload_n 1, 1) := by decide +kernel
theorem dL_lines_6 : decode cL_lines 6 = .ok (.ifCond .ne 131, 3) := by decide +kernel
theorem dL_lines_9 : decode cL_lines 9 = .ok (.aload 4, 2) := by decide +kernel
theorem dL_lines_11 : decode cL_lines 11 = .ok (.iconst 1, 1) := by decide +kernel
theorem dL_lines_12 : decode cL_lines 12 = .ok (.iaload, 1) := by decide +kernel
theorem dL_lines_13 : decode cL_lines 13 = .ok (.iconst 1, 1) := by decide +kernel
theorem dL_lines_14 : decode cL_lines 14 = .ok (.if_icmp .ne 61, 3) := by decide +kernel
theorem dL_lines_17 : decode cL_lines 17 = .ok (.iload_n 3, 1) := by decide +kernel
theorem dL_lines_18 : decode cL_lines 18 = .ok (.sipush 1792, 3) := by decide +kernel
theorem dL_lines_21 : decode cL_lines 21 = .ok (.iand, 1) := by decide +kernel
theorem dL_lines_22 : decode cL_lines 22 = .ok (.ifCond .le 31, 3) := by decide +kernel
theorem dL_lines_25 : decode cL_lines 25 = .ok (.aload_n 0, 1) := by decide +kernel
theorem dL_lines_26 : decode cL_lines 26 = .ok (.iconst 0, 1) := by decide +kernel
theorem dL_lines_27 : decode cL_lines 27 = .ok (.invokestatic 189, 3) := by decide +kernel
theorem dL_lines_30 : decode cL_lines 30 = .ok (.sipush (-7300), 3) := by decide +kernel
theorem dL_lines_33 : decode cL_lines 33 = .ok (.if_icmp .ne 18, 3) := by decide +kernel
theorem dL_lines_36 : decode cL_lines 36 = .ok (.aload_n 0, 1) := by decide +kernel
theorem dL_lines_37 : decode cL_lines 37 = .ok (.iconst 1, 1) := by decide +kernel
theorem dL_lines_38 : decode cL_lines 38 = .ok (.invokestatic 189, 3) := by decide +kernel
theorem dL_lines_41 : decode cL_lines 41 = .ok (.sipush (-7300), 3) := by decide +kernel
theorem dL_lines_44 : decode cL_lines 44 = .ok (.if_icmp .ne 7, 3) := by decide +kernel
theorem dL_lines_47 : decode cL_lines 47 = .ok (.iconst 1, 1) := by decide +kernel
theorem dL_lines_48 : decode cL_lines 48 = .ok (.goto 4, 3) := by decide +kernel
theorem dL_lines_51 : decode cL_lines 51 = .ok (.iconst 0, 1) := by decide +kernel
theorem dL_lines_52 : decode cL_lines 52 = .ok (.ireturn, 1) := by decide +kernel
theorem dL_lines_53 : decode cL_lines 53 = .ok (.aload_n 0, 1) := by decide +kernel
theorem dL_lines_54 : decode cL_lines 54 = .ok (.invokestatic 192, 3) := by decide +kernel
theorem dL_lines_57 : decode cL_lines 57 = .ok (.aload 4, 2) := by decide +kernel
theorem dL_lines_59 : decode cL_lines 59 = .ok (.aload 9, 2) := by decide +kernel
theorem dL_lines_61 : decode cL_lines 61 = .ok (.aload 10, 2) := by decide +kernel
theorem dL_lines_63 : decode cL_lines 63 = .ok (.invokestatic 195, 3) := by decide +kernel
theorem dL_lines_66 : decode cL_lines 66 = .ok (.if_icmp .ne 7, 3) := by decide +kernel
theorem dL_lines_69 : decode cL_lines 69 = .ok (.iconst 1, 1) := by decide +kernel
theorem dL_lines_70 : decode cL_lines 70 = .ok (.goto 4, 3) := by decide +kernel
theorem dL_lines_73 : decode cL_lines 73 = .ok (.iconst 0, 1) := by decide +kernel
theorem dL_lines_74 : decode cL_lines 74 = .ok (.ireturn, 1) := by decide +kernel
theorem dL_lines_75 : decode cL_lines 75 = .ok (.aload_n 0, 1) := by decide +kernel
theorem dL_lines_76 : decode cL_lines 76 = .ok (.invokestatic 192, 3) := by decide +kernel
theorem dL_lines_79 : decode cL_lines 79 = .ok (.sipush (-7300), 3) := by decide +kernel
theorem dL_lines_82 : decode cL_lines 82 = .ok (.if_icmp .eq 5, 3) := by decide +kernel
theorem dL_lines_85 : decode cL_lines 85 = .ok (.iconst 0, 1) := by decide +kernel
theorem dL_lines_86 : decode cL_lines 86 = .ok (.ireturn, 1) := by decide +kernel
theorem dL_lines_87 : decode cL_lines 87 = .ok (.aload 4, 2) := by decide +kernel
theorem dL_lines_89 : decode cL_lines 89 = .ok (.aload 5, 2) := by decide +kernel
theorem dL_lines_91 : decode cL_lines 91 = .ok (.aload 6, 2) := by decide +kernel
theorem dL_lines_93 : decode cL_lines 93 = .ok (.aload 7, 2) := by decide +kernel
theorem dL_lines_95 : decode cL_lines 95 = .ok (.aload 8, 2) := by decide +kernel
theorem dL_lines_97 : decode cL_lines 97 = .ok (.iload_n 3, 1) := by decide +kernel
theorem dL_lines_98 : decode cL_lines 98 = .ok (.bipush 6, 2) := by decide +kernel
theorem dL_lines_100 : decode cL_lines 100 = .ok (.iand, 1) := by decide +kernel
theorem dL_lines_101 : decode cL_lines 101 = .ok (.ifCond .ne 7, 3) := by decide +kernel
theorem dL_lines_104 : decode cL_lines 104 = .ok (.iconst 1, 1) := by decide +kernel
theorem dL_lines_105 : decode cL_lines 105 = .ok (.goto 4, 3) := by decide +kernel
theorem dL_lines_108 : decode cL_lines 108 = .ok (.iconst 0, 1) := by decide +kernel
theorem dL_lines_109 : decode cL_lines 109 = .ok (.invokestatic 199, 3) := by decide +kernel
theorem dL_lines_112 : decode cL_lines 112 = .ok (.aload_n 0, 1) := by decide +kernel
theorem dL_lines_113 : decode cL_lines 113 = .ok (.iload_n 3, 1) := by decide +kernel
theorem dL_lines_114 : decode cL_lines 114 = .ok (.bipush 6, 2) := by decide +kernel
theorem dL_lines_116 : decode cL_lines 116 = .ok (.iand, 1) := by decide +kernel
theorem dL_lines_117 : decode cL_lines 117 = .ok (.ifCond .ne 7, 3) := by decide +kernel
theorem dL_lines_120 : decode cL_lines 120 = .ok (.iconst 1, 1) := by decide +kernel
theorem dL_lines_121 : decode cL_lines 121 = .ok (.goto 4, 3) := by decide +kernel
theorem dL_lines_124 : decode cL_lines 124 = .ok (.iconst 0, 1) := by decide +kernel
theorem dL_lines_125 : decode cL_lines 125 = .ok (.invokestatic 189, 3) := by decide +kernel
theorem dL_lines_128 : decode cL_lines 128 = .ok (.ifCond .ne 7, 3) := by decide +kernel
theorem dL_lines_131 : decode cL_lines 131 = .ok (.iconst 1, 1) := by decide +kernel
theorem dL_lines_132 : decode cL_lines 132 = .ok (.goto 4, 3) := by decide +kernel
theorem dL_lines_135 : decode cL_lines 135 = .ok (.iconst 0, 1) := by decide +kernel
theorem dL_lines_136 : decode cL_lines 136 = .ok (.ireturn, 1) := by decide +kernel
theorem dL_lines_137 : decode cL_lines 137 = .ok (.iload_n 1, 1) := by decide +kernel
theorem dL_lines_138 : decode cL_lines 138 = .ok (.bipush 7, 2) := by decide +kernel
theorem dL_lines_140 : decode cL_lines 140 = .ok (.if_icmp .ge 134, 3) := by decide +kernel
theorem dL_lines_143 : decode cL_lines 143 = .ok (.aload_n 0, 1) := by decide +kernel
theorem dL_lines_144 : decode cL_lines 144 = .ok (.iconst 2, 1) := by decide +kernel
theorem dL_lines_145 : decode cL_lines 145 = .ok (.iconst 0, 1) := by decide +kernel
theorem dL_lines_146 : decode cL_lines 146 = .ok (.invokestatic 203, 3) := by decide +kernel
theorem dL_lines_149 : decode cL_lines 149 = .ok (.sipush (-7100), 3) := by decide +kernel
theorem dL_lines_152 : decode cL_lines 152 = .ok (.if_icmp .ne 42, 3) := by decide +kernel
theorem dL_lines_155 : decode cL_lines 155 = .ok (.aload_n 0, 1) := by decide +kernel
theorem dL_lines_156 : decode cL_lines 156 = .ok (.iconst (-1), 1) := by decide +kernel
theorem dL_lines_157 : decode cL_lines 157 = .ok (.iconst 1, 1) := by decide +kernel
theorem dL_lines_158 : decode cL_lines 158 = .ok (.invokestatic 203, 3) := by decide +kernel
theorem dL_lines_161 : decode cL_lines 161 = .ok (.sipush (-7100), 3) := by decide +kernel
theorem dL_lines_164 : decode cL_lines 164 = .ok (.if_icmp .ne 30, 3) := by decide +kernel
theorem dL_lines_167 : decode cL_lines 167 = .ok (.aload_n 0, 1) := by decide +kernel
theorem dL_lines_168 : decode cL_lines 168 = .ok (.iload 18, 2) := by decide +kernel
theorem dL_lines_170 : decode cL_lines 170 = .ok (.iconst 0, 1) := by decide +kernel
theorem dL_lines_171 : decode cL_lines 171 = .ok (.invokestatic 203, 3) := by decide +kernel
theorem dL_lines_174 : decode cL_lines 174 = .ok (.sipush (-7200), 3) := by decide +kernel
theorem dL_lines_177 : decode cL_lines 177 = .ok (.if_icmp .ne 17, 3) := by decide +kernel
theorem dL_lines_180 : decode cL_lines 180 = .ok (.aload_n 0, 1) := by decide +kernel
theorem dL_lines_181 : decode cL_lines 181 = .ok (.iload 18, 2) := by decide +kernel
theorem dL_lines_183 : decode cL_lines 183 = .ok (.bipush 101, 2) := by decide +kernel
theorem dL_lines_185 : decode cL_lines 185 = .ok (.invokestatic 203, 3) := by decide +kernel
theorem dL_lines_188 : decode cL_lines 188 = .ok (.sipush (-7200), 3) := by decide +kernel
theorem dL_lines_191 : decode cL_lines 191 = .ok (.if_icmp .eq 5, 3) := by decide +kernel
theorem dL_lines_194 : decode cL_lines 194 = .ok (.iconst 0, 1) := by decide +kernel
theorem dL_lines_195 : decode cL_lines 195 = .ok (.ireturn, 1) := by decide +kernel
theorem dL_lines_196 : decode cL_lines 196 = .ok (.aload 4, 2) := by decide +kernel
theorem dL_lines_198 : decode cL_lines 198 = .ok (.bipush 16, 2) := by decide +kernel
theorem dL_lines_200 : decode cL_lines 200 = .ok (.iload 18, 2) := by decide +kernel
theorem dL_lines_202 : decode cL_lines 202 = .ok (.iadd, 1) := by decide +kernel
theorem dL_lines_203 : decode cL_lines 203 = .ok (.iaload, 1) := by decide +kernel
theorem dL_lines_204 : decode cL_lines 204 = .ok (.ifCond .ne 20, 3) := by decide +kernel
theorem dL_lines_207 : decode cL_lines 207 = .ok (.aload_n 0, 1) := by decide +kernel
theorem dL_lines_208 : decode cL_lines 208 = .ok (.iload 18, 2) := by decide +kernel
theorem dL_lines_210 : decode cL_lines 210 = .ok (.bipush 100, 2) := by decide +kernel
theorem dL_lines_212 : decode cL_lines 212 = .ok (.invokestatic 203, 3) := by decide +kernel
theorem dL_lines_215 : decode cL_lines 215 = .ok (.ifCond .ne 7, 3) := by decide +kernel
theorem dL_lines_218 : decode cL_lines 218 = .ok (.iconst 1, 1) := by decide +kernel
theorem dL_lines_219 : decode cL_lines 219 = .ok (.goto 4, 3) := by decide +kernel
theorem dL_lines_222 : decode cL_lines 222 = .ok (.iconst 0, 1) := by decide +kernel
theorem dL_lines_223 : decode cL_lines 223 = .ok (.ireturn, 1) := by decide +kernel
theorem dL_lines_224 : decode cL_lines 224 = .ok (.aload 4, 2) := by decide +kernel
theorem dL_lines_226 : decode cL_lines 226 = .ok (.aload 5, 2) := by decide +kernel
theorem dL_lines_228 : decode cL_lines 228 = .ok (.aload 6, 2) := by decide +kernel
theorem dL_lines_230 : decode cL_lines 230 = .ok (.aload 7, 2) := by decide +kernel
theorem dL_lines_232 : decode cL_lines 232 = .ok (.aload 8, 2) := by decide +kernel
theorem dL_lines_234 : decode cL_lines 234 = .ok (.aload 9, 2) := by decide +kernel
theorem dL_lines_236 : decode cL_lines 236 = .ok (.aload 10, 2) := by decide +kernel
theorem dL_lines_238 : decode cL_lines 238 = .ok (.aload 11, 2) := by decide +kernel
theorem dL_lines_240 : decode cL_lines 240 = .ok (.aload 12, 2) := by decide +kernel
theorem dL_lines_242 : decode cL_lines 242 = .ok (.aload 13, 2) := by decide +kernel
theorem dL_lines_244 : decode cL_lines 244 = .ok (.aload 14, 2) := by decide +kernel
theorem dL_lines_246 : decode cL_lines 246 = .ok (.aload 15, 2) := by decide +kernel
theorem dL_lines_248 : decode cL_lines 248 = .ok (.aload 16, 2) := by decide +kernel
theorem dL_lines_250 : decode cL_lines 250 = .ok (.aload 17, 2) := by decide +kernel
theorem dL_lines_252 : decode cL_lines 252 = .ok (.iload 18, 2) := by decide +kernel
theorem dL_lines_254 : decode cL_lines 254 = .ok (.invokestatic 206, 3) := by decide +kernel
theorem dL_lines_257 : decode cL_lines 257 = .ok (.aload_n 0, 1) := by decide +kernel
theorem dL_lines_258 : decode cL_lines 258 = .ok (.iload 18, 2) := by decide +kernel
theorem dL_lines_260 : decode cL_lines 260 = .ok (.iconst 1, 1) := by decide +kernel
theorem dL_lines_261 : decode cL_lines 261 = .ok (.invokestatic 203, 3) := by decide +kernel
theorem dL_lines_264 : decode cL_lines 264 = .ok (.iconst 1, 1) := by decide +kernel
theorem dL_lines_265 : decode cL_lines 265 = .ok (.if_icmp .ne 7, 3) := by decide +kernel
theorem dL_lines_268 : decode cL_lines 268 = .ok (.iconst 1, 1) := by decide +kernel
theorem dL_lines_269 : decode cL_lines 269 = .ok (.goto 4, 3) := by decide +kernel
theorem dL_lines_272 : decode cL_lines 272 = .ok (.iconst 0, 1) := by decide +kernel
theorem dL_lines_273 : decode cL_lines 273 = .ok (.ireturn, 1) := by decide +kernel
theorem dL_lines_274 : decode cL_lines 274 = .ok (.iload_n 1, 1) := by decide +kernel
theorem dL_lines_275 : decode cL_lines 275 = .ok (.bipush 7, 2) := by decide +kernel
theorem dL_lines_277 : decode cL_lines 277 = .ok (.if_icmp .ne 160, 3) := by decide +kernel
theorem dL_lines_280 : decode cL_lines 280 = .ok (.iload_n 3, 1) := by decide +kernel
theorem dL_lines_281 : decode cL_lines 281 = .ok (.aload 4, 2) := by decide +kernel
theorem dL_lines_283 : decode cL_lines 283 = .ok (.bipush 16, 2) := by decide +kernel
theorem dL_lines_285 : decode cL_lines 285 = .ok (.iload 18, 2) := by decide +kernel
theorem dL_lines_287 : decode cL_lines 287 = .ok (.iadd, 1) := by decide +kernel
theorem dL_lines_288 : decode cL_lines 288 = .ok (.iaload, 1) := by decide +kernel
theorem dL_lines_289 : decode cL_lines 289 = .ok (.iconst 1, 1) := by decide +kernel
theorem dL_lines_290 : decode cL_lines 290 = .ok (.iadd, 1) := by decide +kernel
theorem dL_lines_291 : decode cL_lines 291 = .ok (.invokestatic 210, 3) := by decide +kernel
theorem dL_lines_294 : decode cL_lines 294 = .ok (.istore 19, 2) := by decide +kernel
theorem dL_lines_296 : decode cL_lines 296 = .ok (.aload_n 0, 1) := by decide +kernel
theorem dL_lines_297 : decode cL_lines 297 = .ok (.iconst 2, 1) := by decide +kernel
theorem dL_lines_298 : decode cL_lines 298 = .ok (.iconst 0, 1) := by decide +kernel
theorem dL_lines_299 : decode cL_lines 299 = .ok (.invokestatic 213, 3) := by decide +kernel
theorem dL_lines_302 : decode cL_lines 302 = .ok (.sipush (-7100), 3) := by decide +kernel
theorem dL_lines_305 : decode cL_lines 305 = .ok (.if_icmp .ne 49, 3) := by decide +kernel
theorem dL_lines_308 : decode cL_lines 308 = .ok (.aload_n 0, 1) := by decide +kernel
theorem dL_lines_309 : decode cL_lines 309 = .ok (.iload 18, 2) := by decide +kernel
theorem dL_lines_311 : decode cL_lines 311 = .ok (.iconst (-1), 1) := by decide +kernel
theorem dL_lines_312 : decode cL_lines 312 = .ok (.invokestatic 213, 3) := by decide +kernel
theorem dL_lines_315 : decode cL_lines 315 = .ok (.sipush (-7100), 3) := by decide +kernel
theorem dL_lines_318 : decode cL_lines 318 = .ok (.if_icmp .ne 36, 3) := by decide +kernel
theorem dL_lines_321 : decode cL_lines 321 = .ok (.aload_n 0, 1) := by decide +kernel
theorem dL_lines_322 : decode cL_lines 322 = .ok (.iload 18, 2) := by decide +kernel
theorem dL_lines_324 : decode cL_lines 324 = .ok (.aload 4, 2) := by decide +kernel
theorem dL_lines_326 : decode cL_lines 326 = .ok (.bipush 16, 2) := by decide +kernel
theorem dL_lines_328 : decode cL_lines 328 = .ok (.iload 18, 2) := by decide +kernel
theorem dL_lines_330 : decode cL_lines 330 = .ok (.iadd, 1) := by decide +kernel
theorem dL_lines_331 : decode cL_lines 331 = .ok (.iaload, 1) := by decide +kernel
theorem dL_lines_332 : decode cL_lines 332 = .ok (.invokestatic 213, 3) := by decide +kernel
theorem dL_lines_335 : decode cL_lines 335 = .ok (.sipush (-7100), 3) := by decide +kernel
theorem dL_lines_338 : decode cL_lines 338 = .ok (.if_icmp .ne 16, 3) := by decide +kernel
theorem dL_lines_341 : decode cL_lines 341 = .ok (.iload 19, 2) := by decide +kernel
theorem dL_lines_343 : decode cL_lines 343 = .ok (.aload 4, 2) := by decide +kernel
theorem dL_lines_345 : decode cL_lines 345 = .ok (.bipush 16, 2) := by decide +kernel
theorem dL_lines_347 : decode cL_lines 347 = .ok (.iload 18, 2) := by decide +kernel
theorem dL_lines_349 : decode cL_lines 349 = .ok (.iadd, 1) := by decide +kernel
theorem dL_lines_350 : decode cL_lines 350 = .ok (.iaload, 1) := by decide +kernel
theorem dL_lines_351 : decode cL_lines 351 = .ok (.if_icmp .ne 23, 3) := by decide +kernel
theorem dL_lines_354 : decode cL_lines 354 = .ok (.aload_n 0, 1) := by decide +kernel
theorem dL_lines_355 : decode cL_lines 355 = .ok (.iload 18, 2) := by decide +kernel
theorem dL_lines_357 : decode cL_lines 357 = .ok (.ldc 215, 2) := by decide +kernel
theorem dL_lines_359 : decode cL_lines 359 = .ok (.invokestatic 213, 3) := by decide +kernel
theorem dL_lines_362 : decode cL_lines 362 = .ok (.sipush (-7100), 3) := by decide +kernel
theorem dL_lines_365 : decode cL_lines 365 = .ok (.if_icmp .ne 7, 3) := by decide +kernel
theorem dL_lines_368 : decode cL_lines 368 = .ok (.iconst 1, 1) := by decide +kernel
theorem dL_lines_369 : decode cL_lines 369 = .ok (.goto 4, 3) := by decide +kernel
theorem dL_lines_372 : decode cL_lines 372 = .ok (.iconst 0, 1) := by decide +kernel
theorem dL_lines_373 : decode cL_lines 373 = .ok (.ireturn, 1) := by decide +kernel
theorem dL_lines_374 : decode cL_lines 374 = .ok (.iload 18, 2) := by decide +kernel
theorem dL_lines_376 : decode cL_lines 376 = .ok (.ifCond .ne 8, 3) := by decide +kernel
theorem dL_lines_379 : decode cL_lines 379 = .ok (.aload 5, 2) := by decide +kernel
theorem dL_lines_381 : decode cL_lines 381 = .ok (.goto 5, 3) := by decide +kernel
theorem dL_lines_384 : decode cL_lines 384 = .ok (.aload 6, 2) := by decide +kernel
theorem dL_lines_386 : decode cL_lines 386 = .ok (.astore 20, 2) := by decide +kernel
theorem dL_lines_388 : decode cL_lines 388 = .ok (.aload 20, 2) := by decide +kernel
theorem dL_lines_390 : decode cL_lines 390 = .ok (.iload 19, 2) := by decide +kernel
theorem dL_lines_392 : decode cL_lines 392 = .ok (.aload 20, 2) := by decide +kernel
theorem dL_lines_394 : decode cL_lines 394 = .ok (.iload 19, 2) := by decide +kernel
theorem dL_lines_396 : decode cL_lines 396 = .ok (.invokestatic 177, 3) := by decide +kernel
theorem dL_lines_399 : decode cL_lines 399 = .ok (.sipush 8191, 3) := by decide +kernel
theorem dL_lines_402 : decode cL_lines 402 = .ok (.iand, 1) := by decide +kernel
theorem dL_lines_403 : decode cL_lines 403 = .ok (.sipush 8192, 3) := by decide +kernel
theorem dL_lines_406 : decode cL_lines 406 = .ok (.ior, 1) := by decide +kernel
theorem dL_lines_407 : decode cL_lines 407 = .ok (.invokestatic 117, 3) := by decide +kernel
theorem dL_lines_410 : decode cL_lines 410 = .ok (.aload_n 0, 1) := by decide +kernel
theorem dL_lines_411 : decode cL_lines 411 = .ok (.iload 18, 2) := by decide +kernel
theorem dL_lines_413 : decode cL_lines 413 = .ok (.iload 19, 2) := by decide +kernel
theorem dL_lines_415 : decode cL_lines 415 = .ok (.invokestatic 213, 3) := by decide +kernel
theorem dL_lines_418 : decode cL_lines 418 = .ok (.aload 20, 2) := by decide +kernel
theorem dL_lines_420 : decode cL_lines 420 = .ok (.iload 19, 2) := by decide +kernel
theorem dL_lines_422 : decode cL_lines 422 = .ok (.invokestatic 177, 3) := by decide +kernel
theorem dL_lines_425 : decode cL_lines 425 = .ok (.bipush 63, 2) := by decide +kernel
theorem dL_lines_427 : decode cL_lines 427 = .ok (.iand, 1) := by decide +kernel
theorem dL_lines_428 : decode cL_lines 428 = .ok (.if_icmp .ne 7, 3) := by decide +kernel
theorem dL_lines_431 : decode cL_lines 431 = .ok (.iconst 1, 1) := by decide +kernel
theorem dL_lines_432 : decode cL_lines 432 = .ok (.goto 4, 3) := by decide +kernel
theorem dL_lines_435 : decode cL_lines 435 = .ok (.iconst 0, 1) := by decide +kernel
theorem dL_lines_436 : decode cL_lines 436 = .ok (.ireturn, 1) := by decide +kernel
theorem dL_lines_437 : decode cL_lines 437 = .ok (.iconst 1, 1) := by decide +kernel
theorem dL_lines_438 : decode cL_lines 438 = .ok (.iload_n 3, 1) := by decide +kernel
theorem dL_lines_439 : decode cL_lines 439 = .ok (.iload_n 2, 1) := by decide +kernel
theorem dL_lines_440 : decode cL_lines 440 = .ok (.bipush 96, 2) := by decide +kernel
theorem dL_lines_442 : decode cL_lines 442 = .ok (.iand, 1) := by decide +kernel
theorem dL_lines_443 : decode cL_lines 443 = .ok (.ifCond .ne 8, 3) := by decide +kernel
theorem dL_lines_446 : decode cL_lines 446 = .ok (.bipush 26, 2) := by decide +kernel
theorem dL_lines_448 : decode cL_lines 448 = .ok (.goto 5, 3) := by decide +kernel
theorem dL_lines_451 : decode cL_lines 451 = .ok (.bipush 6, 2) := by decide +kernel
theorem dL_lines_453 : decode cL_lines 453 = .ok (.invokestatic 210, 3) := by decide +kernel
theorem dL_lines_456 : decode cL_lines 456 = .ok (.iadd, 1) := by decide +kernel
theorem dL_lines_457 : decode cL_lines 457 = .ok (.istore 19, 2) := by decide +kernel
theorem dL_lines_459 : decode cL_lines 459 = .ok (.iconst 0, 1) := by decide +kernel
theorem dL_lines_460 : decode cL_lines 460 = .ok (.istore 20, 2) := by decide +kernel
theorem dL_lines_462 : decode cL_lines 462 = .ok (.iconst 0, 1) := by decide +kernel
theorem dL_lines_463 : decode cL_lines 463 = .ok (.istore 21, 2) := by decide +kernel
theorem dL_lines_465 : decode cL_lines 465 = .ok (.iload 21, 2) := by decide +kernel
theorem dL_lines_467 : decode cL_lines 467 = .ok (.iload 19, 2) := by decide +kernel
theorem dL_lines_469 : decode cL_lines 469 = .ok (.if_icmp .ge 155, 3) := by decide +kernel
theorem dL_lines_472 : decode cL_lines 472 = .ok (.aload 4, 2) := by decide +kernel
theorem dL_lines_474 : decode cL_lines 474 = .ok (.iconst 0, 1) := by decide +kernel
theorem dL_lines_475 : decode cL_lines 475 = .ok (.dup2, 1) := by decide +kernel
theorem dL_lines_476 : decode cL_lines 476 = .ok (.iaload, 1) := by decide +kernel
theorem dL_lines_477 : decode cL_lines 477 = .ok (.iconst 1, 1) := by decide +kernel
theorem dL_lines_478 : decode cL_lines 478 = .ok (.iadd, 1) := by decide +kernel
theorem dL_lines_479 : decode cL_lines 479 = .ok (.iastore, 1) := by decide +kernel
theorem dL_lines_480 : decode cL_lines 480 = .ok (.iconst 0, 1) := by decide +kernel
theorem dL_lines_481 : decode cL_lines 481 = .ok (.istore 22, 2) := by decide +kernel
theorem dL_lines_483 : decode cL_lines 483 = .ok (.iload 22, 2) := by decide +kernel
theorem dL_lines_485 : decode cL_lines 485 = .ok (.iconst 2, 1) := by decide +kernel
theorem dL_lines_486 : decode cL_lines 486 = .ok (.if_icmp .ge 132, 3) := by decide +kernel
theorem dL_lines_489 : decode cL_lines 489 = .ok (.aload 4, 2) := by decide +kernel
theorem dL_lines_491 : decode cL_lines 491 = .ok (.iconst 2, 1) := by decide +kernel
theorem dL_lines_492 : decode cL_lines 492 = .ok (.iload 22, 2) := by decide +kernel
theorem dL_lines_494 : decode cL_lines 494 = .ok (.iadd, 1) := by decide +kernel
theorem dL_lines_495 : decode cL_lines 495 = .ok (.iaload, 1) := by decide +kernel
theorem dL_lines_496 : decode cL_lines 496 = .ok (.ifCond .ne 6, 3) := by decide +kernel
theorem dL_lines_499 : decode cL_lines 499 = .ok (.goto 113, 3) := by decide +kernel
theorem dL_lines_502 : decode cL_lines 502 = .ok (.aload 4, 2) := by decide +kernel
theorem dL_lines_504 : decode cL_lines 504 = .ok (.iconst 0, 1) := by decide +kernel
theorem dL_lines_505 : decode cL_lines 505 = .ok (.iaload, 1) := by decide +kernel
theorem dL_lines_506 : decode cL_lines 506 = .ok (.aload 4, 2) := by decide +kernel
theorem dL_lines_508 : decode cL_lines 508 = .ok (.bipush 12, 2) := by decide +kernel
theorem dL_lines_510 : decode cL_lines 510 = .ok (.iload 22, 2) := by decide +kernel
theorem dL_lines_512 : decode cL_lines 512 = .ok (.iadd, 1) := by decide +kernel
theorem dL_lines_513 : decode cL_lines 513 = .ok (.iaload, 1) := by decide +kernel
theorem dL_lines_514 : decode cL_lines 514 = .ok (.isub, 1) := by decide +kernel
theorem dL_lines_515 : decode cL_lines 515 = .ok (.bipush 9, 2) := by decide +kernel
theorem dL_lines_517 : decode cL_lines 517 = .ok (.if_icmp .le 26, 3) := by decide +kernel
theorem dL_lines_520 : decode cL_lines 520 = .ok (.aload 4, 2) := by decide +kernel
theorem dL_lines_522 : decode cL_lines 522 = .ok (.aload 5, 2) := by decide +kernel
theorem dL_lines_524 : decode cL_lines 524 = .ok (.aload 6, 2) := by decide +kernel
theorem dL_lines_526 : decode cL_lines 526 = .ok (.aload 7, 2) := by decide +kernel
theorem dL_lines_528 : decode cL_lines 528 = .ok (.aload 8, 2) := by decide +kernel
theorem dL_lines_530 : decode cL_lines 530 = .ok (.iload 22, 2) := by decide +kernel
theorem dL_lines_532 : decode cL_lines 532 = .ok (.iconst 1, 1) := by decide +kernel
theorem dL_lines_533 : decode cL_lines 533 = .ok (.iconst 0, 1) := by decide +kernel
theorem dL_lines_534 : decode cL_lines 534 = .ok (.iconst 0, 1) := by decide +kernel
theorem dL_lines_535 : decode cL_lines 535 = .ok (.iconst 0, 1) := by decide +kernel
theorem dL_lines_536 : decode cL_lines 536 = .ok (.iconst 0, 1) := by decide +kernel
theorem dL_lines_537 : decode cL_lines 537 = .ok (.invokestatic 129, 3) := by decide +kernel
theorem dL_lines_540 : decode cL_lines 540 = .ok (.iinc 20 1, 3) := by decide +kernel
theorem dL_lines_543 : decode cL_lines 543 = .ok (.aload 4, 2) := by decide +kernel
theorem dL_lines_545 : decode cL_lines 545 = .ok (.iconst 0, 1) := by decide +kernel
theorem dL_lines_546 : decode cL_lines 546 = .ok (.iaload, 1) := by decide +kernel
theorem dL_lines_547 : decode cL_lines 547 = .ok (.aload 4, 2) := by decide +kernel
theorem dL_lines_549 : decode cL_lines 549 = .ok (.bipush 14, 2) := by decide +kernel
theorem dL_lines_551 : decode cL_lines 551 = .ok (.iload 22, 2) := by decide +kernel
theorem dL_lines_553 : decode cL_lines 553 = .ok (.iadd, 1) := by decide +kernel
theorem dL_lines_554 : decode cL_lines 554 = .ok (.iaload, 1) := by decide +kernel
theorem dL_lines_555 : decode cL_lines 555 = .ok (.isub, 1) := by decide +kernel
theorem dL_lines_556 : decode cL_lines 556 = .ok (.bipush 15, 2) := by decide +kernel
theorem dL_lines_558 : decode cL_lines 558 = .ok (.if_icmp .ne 26, 3) := by decide +kernel
theorem dL_lines_561 : decode cL_lines 561 = .ok (.aload 4, 2) := by decide +kernel
theorem dL_lines_563 : decode cL_lines 563 = .ok (.aload 5, 2) := by decide +kernel
theorem dL_lines_565 : decode cL_lines 565 = .ok (.aload 6, 2) := by decide +kernel
theorem dL_lines_567 : decode cL_lines 567 = .ok (.aload 7, 2) := by decide +kernel
theorem dL_lines_569 : decode cL_lines 569 = .ok (.aload 8, 2) := by decide +kernel
theorem dL_lines_571 : decode cL_lines 571 = .ok (.iload 22, 2) := by decide +kernel
theorem dL_lines_573 : decode cL_lines 573 = .ok (.iconst 2, 1) := by decide +kernel
theorem dL_lines_574 : decode cL_lines 574 = .ok (.iconst 0, 1) := by decide +kernel
theorem dL_lines_575 : decode cL_lines 575 = .ok (.iconst 0, 1) := by decide +kernel
theorem dL_lines_576 : decode cL_lines 576 = .ok (.iconst 0, 1) := by decide +kernel
theorem dL_lines_577 : decode cL_lines 577 = .ok (.iconst 0, 1) := by decide +kernel
theorem dL_lines_578 : decode cL_lines 578 = .ok (.invokestatic 129, 3) := by decide +kernel
theorem dL_lines_581 : decode cL_lines 581 = .ok (.iinc 20 1, 3) := by decide +kernel
theorem dL_lines_584 : decode cL_lines 584 = .ok (.aload 4, 2) := by decide +kernel
theorem dL_lines_586 : decode cL_lines 586 = .ok (.iconst 0, 1) := by decide +kernel
theorem dL_lines_587 : decode cL_lines 587 = .ok (.iaload, 1) := by decide +kernel
theorem dL_lines_588 : decode cL_lines 588 = .ok (.aload 4, 2) := by decide +kernel
theorem dL_lines_590 : decode cL_lines 590 = .ok (.bipush 14, 2) := by decide +kernel
theorem dL_lines_592 : decode cL_lines 592 = .ok (.iload 22, 2) := by decide +kernel
theorem dL_lines_594 : decode cL_lines 594 = .ok (.iadd, 1) := by decide +kernel
theorem dL_lines_595 : decode cL_lines 595 = .ok (.iaload, 1) := by decide +kernel
theorem dL_lines_596 : decode cL_lines 596 = .ok (.isub, 1) := by decide +kernel
theorem dL_lines_597 : decode cL_lines 597 = .ok (.bipush 24, 2) := by decide +kernel
theorem dL_lines_599 : decode cL_lines 599 = .ok (.if_icmp .le 13, 3) := by decide +kernel
theorem dL_lines_602 : decode cL_lines 602 = .ok (.aload 4, 2) := by decide +kernel
theorem dL_lines_604 : decode cL_lines 604 = .ok (.aload 9, 2) := by decide +kernel
theorem dL_lines_606 : decode cL_lines 606 = .ok (.aload 10, 2) := by decide +kernel
theorem dL_lines_608 : decode cL_lines 608 = .ok (.invokestatic 195, 3) := by decide +kernel
theorem dL_lines_611 : decode cL_lines 611 = .ok (.pop, 1) := by decide +kernel
theorem dL_lines_612 : decode cL_lines 612 = .ok (.iinc 22 1, 3) := by decide +kernel
theorem dL_lines_615 : decode cL_lines 615 = .ok (.goto (-132), 3) := by decide +kernel
theorem dL_lines_618 : decode cL_lines 618 = .ok (.iinc 21 1, 3) := by decide +kernel
theorem dL_lines_621 : decode cL_lines 621 = .ok (.goto (-156), 3) := by decide +kernel
theorem dL_lines_624 : decode cL_lines 624 = .ok (.aload_n 0, 1) := by decide +kernel
theorem dL_lines_625 : decode cL_lines 625 = .ok (.iconst 0, 1) := by decide +kernel
theorem dL_lines_626 : decode cL_lines 626 = .ok (.invokestatic 216, 3) := by decide +kernel
theorem dL_lines_629 : decode cL_lines 629 = .ok (.sipush (-7200), 3) := by decide +kernel
theorem dL_lines_632 : decode cL_lines 632 = .ok (.if_icmp .ne 30, 3) := by decide +kernel
theorem dL_lines_635 : decode cL_lines 635 = .ok (.aload_n 0, 1) := by decide +kernel
theorem dL_lines_636 : decode cL_lines 636 = .ok (.bipush 51, 2) := by decide +kernel
theorem dL_lines_638 : decode cL_lines 638 = .ok (.invokestatic 216, 3) := by decide +kernel
theorem dL_lines_641 : decode cL_lines 641 = .ok (.sipush (-7200), 3) := by decide +kernel
theorem dL_lines_644 : decode cL_lines 644 = .ok (.if_icmp .ne 18, 3) := by decide +kernel
theorem dL_lines_647 : decode cL_lines 647 = .ok (.aload_n 0, 1) := by decide +kernel
theorem dL_lines_648 : decode cL_lines 648 = .ok (.iload 19, 2) := by decide +kernel
theorem dL_lines_650 : decode cL_lines 650 = .ok (.invokestatic 216, 3) := by decide +kernel
theorem dL_lines_653 : decode cL_lines 653 = .ok (.iload 20, 2) := by decide +kernel
theorem dL_lines_655 : decode cL_lines 655 = .ok (.if_icmp .ne 7, 3) := by decide +kernel
theorem dL_lines_658 : decode cL_lines 658 = .ok (.iconst 1, 1) := by decide +kernel
theorem dL_lines_659 : decode cL_lines 659 = .ok (.goto 4, 3) := by decide +kernel
theorem dL_lines_662 : decode cL_lines 662 = .ok (.iconst 0, 1) := by decide +kernel
theorem dL_lines_663 : decode cL_lines 663 = .ok (.ireturn, 1) := by decide +kernel
theorem dL_trades_0 : decode cL_trades 0 = .ok (.iconst 1, 1) := by decide +kernel
theorem dL_trades_1 : decode cL_trades 1 = .ok (.iload_n 2, 1) := by decide +kernel
theorem dL_trades_2 : decode cL_trades 2 = .ok (.bipush 96, 2) := by decide +kernel
theorem dL_trades_4 : decode cL_trades 4 = .ok (.iand, 1) := by decide +kernel
theorem dL_trades_5 : decode cL_trades 5 = .ok (.ifCond .ne 15, 3) := by decide +kernel
theorem dL_trades_8 : decode cL_trades 8 = .ok (.iload_n 2, 1) := by decide +kernel
theorem dL_trades_9 : decode cL_trades 9 = .ok (.bipush 7, 2) := by decide +kernel
theorem dL_trades_11 : decode cL_trades 11 = .ok (.ishr, 1) := by decide +kernel
theorem dL_trades_12 : decode cL_trades 12 = .ok (.bipush 100, 2) := by decide +kernel
theorem dL_trades_14 : decode cL_trades 14 = .ok (.invokestatic 210, 3) := by decide +kernel
theorem dL_trades_17 : decode cL_trades 17 = .ok (.goto 15, 3) := by decide +kernel
theorem dL_trades_20 : decode cL_trades 20 = .ok (.bipush 40, 2) := by decide +kernel
theorem dL_trades_22 : decode cL_trades 22 = .ok (.iload_n 2, 1) := by decide +kernel
theorem dL_trades_23 : decode cL_trades 23 = .ok (.bipush 7, 2) := by decide +kernel
theorem dL_trades_25 : decode cL_trades 25 = .ok (.ishr, 1) := by decide +kernel
theorem dL_trades_26 : decode cL_trades 26 = .ok (.bipush 8, 2) := by decide +kernel
theorem dL_trades_28 : decode cL_trades 28 = .ok (.invokestatic 210, 3) := by decide +kernel
theorem dL_trades_31 : decode cL_trades 31 = .ok (.iadd, 1) := by decide +kernel
theorem dL_trades_32 : decode cL_trades 32 = .ok (.iadd, 1) := by decide +kernel
theorem dL_trades_33 : decode cL_trades 33 = .ok (.istore 16, 2) := by decide +kernel
theorem dL_trades_35 : decode cL_trades 35 = .ok (.iconst 1, 1) := by decide +kernel
theorem dL_trades_36 : decode cL_trades 36 = .ok (.iload_n 3, 1) := by decide +kernel
theorem dL_trades_37 : decode cL_trades 37 = .ok (.iload_n 3, 1) := by decide +kernel
theorem dL_trades_38 : decode cL_trades 38 = .ok (.bipush 96, 2) := by decide +kernel
theorem dL_trades_40 : decode cL_trades 40 = .ok (.iand, 1) := by decide +kernel
theorem dL_trades_41 : decode cL_trades 41 = .ok (.ifCond .ne 8, 3) := by decide +kernel
theorem dL_trades_44 : decode cL_trades 44 = .ok (.bipush 100, 2) := by decide +kernel
theorem dL_trades_46 : decode cL_trades 46 = .ok (.goto 5, 3) := by decide +kernel
theorem dL_trades_49 : decode cL_trades 49 = .ok (.bipush 12, 2) := by decide +kernel
theorem dL_trades_51 : decode cL_trades 51 = .ok (.invokestatic 210, 3) := by decide +kernel
theorem dL_trades_54 : decode cL_trades 54 = .ok (.iadd, 1) := by decide +kernel
theorem dL_trades_55 : decode cL_trades 55 = .ok (.istore 17, 2) := by decide +kernel
theorem dL_trades_57 : decode cL_trades 57 = .ok (.iload_n 3, 1) := by decide +kernel
theorem dL_trades_58 : decode cL_trades 58 = .ok (.ldc 219, 2) := by decide +kernel
theorem dL_trades_60 : decode cL_trades 60 = .ok (.iand, 1) := by decide +kernel
theorem dL_trades_61 : decode cL_trades 61 = .ok (.ifCond .le 7, 3) := by decide +kernel
theorem dL_trades_64 : decode cL_trades 64 = .ok (.iconst 1, 1) := by decide +kernel
theorem dL_trades_65 : decode cL_trades 65 = .ok (.goto 4, 3) := by decide +kernel
theorem dL_trades_68 : decode cL_trades 68 = .ok (.iconst 0, 1) := by decide +kernel
theorem dL_trades_69 : decode cL_trades 69 = .ok (.istore 18, 2) := by decide +kernel
theorem dL_trades_71 : decode cL_trades 71 = .ok (.iload_n 1, 1) := by decide +kernel
theorem dL_trades_72 : decode cL_trades 72 = .ok (.iconst 3, 1) := by decide +kernel
theorem dL_trades_73 : decode cL_trades 73 = .ok (.if_icmp .ge 228, 3) := by decide +kernel
theorem dL_trades_76 : decode cL_trades 76 = .ok (.aload_n 0, 1) := by decide +kernel
theorem dL_trades_77 : decode cL_trades 77 = .ok (.iload 18, 2) := by decide +kernel
theorem dL_trades_79 : decode cL_trades 79 = .ok (.iconst 0, 1) := by decide +kernel
theorem dL_trades_80 : decode cL_trades 80 = .ok (.iload 17, 2) := by decide +kernel
theorem dL_trades_82 : decode cL_trades 82 = .ok (.invokestatic 220, 3) := by decide +kernel
theorem dL_trades_85 : decode cL_trades 85 = .ok (.sipush (-7200), 3) := by decide +kernel
theorem dL_trades_88 : decode cL_trades 88 = .ok (.if_icmp .ne 50, 3) := by decide +kernel
theorem dL_trades_91 : decode cL_trades 91 = .ok (.aload_n 0, 1) := by decide +kernel
theorem dL_trades_92 : decode cL_trades 92 = .ok (.iload 18, 2) := by decide +kernel
theorem dL_trades_94 : decode cL_trades 94 = .ok (.bipush 101, 2) := by decide +kernel
theorem dL_trades_96 : decode cL_trades 96 = .ok (.iload 17, 2) := by decide +kernel
theorem dL_trades_98 : decode cL_trades 98 = .ok (.invokestatic 220, 3) := by decide +kernel
theorem dL_trades_101 : decode cL_trades 101 = .ok (.sipush (-7200), 3) := by decide +kernel
theorem dL_trades_104 : decode cL_trades 104 = .ok (.if_icmp .ne 34, 3) := by decide +kernel
theorem dL_trades_107 : decode cL_trades 107 = .ok (.aload_n 0, 1) := by decide +kernel
theorem dL_trades_108 : decode cL_trades 108 = .ok (.iload 18, 2) := by decide +kernel
theorem dL_trades_110 : decode cL_trades 110 = .ok (.iload 16, 2) := by decide +kernel
theorem dL_trades_112 : decode cL_trades 112 = .ok (.iconst 0, 1) := by decide +kernel
theorem dL_trades_113 : decode cL_trades 113 = .ok (.invokestatic 220, 3) := by decide +kernel
theorem dL_trades_116 : decode cL_trades 116 = .ok (.sipush (-7200), 3) := by decide +kernel
theorem dL_trades_119 : decode cL_trades 119 = .ok (.if_icmp .ne 19, 3) := by decide +kernel
theorem dL_trades_122 : decode cL_trades 122 = .ok (.aload_n 0, 1) := by decide +kernel
theorem dL_trades_123 : decode cL_trades 123 = .ok (.iload 18, 2) := by decide +kernel
theorem dL_trades_125 : decode cL_trades 125 = .ok (.iload 16, 2) := by decide +kernel
theorem dL_trades_127 : decode cL_trades 127 = .ok (.bipush 101, 2) := by decide +kernel
theorem dL_trades_129 : decode cL_trades 129 = .ok (.invokestatic 220, 3) := by decide +kernel
theorem dL_trades_132 : decode cL_trades 132 = .ok (.sipush (-7200), 3) := by decide +kernel
theorem dL_trades_135 : decode cL_trades 135 = .ok (.if_icmp .eq 5, 3) := by decide +kernel
theorem dL_trades_138 : decode cL_trades 138 = .ok (.iconst 0, 1) := by decide +kernel
theorem dL_trades_139 : decode cL_trades 139 = .ok (.ireturn, 1) := by decide +kernel
theorem dL_trades_140 : decode cL_trades 140 = .ok (.aload 4, 2) := by decide +kernel
theorem dL_trades_142 : decode cL_trades 142 = .ok (.iconst 2, 1) := by decide +kernel
theorem dL_trades_143 : decode cL_trades 143 = .ok (.iaload, 1) := by decide +kernel
theorem dL_trades_144 : decode cL_trades 144 = .ok (.ifCond .ne 25, 3) := by decide +kernel
theorem dL_trades_147 : decode cL_trades 147 = .ok (.aload_n 0, 1) := by decide +kernel
theorem dL_trades_148 : decode cL_trades 148 = .ok (.iload 18, 2) := by decide +kernel
theorem dL_trades_150 : decode cL_trades 150 = .ok (.iload 16, 2) := by decide +kernel
theorem dL_trades_152 : decode cL_trades 152 = .ok (.iload 17, 2) := by decide +kernel
theorem dL_trades_154 : decode cL_trades 154 = .ok (.invokestatic 220, 3) := by decide +kernel
theorem dL_trades_157 : decode cL_trades 157 = .ok (.sipush (-7300), 3) := by decide +kernel
theorem dL_trades_160 : decode cL_trades 160 = .ok (.if_icmp .ne 7, 3) := by decide +kernel
theorem dL_trades_163 : decode cL_trades 163 = .ok (.iconst 1, 1) := by decide +kernel
theorem dL_trades_164 : decode cL_trades 164 = .ok (.goto 4, 3) := by decide +kernel
theorem dL_trades_167 : decode cL_trades 167 = .ok (.iconst 0, 1) := by decide +kernel
theorem dL_trades_168 : decode cL_trades 168 = .ok (.ireturn, 1) := by decide +kernel
theorem dL_trades_169 : decode cL_trades 169 = .ok (.aload 4, 2) := by decide +kernel
theorem dL_trades_171 : decode cL_trades 171 = .ok (.bipush 18, 2) := by decide +kernel
theorem dL_trades_173 : decode cL_trades 173 = .ok (.iaload, 1) := by decide +kernel
theorem dL_trades_174 : decode cL_trades 174 = .ok (.bipush 10, 2) := by decide +kernel
theorem dL_trades_176 : decode cL_trades 176 = .ok (.if_icmp .ne 18, 3) := by decide +kernel
theorem dL_trades_179 : decode cL_trades 179 = .ok (.aload_n 0, 1) := by decide +kernel
theorem dL_trades_180 : decode cL_trades 180 = .ok (.invokevirtual 223, 3) := by decide +kernel
theorem dL_trades_183 : decode cL_trades 183 = .ok (.bipush 10, 2) := by decide +kernel
theorem dL_trades_185 : decode cL_trades 185 = .ok (.if_icmp .ne 7, 3) := by decide +kernel
theorem dL_trades_188 : decode cL_trades 188 = .ok (.iconst 1, 1) := by decide +kernel
theorem dL_trades_189 : decode cL_trades 189 = .ok (.goto 4, 3) := by decide +kernel
theorem dL_trades_192 : decode cL_trades 192 = .ok (.iconst 0, 1) := by decide +kernel
theorem dL_trades_193 : decode cL_trades 193 = .ok (.ireturn, 1) := by decide +kernel
theorem dL_trades_194 : decode cL_trades 194 = .ok (.aload 13, 2) := by decide +kernel
theorem dL_trades_196 : decode cL_trades 196 = .ok (.aload 4, 2) := by decide +kernel
theorem dL_trades_198 : decode cL_trades 198 = .ok (.bipush 18, 2) := by decide +kernel
theorem dL_trades_200 : decode cL_trades 200 = .ok (.iaload, 1) := by decide +kernel
theorem dL_trades_201 : decode cL_trades 201 = .ok (.iload 18, 2) := by decide +kernel
theorem dL_trades_203 : decode cL_trades 203 = .ok (.ifCond .eq 7, 3) := by decide +kernel
theorem dL_trades_206 : decode cL_trades 206 = .ok (.iconst 1, 1) := by decide +kernel
theorem dL_trades_207 : decode cL_trades 207 = .ok (.goto 4, 3) := by decide +kernel
theorem dL_trades_210 : decode cL_trades 210 = .ok (.iconst 0, 1) := by decide +kernel
theorem dL_trades_211 : decode cL_trades 211 = .ok (.iastore, 1) := by decide +kernel
theorem dL_trades_212 : decode cL_trades 212 = .ok (.aload 9, 2) := by decide +kernel
theorem dL_trades_214 : decode cL_trades 214 = .ok (.aload 4, 2) := by decide +kernel
theorem dL_trades_216 : decode cL_trades 216 = .ok (.bipush 18, 2) := by decide +kernel
theorem dL_trades_218 : decode cL_trades 218 = .ok (.iaload, 1) := by decide +kernel
theorem dL_trades_219 : decode cL_trades 219 = .ok (.iload 16, 2) := by decide +kernel
theorem dL_trades_221 : decode cL_trades 221 = .ok (.iastore, 1) := by decide +kernel
theorem dL_trades_222 : decode cL_trades 222 = .ok (.aload 10, 2) := by decide +kernel
theorem dL_trades_224 : decode cL_trades 224 = .ok (.aload 4, 2) := by decide +kernel
theorem dL_trades_226 : decode cL_trades 226 = .ok (.bipush 18, 2) := by decide +kernel
theorem dL_trades_228 : decode cL_trades 228 = .ok (.iaload, 1) := by decide +kernel
theorem dL_trades_229 : decode cL_trades 229 = .ok (.iload 17, 2) := by decide +kernel
theorem dL_trades_231 : decode cL_trades 231 = .ok (.iastore, 1) := by decide +kernel
theorem dL_trades_232 : decode cL_trades 232 = .ok (.aload 4, 2) := by decide +kernel
theorem dL_trades_234 : decode cL_trades 234 = .ok (.aload 5, 2) := by decide +kernel
theorem dL_trades_236 : decode cL_trades 236 = .ok (.aload 6, 2) := by decide +kernel
theorem dL_trades_238 : decode cL_trades 238 = .ok (.aload 7, 2) := by decide +kernel
theorem dL_trades_240 : decode cL_trades 240 = .ok (.aload 8, 2) := by decide +kernel
theorem dL_trades_242 : decode cL_trades 242 = .ok (.iconst 0, 1) := by decide +kernel
theorem dL_trades_243 : decode cL_trades 243 = .ok (.iconst 5, 1) := by decide +kernel
theorem dL_trades_244 : decode cL_trades 244 = .ok (.aload 4, 2) := by decide +kernel
theorem dL_trades_246 : decode cL_trades 246 = .ok (.bipush 18, 2) := by decide +kernel
theorem dL_trades_248 : decode cL_trades 248 = .ok (.iaload, 1) := by decide +kernel
theorem dL_trades_249 : decode cL_trades 249 = .ok (.iload 18, 2) := by decide +kernel
theorem dL_trades_251 : decode cL_trades 251 = .ok (.ifCond .eq 7, 3) := by decide +kernel
theorem dL_trades_254 : decode cL_trades 254 = .ok (.iconst 1, 1) := by decide +kernel
theorem dL_trades_255 : decode cL_trades 255 = .ok (.goto 4, 3) := by decide +kernel
theorem dL_trades_258 : decode cL_trades 258 = .ok (.iconst 0, 1) := by decide +kernel
theorem dL_trades_259 : decode cL_trades 259 = .ok (.iload 16, 2) := by decide +kernel
theorem dL_trades_261 : decode cL_trades 261 = .ok (.iload 17, 2) := by decide +kernel
theorem dL_trades_263 : decode cL_trades 263 = .ok (.invokestatic 129, 3) := by decide +kernel
theorem dL_trades_266 : decode cL_trades 266 = .ok (.aload 4, 2) := by decide +kernel
theorem dL_trades_268 : decode cL_trades 268 = .ok (.bipush 18, 2) := by decide +kernel
theorem dL_trades_270 : decode cL_trades 270 = .ok (.dup2, 1) := by decide +kernel
theorem dL_trades_271 : decode cL_trades 271 = .ok (.iaload, 1) := by decide +kernel
theorem dL_trades_272 : decode cL_trades 272 = .ok (.iconst 1, 1) := by decide +kernel
theorem dL_trades_273 : decode cL_trades 273 = .ok (.iadd, 1) := by decide +kernel
theorem dL_trades_274 : decode cL_trades 274 = .ok (.iastore, 1) := by decide +kernel
theorem dL_trades_275 : decode cL_trades 275 = .ok (.aload_n 0, 1) := by decide +kernel
theorem dL_trades_276 : decode cL_trades 276 = .ok (.iload 18, 2) := by decide +kernel
theorem dL_trades_278 : decode cL_trades 278 = .ok (.iload 16, 2) := by decide +kernel
theorem dL_trades_280 : decode cL_trades 280 = .ok (.iload 17, 2) := by decide +kernel
theorem dL_trades_282 : decode cL_trades 282 = .ok (.invokestatic 220, 3) := by decide +kernel
theorem dL_trades_285 : decode cL_trades 285 = .ok (.aload 4, 2) := by decide +kernel
theorem dL_trades_287 : decode cL_trades 287 = .ok (.bipush 18, 2) := by decide +kernel
theorem dL_trades_289 : decode cL_trades 289 = .ok (.iaload, 1) := by decide +kernel
theorem dL_trades_290 : decode cL_trades 290 = .ok (.iconst 1, 1) := by decide +kernel
theorem dL_trades_291 : decode cL_trades 291 = .ok (.isub, 1) := by decide +kernel
theorem dL_trades_292 : decode cL_trades 292 = .ok (.if_icmp .ne 7, 3) := by decide +kernel
theorem dL_trades_295 : decode cL_trades 295 = .ok (.iconst 1, 1) := by decide +kernel
theorem dL_trades_296 : decode cL_trades 296 = .ok (.goto 4, 3) := by decide +kernel
theorem dL_trades_299 : decode cL_trades 299 = .ok (.iconst 0, 1) := by decide +kernel
theorem dL_trades_300 : decode cL_trades 300 = .ok (.ireturn, 1) := by decide +kernel
theorem dL_trades_301 : decode cL_trades 301 = .ok (.iload_n 1, 1) := by decide +kernel
theorem dL_trades_302 : decode cL_trades 302 = .ok (.bipush 6, 2) := by decide +kernel
theorem dL_trades_304 : decode cL_trades 304 = .ok (.if_icmp .ge 314, 3) := by decide +kernel
theorem dL_trades_307 : decode cL_trades 307 = .ok (.iload_n 3, 1) := by decide +kernel
theorem dL_trades_308 : decode cL_trades 308 = .ok (.bipush 7, 2) := by decide +kernel
theorem dL_trades_310 : decode cL_trades 310 = .ok (.ishr, 1) := by decide +kernel
theorem dL_trades_311 : decode cL_trades 311 = .ok (.aload 4, 2) := by decide +kernel
theorem dL_trades_313 : decode cL_trades 313 = .ok (.bipush 18, 2) := by decide +kernel
theorem dL_trades_315 : decode cL_trades 315 = .ok (.iaload, 1) := by decide +kernel
theorem dL_trades_316 : decode cL_trades 316 = .ok (.iconst 1, 1) := by decide +kernel
theorem dL_trades_317 : decode cL_trades 317 = .ok (.iadd, 1) := by decide +kernel
theorem dL_trades_318 : decode cL_trades 318 = .ok (.invokestatic 210, 3) := by decide +kernel
theorem dL_trades_321 : decode cL_trades 321 = .ok (.istore 19, 2) := by decide +kernel
theorem dL_trades_323 : decode cL_trades 323 = .ok (.iload 19, 2) := by decide +kernel
theorem dL_trades_325 : decode cL_trades 325 = .ok (.aload 4, 2) := by decide +kernel
theorem dL_trades_327 : decode cL_trades 327 = .ok (.bipush 18, 2) := by decide +kernel
theorem dL_trades_329 : decode cL_trades 329 = .ok (.iaload, 1) := by decide +kernel
theorem dL_trades_330 : decode cL_trades 330 = .ok (.if_icmp .ne 46, 3) := by decide +kernel
theorem dL_trades_333 : decode cL_trades 333 = .ok (.aload_n 0, 1) := by decide +kernel
theorem dL_trades_334 : decode cL_trades 334 = .ok (.iload 19, 2) := by decide +kernel
theorem dL_trades_336 : decode cL_trades 336 = .ok (.invokestatic 226, 3) := by decide +kernel
theorem dL_trades_339 : decode cL_trades 339 = .ok (.sipush (-7100), 3) := by decide +kernel
theorem dL_trades_342 : decode cL_trades 342 = .ok (.if_icmp .ne 32, 3) := by decide +kernel
theorem dL_trades_345 : decode cL_trades 345 = .ok (.aload_n 0, 1) := by decide +kernel
theorem dL_trades_346 : decode cL_trades 346 = .ok (.iload 19, 2) := by decide +kernel
theorem dL_trades_348 : decode cL_trades 348 = .ok (.iconst 0, 1) := by decide +kernel
theorem dL_trades_349 : decode cL_trades 349 = .ok (.iconst 0, 1) := by decide +kernel
theorem dL_trades_350 : decode cL_trades 350 = .ok (.invokestatic 228, 3) := by decide +kernel
theorem dL_trades_353 : decode cL_trades 353 = .ok (.sipush (-7100), 3) := by decide +kernel
theorem dL_trades_356 : decode cL_trades 356 = .ok (.if_icmp .ne 18, 3) := by decide +kernel
theorem dL_trades_359 : decode cL_trades 359 = .ok (.aload_n 0, 1) := by decide +kernel
theorem dL_trades_360 : decode cL_trades 360 = .ok (.iconst (-1), 1) := by decide +kernel
theorem dL_trades_361 : decode cL_trades 361 = .ok (.invokestatic 226, 3) := by decide +kernel
theorem dL_trades_364 : decode cL_trades 364 = .ok (.sipush (-7100), 3) := by decide +kernel
theorem dL_trades_367 : decode cL_trades 367 = .ok (.if_icmp .ne 7, 3) := by decide +kernel
theorem dL_trades_370 : decode cL_trades 370 = .ok (.iconst 1, 1) := by decide +kernel
theorem dL_trades_371 : decode cL_trades 371 = .ok (.goto 4, 3) := by decide +kernel
theorem dL_trades_374 : decode cL_trades 374 = .ok (.iconst 0, 1) := by decide +kernel
theorem dL_trades_375 : decode cL_trades 375 = .ok (.ireturn, 1) := by decide +kernel
theorem dL_trades_376 : decode cL_trades 376 = .ok (.aload_n 0, 1) := by decide +kernel
theorem dL_trades_377 : decode cL_trades 377 = .ok (.iload 19, 2) := by decide +kernel
theorem dL_trades_379 : decode cL_trades 379 = .ok (.iconst 0, 1) := by decide +kernel
theorem dL_trades_380 : decode cL_trades 380 = .ok (.iload 17, 2) := by decide +kernel
theorem dL_trades_382 : decode cL_trades 382 = .ok (.invokestatic 228, 3) := by decide +kernel
theorem dL_trades_385 : decode cL_trades 385 = .ok (.sipush (-7200), 3) := by decide +kernel
theorem dL_trades_388 : decode cL_trades 388 = .ok (.if_icmp .ne 19, 3) := by decide +kernel
theorem dL_trades_391 : decode cL_trades 391 = .ok (.aload_n 0, 1) := by decide +kernel
theorem dL_trades_392 : decode cL_trades 392 = .ok (.iload 19, 2) := by decide +kernel
theorem dL_trades_394 : decode cL_trades 394 = .ok (.iload 16, 2) := by decide +kernel
theorem dL_trades_396 : decode cL_trades 396 = .ok (.bipush 101, 2) := by decide +kernel
theorem dL_trades_398 : decode cL_trades 398 = .ok (.invokestatic 228, 3) := by decide +kernel
theorem dL_trades_401 : decode cL_trades 401 = .ok (.sipush (-7200), 3) := by decide +kernel
theorem dL_trades_404 : decode cL_trades 404 = .ok (.if_icmp .eq 5, 3) := by decide +kernel
theorem dL_trades_407 : decode cL_trades 407 = .ok (.iconst 0, 1) := by decide +kernel
theorem dL_trades_408 : decode cL_trades 408 = .ok (.ireturn, 1) := by decide +kernel
theorem dL_trades_409 : decode cL_trades 409 = .ok (.aload 13, 2) := by decide +kernel
theorem dL_trades_411 : decode cL_trades 411 = .ok (.iload 19, 2) := by decide +kernel
theorem dL_trades_413 : decode cL_trades 413 = .ok (.iaload, 1) := by decide +kernel
theorem dL_trades_414 : decode cL_trades 414 = .ok (.iconst 2, 1) := by decide +kernel
theorem dL_trades_415 : decode cL_trades 415 = .ok (.iand, 1) := by decide +kernel
theorem dL_trades_416 : decode cL_trades 416 = .ok (.ifCond .le 21, 3) := by decide +kernel
theorem dL_trades_419 : decode cL_trades 419 = .ok (.aload 10, 2) := by decide +kernel
theorem dL_trades_421 : decode cL_trades 421 = .ok (.aload 11, 2) := by decide +kernel
theorem dL_trades_423 : decode cL_trades 423 = .ok (.aload 12, 2) := by decide +kernel
theorem dL_trades_425 : decode cL_trades 425 = .ok (.iload 19, 2) := by decide +kernel
theorem dL_trades_427 : decode cL_trades 427 = .ok (.invokestatic 145, 3) := by decide +kernel
theorem dL_trades_430 : decode cL_trades 430 = .ok (.ifCond .gt 7, 3) := by decide +kernel
theorem dL_trades_433 : decode cL_trades 433 = .ok (.iconst 1, 1) := by decide +kernel
theorem dL_trades_434 : decode cL_trades 434 = .ok (.goto 4, 3) := by decide +kernel
theorem dL_trades_437 : decode cL_trades 437 = .ok (.iconst 0, 1) := by decide +kernel
theorem dL_trades_438 : decode cL_trades 438 = .ok (.istore 20, 2) := by decide +kernel
theorem dL_trades_440 : decode cL_trades 440 = .ok (.aload 4, 2) := by decide +kernel
theorem dL_trades_442 : decode cL_trades 442 = .ok (.iconst 2, 1) := by decide +kernel
theorem dL_trades_443 : decode cL_trades 443 = .ok (.iaload, 1) := by decide +kernel
theorem dL_trades_444 : decode cL_trades 444 = .ok (.ifCond .eq 22, 3) := by decide +kernel
theorem dL_trades_447 : decode cL_trades 447 = .ok (.iload 20, 2) := by decide +kernel
theorem dL_trades_449 : decode cL_trades 449 = .ok (.ifCond .ne 17, 3) := by decide +kernel
theorem dL_trades_452 : decode cL_trades 452 = .ok (.aload 13, 2) := by decide +kernel
theorem dL_trades_454 : decode cL_trades 454 = .ok (.iload 19, 2) := by decide +kernel
theorem dL_trades_456 : decode cL_trades 456 = .ok (.iaload, 1) := by decide +kernel
theorem dL_trades_457 : decode cL_trades 457 = .ok (.iconst 4, 1) := by decide +kernel
theorem dL_trades_458 : decode cL_trades 458 = .ok (.ishr, 1) := by decide +kernel
theorem dL_trades_459 : decode cL_trades 459 = .ok (.bipush 7, 2) := by decide +kernel
theorem dL_trades_461 : decode cL_trades 461 = .ok (.iand, 1) := by decide +kernel
theorem dL_trades_462 : decode cL_trades 462 = .ok (.iconst 5, 1) := by decide +kernel
