theorem dX9_init_0 : decode cX9_init 0 = .ok (.aload_n 0, 1) := by decide +kernel
theorem dX9_init_1 : decode cX9_init 1 = .ok (.invokespecial 1, 3) := by decide +kernel
theorem dX9_init_4 : decode cX9_init 4 = .ok (.aload_n 0, 1) := by decide +kernel
theorem dX9_init_5 : decode cX9_init 5 = .ok (.iconst 2, 1) := by decide +kernel
theorem dX9_init_6 : decode cX9_init 6 = .ok (.newarray .boolean, 2) := by decide +kernel
theorem dX9_init_8 : decode cX9_init 8 = .ok (.putfield 7, 3) := by decide +kernel
theorem dX9_init_11 : decode cX9_init 11 = .ok (.aload_n 0, 1) := by decide +kernel
theorem dX9_init_12 : decode cX9_init 12 = .ok (.iconst 2, 1) := by decide +kernel
theorem dX9_init_13 : decode cX9_init 13 = .ok (.newarray .int, 2) := by decide +kernel
theorem dX9_init_15 : decode cX9_init 15 = .ok (.putfield 13, 3) := by decide +kernel
theorem dX9_init_18 : decode cX9_init 18 = .ok (.aload_n 0, 1) := by decide +kernel
theorem dX9_init_19 : decode cX9_init 19 = .ok (.iconst 2, 1) := by decide +kernel
theorem dX9_init_20 : decode cX9_init 20 = .ok (.newarray .int, 2) := by decide +kernel
theorem dX9_init_22 : decode cX9_init 22 = .ok (.dup, 1) := by decide +kernel
theorem dX9_init_23 : decode cX9_init 23 = .ok (.iconst 0, 1) := by decide +kernel
theorem dX9_init_24 : decode cX9_init 24 = .ok (.iconst 1, 1) := by decide +kernel
theorem dX9_init_25 : decode cX9_init 25 = .ok (.iastore, 1) := by decide +kernel
theorem dX9_init_26 : decode cX9_init 26 = .ok (.dup, 1) := by decide +kernel
theorem dX9_init_27 : decode cX9_init 27 = .ok (.iconst 1, 1) := by decide +kernel
theorem dX9_init_28 : decode cX9_init 28 = .ok (.iconst 1, 1) := by decide +kernel
theorem dX9_init_29 : decode cX9_init 29 = .ok (.iastore, 1) := by decide +kernel
theorem dX9_init_30 : decode cX9_init 30 = .ok (.putfield 17, 3) := by decide +kernel
theorem dX9_init_33 : decode cX9_init 33 = .ok (.aload_n 0, 1) := by decide +kernel
theorem dX9_init_34 : decode cX9_init 34 = .ok (.iconst 2, 1) := by decide +kernel
theorem dX9_init_35 : decode cX9_init 35 = .ok (.newarray .int, 2) := by decide +kernel
theorem dX9_init_37 : decode cX9_init 37 = .ok (.putfield 20, 3) := by decide +kernel
theorem dX9_init_40 : decode cX9_init 40 = .ok (.aload_n 0, 1) := by decide +kernel
theorem dX9_init_41 : decode cX9_init 41 = .ok (.iconst 2, 1) := by decide +kernel
theorem dX9_init_42 : decode cX9_init 42 = .ok (.newarray .int, 2) := by decide +kernel
theorem dX9_init_44 : decode cX9_init 44 = .ok (.putfield 23, 3) := by decide +kernel
theorem dX9_init_47 : decode cX9_init 47 = .ok (.aload_n 0, 1) := by decide +kernel
theorem dX9_init_48 : decode cX9_init 48 = .ok (.iconst 2, 1) := by decide +kernel
theorem dX9_init_49 : decode cX9_init 49 = .ok (.newarray .int, 2) := by decide +kernel
theorem dX9_init_51 : decode cX9_init 51 = .ok (.putfield 26, 3) := by decide +kernel
theorem dX9_init_54 : decode cX9_init 54 = .ok (.aload_n 0, 1) := by decide +kernel
theorem dX9_init_55 : decode cX9_init 55 = .ok (.iconst 2, 1) := by decide +kernel
theorem dX9_init_56 : decode cX9_init 56 = .ok (.newarray .int, 2) := by decide +kernel
theorem dX9_init_58 : decode cX9_init 58 = .ok (.putfield 29, 3) := by decide +kernel
theorem dX9_init_61 : decode cX9_init 61 = .ok (.aload_n 0, 1) := by decide +kernel
theorem dX9_init_62 : decode cX9_init 62 = .ok (.iconst 2, 1) := by decide +kernel
theorem dX9_init_63 : decode cX9_init 63 = .ok (.newarray .int, 2) := by decide +kernel
theorem dX9_init_65 : decode cX9_init 65 = .ok (.putfield 32, 3) := by decide +kernel
theorem dX9_init_68 : decode cX9_init 68 = .ok (.aload_n 0, 1) := by decide +kernel
theorem dX9_init_69 : decode cX9_init 69 = .ok (.sipush 16384, 3) := by decide +kernel
theorem dX9_init_72 : decode cX9_init 72 = .ok (.newarray .int, 2) := by decide +kernel
theorem dX9_init_74 : decode cX9_init 74 = .ok (.putfield 35, 3) := by decide +kernel
theorem dX9_init_77 : decode cX9_init 77 = .ok (.aload_n 0, 1) := by decide +kernel
theorem dX9_init_78 : decode cX9_init 78 = .ok (.sipush 16384, 3) := by decide +kernel
theorem dX9_init_81 : decode cX9_init 81 = .ok (.newarray .int, 2) := by decide +kernel
theorem dX9_init_83 : decode cX9_init 83 = .ok (.putfield 38, 3) := by decide +kernel
theorem dX9_init_86 : decode cX9_init 86 = .ok (.aload_n 0, 1) := by decide +kernel
theorem dX9_init_87 : decode cX9_init 87 = .ok (.sipush 16384, 3) := by decide +kernel
theorem dX9_init_90 : decode cX9_init 90 = .ok (.newarray .boolean, 2) := by decide +kernel
theorem dX9_init_92 : decode cX9_init 92 = .ok (.putfield 41, 3) := by decide +kernel
theorem dX9_init_95 : decode cX9_init 95 = .ok (.aload_n 0, 1) := by decide +kernel
theorem dX9_init_96 : decode cX9_init 96 = .ok (.sipush 16384, 3) := by decide +kernel
theorem dX9_init_99 : decode cX9_init 99 = .ok (.newarray .int, 2) := by decide +kernel
theorem dX9_init_101 : decode cX9_init 101 = .ok (.putfield 44, 3) := by decide +kernel
theorem dX9_init_104 : decode cX9_init 104 = .ok (.aload_n 0, 1) := by decide +kernel
theorem dX9_init_105 : decode cX9_init 105 = .ok (.sipush 16384, 3) := by decide +kernel
theorem dX9_init_108 : decode cX9_init 108 = .ok (.newarray .int, 2) := by decide +kernel
theorem dX9_init_110 : decode cX9_init 110 = .ok (.putfield 47, 3) := by decide +kernel
theorem dX9_init_113 : decode cX9_init 113 = .ok (.aload_n 0, 1) := by decide +kernel
theorem dX9_init_114 : decode cX9_init 114 = .ok (.sipush 16384, 3) := by decide +kernel
theorem dX9_init_117 : decode cX9_init 117 = .ok (.newarray .int, 2) := by decide +kernel
theorem dX9_init_119 : decode cX9_init 119 = .ok (.putfield 50, 3) := by decide +kernel
theorem dX9_init_122 : decode cX9_init 122 = .ok (.aload_n 0, 1) := by decide +kernel
theorem dX9_init_123 : decode cX9_init 123 = .ok (.sipush 16384, 3) := by decide +kernel
theorem dX9_init_126 : decode cX9_init 126 = .ok (.newarray .int, 2) := by decide +kernel
theorem dX9_init_128 : decode cX9_init 128 = .ok (.putfield 53, 3) := by decide +kernel
theorem dX9_init_131 : decode cX9_init 131 = .ok (.aload_n 0, 1) := by decide +kernel
theorem dX9_init_132 : decode cX9_init 132 = .ok (.sipush 16384, 3) := by decide +kernel
theorem dX9_init_135 : decode cX9_init 135 = .ok (.newarray .int, 2) := by decide +kernel
theorem dX9_init_137 : decode cX9_init 137 = .ok (.putfield 56, 3) := by decide +kernel
theorem dX9_init_140 : decode cX9_init 140 = .ok (.aload_n 0, 1) := by decide +kernel
theorem dX9_init_141 : decode cX9_init 141 = .ok (.iconst 2, 1) := by decide +kernel
theorem dX9_init_142 : decode cX9_init 142 = .ok (.newarray .int, 2) := by decide +kernel
theorem dX9_init_144 : decode cX9_init 144 = .ok (.putfield 59, 3) := by decide +kernel
theorem dX9_init_147 : decode cX9_init 147 = .ok (.aload_n 0, 1) := by decide +kernel
theorem dX9_init_148 : decode cX9_init 148 = .ok (.iconst 2, 1) := by decide +kernel
theorem dX9_init_149 : decode cX9_init 149 = .ok (.newarray .int, 2) := by decide +kernel
theorem dX9_init_151 : decode cX9_init 151 = .ok (.putfield 62, 3) := by decide +kernel
theorem dX9_init_154 : decode cX9_init 154 = .ok (.aload_n 0, 1) := by decide +kernel
theorem dX9_init_155 : decode cX9_init 155 = .ok (.ldc 65, 2) := by decide +kernel
theorem dX9_init_157 : decode cX9_init 157 = .ok (.newarray .int, 2) := by decide +kernel
theorem dX9_init_159 : decode cX9_init 159 = .ok (.putfield 66, 3) := by decide +kernel
theorem dX9_init_162 : decode cX9_init 162 = .ok (.aload_n 0, 1) := by decide +kernel
theorem dX9_init_163 : decode cX9_init 163 = .ok (.bipush 40, 2) := by decide +kernel
theorem dX9_init_165 : decode cX9_init 165 = .ok (.newarray .boolean, 2) := by decide +kernel
theorem dX9_init_167 : decode cX9_init 167 = .ok (.putfield 69, 3) := by decide +kernel
theorem dX9_init_170 : decode cX9_init 170 = .ok (.aload_n 0, 1) := by decide +kernel
theorem dX9_init_171 : decode cX9_init 171 = .ok (.bipush 80, 2) := by decide +kernel
theorem dX9_init_173 : decode cX9_init 173 = .ok (.newarray .boolean, 2) := by decide +kernel
theorem dX9_init_175 : decode cX9_init 175 = .ok (.putfield 72, 3) := by decide +kernel
theorem dX9_init_178 : decode cX9_init 178 = .ok (.aload_n 0, 1) := by decide +kernel
theorem dX9_init_179 : decode cX9_init 179 = .ok (.bipush 80, 2) := by decide +kernel
theorem dX9_init_181 : decode cX9_init 181 = .ok (.newarray .int, 2) := by decide +kernel
theorem dX9_init_183 : decode cX9_init 183 = .ok (.putfield 75, 3) := by decide +kernel
theorem dX9_init_186 : decode cX9_init 186 = .ok (.aload_n 0, 1) := by decide +kernel
theorem dX9_init_187 : decode cX9_init 187 = .ok (.bipush 80, 2) := by decide +kernel
theorem dX9_init_189 : decode cX9_init 189 = .ok (.newarray .int, 2) := by decide +kernel
theorem dX9_init_191 : decode cX9_init 191 = .ok (.putfield 78, 3) := by decide +kernel
theorem dX9_init_194 : decode cX9_init 194 = .ok (.aload_n 0, 1) := by decide +kernel
theorem dX9_init_195 : decode cX9_init 195 = .ok (.bipush 80, 2) := by decide +kernel
theorem dX9_init_197 : decode cX9_init 197 = .ok (.newarray .int, 2) := by decide +kernel
theorem dX9_init_199 : decode cX9_init 199 = .ok (.putfield 81, 3) := by decide +kernel
theorem dX9_init_202 : decode cX9_init 202 = .ok (.aload_n 0, 1) := by decide +kernel
theorem dX9_init_203 : decode cX9_init 203 = .ok (.bipush 80, 2) := by decide +kernel
theorem dX9_init_205 : decode cX9_init 205 = .ok (.newarray .int, 2) := by decide +kernel
theorem dX9_init_207 : decode cX9_init 207 = .ok (.putfield 84, 3) := by decide +kernel
theorem dX9_init_210 : decode cX9_init 210 = .ok (.aload_n 0, 1) := by decide +kernel
theorem dX9_init_211 : decode cX9_init 211 = .ok (.bipush 40, 2) := by decide +kernel
theorem dX9_init_213 : decode cX9_init 213 = .ok (.newarray .boolean, 2) := by decide +kernel
theorem dX9_init_215 : decode cX9_init 215 = .ok (.putfield 87, 3) := by decide +kernel
theorem dX9_init_218 : decode cX9_init 218 = .ok (.aload_n 0, 1) := by decide +kernel
theorem dX9_init_219 : decode cX9_init 219 = .ok (.bipush 40, 2) := by decide +kernel
theorem dX9_init_221 : decode cX9_init 221 = .ok (.newarray .int, 2) := by decide +kernel
theorem dX9_init_223 : decode cX9_init 223 = .ok (.putfield 90, 3) := by decide +kernel
theorem dX9_init_226 : decode cX9_init 226 = .ok (.aload_n 0, 1) := by decide +kernel
theorem dX9_init_227 : decode cX9_init 227 = .ok (.bipush 40, 2) := by decide +kernel
theorem dX9_init_229 : decode cX9_init 229 = .ok (.newarray .int, 2) := by decide +kernel
theorem dX9_init_231 : decode cX9_init 231 = .ok (.putfield 93, 3) := by decide +kernel
theorem dX9_init_234 : decode cX9_init 234 = .ok (.aload_n 0, 1) := by decide +kernel
theorem dX9_init_235 : decode cX9_init 235 = .ok (.bipush 6, 2) := by decide +kernel
theorem dX9_init_237 : decode cX9_init 237 = .ok (.newarray .int, 2) := by decide +kernel
theorem dX9_init_239 : decode cX9_init 239 = .ok (.putfield 96, 3) := by decide +kernel
theorem dX9_init_242 : decode cX9_init 242 = .ok (.aload_n 0, 1) := by decide +kernel
theorem dX9_init_243 : decode cX9_init 243 = .ok (.bipush 6, 2) := by decide +kernel
theorem dX9_init_245 : decode cX9_init 245 = .ok (.newarray .int, 2) := by decide +kernel
theorem dX9_init_247 : decode cX9_init 247 = .ok (.putfield 99, 3) := by decide +kernel
theorem dX9_init_250 : decode cX9_init 250 = .ok (.aload_n 0, 1) := by decide +kernel
theorem dX9_init_251 : decode cX9_init 251 = .ok (.bipush 100, 2) := by decide +kernel
theorem dX9_init_253 : decode cX9_init 253 = .ok (.newarray .int, 2) := by decide +kernel
theorem dX9_init_255 : decode cX9_init 255 = .ok (.putfield 102, 3) := by decide +kernel
theorem dX9_init_258 : decode cX9_init 258 = .ok (.aload_n 0, 1) := by decide +kernel
theorem dX9_init_259 : decode cX9_init 259 = .ok (.bipush 100, 2) := by decide +kernel
theorem dX9_init_261 : decode cX9_init 261 = .ok (.newarray .int, 2) := by decide +kernel
theorem dX9_init_263 : decode cX9_init 263 = .ok (.putfield 105, 3) := by decide +kernel
theorem dX9_init_266 : decode cX9_init 266 = .ok (.aload_n 0, 1) := by decide +kernel
theorem dX9_init_267 : decode cX9_init 267 = .ok (.bipush 100, 2) := by decide +kernel
theorem dX9_init_269 : decode cX9_init 269 = .ok (.newarray .int, 2) := by decide +kernel
theorem dX9_init_271 : decode cX9_init 271 = .ok (.putfield 108, 3) := by decide +kernel
theorem dX9_init_274 : decode cX9_init 274 = .ok (.aload_n 0, 1) := by decide +kernel
theorem dX9_init_275 : decode cX9_init 275 = .ok (.bipush 100, 2) := by decide +kernel
theorem dX9_init_277 : decode cX9_init 277 = .ok (.newarray .int, 2) := by decide +kernel
theorem dX9_init_279 : decode cX9_init 279 = .ok (.putfield 111, 3) := by decide +kernel
theorem dX9_init_282 : decode cX9_init 282 = .ok (.aload_n 0, 1) := by decide +kernel
theorem dX9_init_283 : decode cX9_init 283 = .ok (.bipush 100, 2) := by decide +kernel
theorem dX9_init_285 : decode cX9_init 285 = .ok (.newarray .int, 2) := by decide +kernel
theorem dX9_init_287 : decode cX9_init 287 = .ok (.putfield 114, 3) := by decide +kernel
theorem dX9_init_290 : decode cX9_init 290 = .ok (.aload_n 0, 1) := by decide +kernel
theorem dX9_init_291 : decode cX9_init 291 = .ok (.sipush 200, 3) := by decide +kernel
theorem dX9_init_294 : decode cX9_init 294 = .ok (.newarray .int, 2) := by decide +kernel
theorem dX9_init_296 : decode cX9_init 296 = .ok (.putfield 117, 3) := by decide +kernel
theorem dX9_init_299 : decode cX9_init 299 = .ok (.aload_n 0, 1) := by decide +kernel
theorem dX9_init_300 : decode cX9_init 300 = .ok (.sipush 200, 3) := by decide +kernel
theorem dX9_init_303 : decode cX9_init 303 = .ok (.newarray .boolean, 2) := by decide +kernel
theorem dX9_init_305 : decode cX9_init 305 = .ok (.putfield 120, 3) := by decide +kernel
theorem dX9_init_308 : decode cX9_init 308 = .ok (.aload_n 0, 1) := by decide +kernel
theorem dX9_init_309 : decode cX9_init 309 = .ok (.sipush 200, 3) := by decide +kernel
theorem dX9_init_312 : decode cX9_init 312 = .ok (.newarray .boolean, 2) := by decide +kernel
theorem dX9_init_314 : decode cX9_init 314 = .ok (.putfield 123, 3) := by decide +kernel
theorem dX9_init_317 : decode cX9_init 317 = .ok (.return_, 1) := by decide +kernel
theorem dX9_thrown_0 : decode cX9_thrown 0 = .ok (.aload_n 0, 1) := by decide +kernel
theorem dX9_thrown_1 : decode cX9_thrown 1 = .ok (.getfield 126, 3) := by decide +kernel
theorem dX9_thrown_4 : decode cX9_thrown 4 = .ok (.ireturn, 1) := by decide +kernel
theorem dX9_in_0 : decode cX9_in 0 = .ok (.iload_n 0, 1) := by decide +kernel
theorem dX9_in_1 : decode cX9_in 1 = .ok (.iload_n 1, 1) := by decide +kernel
theorem dX9_in_2 : decode cX9_in 2 = .ok (.if_icmp .lt 12, 3) := by decide +kernel
theorem dX9_in_5 : decode cX9_in 5 = .ok (.iload_n 0, 1) := by decide +kernel
theorem dX9_in_6 : decode cX9_in 6 = .ok (.iload_n 2, 1) := by decide +kernel
theorem dX9_in_7 : decode cX9_in 7 = .ok (.if_icmp .gt 7, 3) := by decide +kernel
theorem dX9_in_10 : decode cX9_in 10 = .ok (.iconst 1, 1) := by decide +kernel
theorem dX9_in_11 : decode cX9_in 11 = .ok (.goto 4, 3) := by decide +kernel
theorem dX9_in_14 : decode cX9_in 14 = .ok (.iconst 0, 1) := by decide +kernel
theorem dX9_in_15 : decode cX9_in 15 = .ok (.ireturn, 1) := by decide +kernel
theorem dX9_isSide_0 : decode cX9_isSide 0 = .ok (.iload_n 0, 1) := by decide +kernel
theorem dX9_isSide_1 : decode cX9_isSide 1 = .ok (.iconst 0, 1) := by decide +kernel
theorem dX9_isSide_2 : decode cX9_isSide 2 = .ok (.iconst 1, 1) := by decide +kernel
theorem dX9_isSide_3 : decode cX9_isSide 3 = .ok (.invokestatic 130, 3) := by decide +kernel
theorem dX9_isSide_6 : decode cX9_isSide 6 = .ok (.ireturn, 1) := by decide +kernel
theorem dX9_isOrder_0 : decode cX9_isOrder 0 = .ok (.iload_n 1, 1) := by decide +kernel
theorem dX9_isOrder_1 : decode cX9_isOrder 1 = .ok (.iconst 0, 1) := by decide +kernel
theorem dX9_isOrder_2 : decode cX9_isOrder 2 = .ok (.aload_n 0, 1) := by decide +kernel
theorem dX9_isOrder_3 : decode cX9_isOrder 3 = .ok (.getfield 134, 3) := by decide +kernel
theorem dX9_isOrder_6 : decode cX9_isOrder 6 = .ok (.iconst 1, 1) := by decide +kernel
theorem dX9_isOrder_7 : decode cX9_isOrder 7 = .ok (.isub, 1) := by decide +kernel
theorem dX9_isOrder_8 : decode cX9_isOrder 8 = .ok (.invokestatic 130, 3) := by decide +kernel
theorem dX9_isOrder_11 : decode cX9_isOrder 11 = .ok (.ireturn, 1) := by decide +kernel
theorem dX9_isVenue_0 : decode cX9_isVenue 0 = .ok (.iload_n 0, 1) := by decide +kernel
theorem dX9_isVenue_1 : decode cX9_isVenue 1 = .ok (.iconst 0, 1) := by decide +kernel
theorem dX9_isVenue_2 : decode cX9_isVenue 2 = .ok (.iconst 2, 1) := by decide +kernel
theorem dX9_isVenue_3 : decode cX9_isVenue 3 = .ok (.invokestatic 130, 3) := by decide +kernel
theorem dX9_isVenue_6 : decode cX9_isVenue 6 = .ok (.ireturn, 1) := by decide +kernel
theorem dX9_placeOf_0 : decode cX9_placeOf 0 = .ok (.ldc 137, 2) := by decide +kernel
theorem dX9_placeOf_2 : decode cX9_placeOf 2 = .ok (.iload_n 1, 1) := by decide +kernel
theorem dX9_placeOf_3 : decode cX9_placeOf 3 = .ok (.imul, 1) := by decide +kernel
theorem dX9_placeOf_4 : decode cX9_placeOf 4 = .ok (.aload_n 0, 1) := by decide +kernel
theorem dX9_placeOf_5 : decode cX9_placeOf 5 = .ok (.getfield 59, 3) := by decide +kernel
theorem dX9_placeOf_8 : decode cX9_placeOf 8 = .ok (.iload_n 1, 1) := by decide +kernel
theorem dX9_placeOf_9 : decode cX9_placeOf 9 = .ok (.iaload, 1) := by decide +kernel
theorem dX9_placeOf_10 : decode cX9_placeOf 10 = .ok (.iload_n 2, 1) := by decide +kernel
theorem dX9_placeOf_11 : decode cX9_placeOf 11 = .ok (.iadd, 1) := by decide +kernel
theorem dX9_placeOf_12 : decode cX9_placeOf 12 = .ok (.ldc 137, 2) := by decide +kernel
theorem dX9_placeOf_14 : decode cX9_placeOf 14 = .ok (.irem, 1) := by decide +kernel
theorem dX9_placeOf_15 : decode cX9_placeOf 15 = .ok (.iadd, 1) := by decide +kernel
theorem dX9_placeOf_16 : decode cX9_placeOf 16 = .ok (.ireturn, 1) := by decide +kernel
theorem dX9_goes_0 : decode cX9_goes 0 = .ok (.iconst 1, 1) := by decide +kernel
theorem dX9_goes_1 : decode cX9_goes 1 = .ok (.iload_n 1, 1) := by decide +kernel
theorem dX9_goes_2 : decode cX9_goes 2 = .ok (.isub, 1) := by decide +kernel
theorem dX9_goes_3 : decode cX9_goes 3 = .ok (.istore 4, 2) := by decide +kernel
theorem dX9_goes_5 : decode cX9_goes 5 = .ok (.aload_n 0, 1) := by decide +kernel
theorem dX9_goes_6 : decode cX9_goes 6 = .ok (.getfield 66, 3) := by decide +kernel
theorem dX9_goes_9 : decode cX9_goes 9 = .ok (.aload_n 0, 1) := by decide +kernel
theorem dX9_goes_10 : decode cX9_goes 10 = .ok (.iload 4, 2) := by decide +kernel
theorem dX9_goes_12 : decode cX9_goes 12 = .ok (.aload_n 0, 1) := by decide +kernel
theorem dX9_goes_13 : decode cX9_goes 13 = .ok (.getfield 62, 3) := by decide +kernel
theorem dX9_goes_16 : decode cX9_goes 16 = .ok (.iload 4, 2) := by decide +kernel
theorem dX9_goes_18 : decode cX9_goes 18 = .ok (.iaload, 1) := by decide +kernel
theorem dX9_goes_19 : decode cX9_goes 19 = .ok (.invokevirtual 138, 3) := by decide +kernel
theorem dX9_goes_22 : decode cX9_goes 22 = .ok (.iconst 2, 1) := by decide +kernel
theorem dX9_goes_23 : decode cX9_goes 23 = .ok (.sipush 8192, 3) := by decide +kernel
theorem dX9_goes_26 : decode cX9_goes 26 = .ok (.iload_n 2, 1) := by decide +kernel
theorem dX9_goes_27 : decode cX9_goes 27 = .ok (.imul, 1) := by decide +kernel
theorem dX9_goes_28 : decode cX9_goes 28 = .ok (.iload_n 3, 1) := by decide +kernel
theorem dX9_goes_29 : decode cX9_goes 29 = .ok (.iadd, 1) := by decide +kernel
theorem dX9_goes_30 : decode cX9_goes 30 = .ok (.imul, 1) := by decide +kernel
theorem dX9_goes_31 : decode cX9_goes 31 = .ok (.iastore, 1) := by decide +kernel
theorem dX9_goes_32 : decode cX9_goes 32 = .ok (.aload_n 0, 1) := by decide +kernel
theorem dX9_goes_33 : decode cX9_goes 33 = .ok (.getfield 62, 3) := by decide +kernel
theorem dX9_goes_36 : decode cX9_goes 36 = .ok (.iload 4, 2) := by decide +kernel
theorem dX9_goes_38 : decode cX9_goes 38 = .ok (.dup2, 1) := by decide +kernel
theorem dX9_goes_39 : decode cX9_goes 39 = .ok (.iaload, 1) := by decide +kernel
theorem dX9_goes_40 : decode cX9_goes 40 = .ok (.iconst 1, 1) := by decide +kernel
theorem dX9_goes_41 : decode cX9_goes 41 = .ok (.iadd, 1) := by decide +kernel
theorem dX9_goes_42 : decode cX9_goes 42 = .ok (.iastore, 1) := by decide +kernel
theorem dX9_goes_43 : decode cX9_goes 43 = .ok (.aload_n 0, 1) := by decide +kernel
theorem dX9_goes_44 : decode cX9_goes 44 = .ok (.getfield 29, 3) := by decide +kernel
theorem dX9_goes_47 : decode cX9_goes 47 = .ok (.iload_n 1, 1) := by decide +kernel
theorem dX9_goes_48 : decode cX9_goes 48 = .ok (.aload_n 0, 1) := by decide +kernel
theorem dX9_goes_49 : decode cX9_goes 49 = .ok (.getfield 142, 3) := by decide +kernel
theorem dX9_goes_52 : decode cX9_goes 52 = .ok (.iastore, 1) := by decide +kernel
theorem dX9_goes_53 : decode cX9_goes 53 = .ok (.return_, 1) := by decide +kernel
theorem dX9_sends_0 : decode cX9_sends 0 = .ok (.aload_n 0, 1) := by decide +kernel
theorem dX9_sends_1 : decode cX9_sends 1 = .ok (.getfield 13, 3) := by decide +kernel
theorem dX9_sends_4 : decode cX9_sends 4 = .ok (.iload_n 1, 1) := by decide +kernel
theorem dX9_sends_5 : decode cX9_sends 5 = .ok (.dup2, 1) := by decide +kernel
theorem dX9_sends_6 : decode cX9_sends 6 = .ok (.iaload, 1) := by decide +kernel
theorem dX9_sends_7 : decode cX9_sends 7 = .ok (.iconst 1, 1) := by decide +kernel
theorem dX9_sends_8 : decode cX9_sends 8 = .ok (.iadd, 1) := by decide +kernel
theorem dX9_sends_9 : decode cX9_sends 9 = .ok (.iastore, 1) := by decide +kernel
theorem dX9_sends_10 : decode cX9_sends 10 = .ok (.sipush 8192, 3) := by decide +kernel
theorem dX9_sends_13 : decode cX9_sends 13 = .ok (.iload_n 1, 1) := by decide +kernel
theorem dX9_sends_14 : decode cX9_sends 14 = .ok (.imul, 1) := by decide +kernel
theorem dX9_sends_15 : decode cX9_sends 15 = .ok (.aload_n 0, 1) := by decide +kernel
theorem dX9_sends_16 : decode cX9_sends 16 = .ok (.getfield 13, 3) := by decide +kernel
theorem dX9_sends_19 : decode cX9_sends 19 = .ok (.iload_n 1, 1) := by decide +kernel
theorem dX9_sends_20 : decode cX9_sends 20 = .ok (.iaload, 1) := by decide +kernel
theorem dX9_sends_21 : decode cX9_sends 21 = .ok (.iadd, 1) := by decide +kernel
theorem dX9_sends_22 : decode cX9_sends 22 = .ok (.istore 7, 2) := by decide +kernel
theorem dX9_sends_24 : decode cX9_sends 24 = .ok (.aload_n 0, 1) := by decide +kernel
theorem dX9_sends_25 : decode cX9_sends 25 = .ok (.getfield 35, 3) := by decide +kernel
theorem dX9_sends_28 : decode cX9_sends 28 = .ok (.iload 7, 2) := by decide +kernel
theorem dX9_sends_30 : decode cX9_sends 30 = .ok (.iload_n 2, 1) := by decide +kernel
theorem dX9_sends_31 : decode cX9_sends 31 = .ok (.iastore, 1) := by decide +kernel
theorem dX9_sends_32 : decode cX9_sends 32 = .ok (.aload_n 0, 1) := by decide +kernel
theorem dX9_sends_33 : decode cX9_sends 33 = .ok (.getfield 38, 3) := by decide +kernel
theorem dX9_sends_36 : decode cX9_sends 36 = .ok (.iload 7, 2) := by decide +kernel
theorem dX9_sends_38 : decode cX9_sends 38 = .ok (.aload_n 0, 1) := by decide +kernel
theorem dX9_sends_39 : decode cX9_sends 39 = .ok (.getfield 142, 3) := by decide +kernel
theorem dX9_sends_42 : decode cX9_sends 42 = .ok (.iastore, 1) := by decide +kernel
theorem dX9_sends_43 : decode cX9_sends 43 = .ok (.aload_n 0, 1) := by decide +kernel
theorem dX9_sends_44 : decode cX9_sends 44 = .ok (.getfield 41, 3) := by decide +kernel
theorem dX9_sends_47 : decode cX9_sends 47 = .ok (.iload 7, 2) := by decide +kernel
theorem dX9_sends_49 : decode cX9_sends 49 = .ok (.iconst 0, 1) := by decide +kernel
theorem dX9_sends_50 : decode cX9_sends 50 = .ok (.bastore, 1) := by decide +kernel
theorem dX9_sends_51 : decode cX9_sends 51 = .ok (.aload_n 0, 1) := by decide +kernel
theorem dX9_sends_52 : decode cX9_sends 52 = .ok (.getfield 44, 3) := by decide +kernel
theorem dX9_sends_55 : decode cX9_sends 55 = .ok (.iload 7, 2) := by decide +kernel
theorem dX9_sends_57 : decode cX9_sends 57 = .ok (.iload_n 3, 1) := by decide +kernel
theorem dX9_sends_58 : decode cX9_sends 58 = .ok (.iastore, 1) := by decide +kernel
theorem dX9_sends_59 : decode cX9_sends 59 = .ok (.aload_n 0, 1) := by decide +kernel
theorem dX9_sends_60 : decode cX9_sends 60 = .ok (.getfield 47, 3) := by decide +kernel
theorem dX9_sends_63 : decode cX9_sends 63 = .ok (.iload 7, 2) := by decide +kernel
theorem dX9_sends_65 : decode cX9_sends 65 = .ok (.iload 4, 2) := by decide +kernel
theorem dX9_sends_67 : decode cX9_sends 67 = .ok (.iastore, 1) := by decide +kernel
theorem dX9_sends_68 : decode cX9_sends 68 = .ok (.aload_n 0, 1) := by decide +kernel
theorem dX9_sends_69 : decode cX9_sends 69 = .ok (.getfield 50, 3) := by decide +kernel
theorem dX9_sends_72 : decode cX9_sends 72 = .ok (.iload 7, 2) := by decide +kernel
theorem dX9_sends_74 : decode cX9_sends 74 = .ok (.iload 5, 2) := by decide +kernel
theorem dX9_sends_76 : decode cX9_sends 76 = .ok (.iastore, 1) := by decide +kernel
theorem dX9_sends_77 : decode cX9_sends 77 = .ok (.aload_n 0, 1) := by decide +kernel
theorem dX9_sends_78 : decode cX9_sends 78 = .ok (.getfield 53, 3) := by decide +kernel
theorem dX9_sends_81 : decode cX9_sends 81 = .ok (.iload 7, 2) := by decide +kernel
theorem dX9_sends_83 : decode cX9_sends 83 = .ok (.iload 6, 2) := by decide +kernel
theorem dX9_sends_85 : decode cX9_sends 85 = .ok (.iastore, 1) := by decide +kernel
theorem dX9_sends_86 : decode cX9_sends 86 = .ok (.aload_n 0, 1) := by decide +kernel
theorem dX9_sends_87 : decode cX9_sends 87 = .ok (.getfield 145, 3) := by decide +kernel
theorem dX9_sends_90 : decode cX9_sends 90 = .ok (.ifCond .eq 15, 3) := by decide +kernel
theorem dX9_sends_93 : decode cX9_sends 93 = .ok (.aload_n 0, 1) := by decide +kernel
theorem dX9_sends_94 : decode cX9_sends 94 = .ok (.iload_n 1, 1) := by decide +kernel
theorem dX9_sends_95 : decode cX9_sends 95 = .ok (.aload_n 0, 1) := by decide +kernel
theorem dX9_sends_96 : decode cX9_sends 96 = .ok (.getfield 13, 3) := by decide +kernel
theorem dX9_sends_99 : decode cX9_sends 99 = .ok (.iload_n 1, 1) := by decide +kernel
theorem dX9_sends_100 : decode cX9_sends 100 = .ok (.iaload, 1) := by decide +kernel
theorem dX9_sends_101 : decode cX9_sends 101 = .ok (.iconst 0, 1) := by decide +kernel
theorem dX9_sends_102 : decode cX9_sends 102 = .ok (.invokevirtual 149, 3) := by decide +kernel
theorem dX9_sends_105 : decode cX9_sends 105 = .ok (.return_, 1) := by decide +kernel
theorem dX9_reports_0 : decode cX9_reports 0 = .ok (.aload_n 0, 1) := by decide +kernel
theorem dX9_reports_1 : decode cX9_reports 1 = .ok (.iconst 1, 1) := by decide +kernel
theorem dX9_reports_2 : decode cX9_reports 2 = .ok (.bipush 8, 2) := by decide +kernel
theorem dX9_reports_4 : decode cX9_reports 4 = .ok (.iload_n 1, 1) := by decide +kernel
theorem dX9_reports_5 : decode cX9_reports 5 = .ok (.iload_n 2, 1) := by decide +kernel
theorem dX9_reports_6 : decode cX9_reports 6 = .ok (.iload_n 3, 1) := by decide +kernel
theorem dX9_reports_7 : decode cX9_reports 7 = .ok (.iload 4, 2) := by decide +kernel
theorem dX9_reports_9 : decode cX9_reports 9 = .ok (.invokevirtual 153, 3) := by decide +kernel
theorem dX9_reports_12 : decode cX9_reports 12 = .ok (.return_, 1) := by decide +kernel
theorem dX9_forgets_0 : decode cX9_forgets 0 = .ok (.iconst 0, 1) := by decide +kernel
theorem dX9_forgets_1 : decode cX9_forgets 1 = .ok (.istore_n 2, 1) := by decide +kernel
theorem dX9_forgets_2 : decode cX9_forgets 2 = .ok (.iload_n 2, 1) := by decide +kernel
theorem dX9_forgets_3 : decode cX9_forgets 3 = .ok (.sipush 8192, 3) := by decide +kernel
theorem dX9_forgets_6 : decode cX9_forgets 6 = .ok (.if_icmp .ge 22, 3) := by decide +kernel
theorem dX9_forgets_9 : decode cX9_forgets 9 = .ok (.aload_n 0, 1) := by decide +kernel
theorem dX9_forgets_10 : decode cX9_forgets 10 = .ok (.getfield 56, 3) := by decide +kernel
theorem dX9_forgets_13 : decode cX9_forgets 13 = .ok (.sipush 8192, 3) := by decide +kernel
theorem dX9_forgets_16 : decode cX9_forgets 16 = .ok (.iload_n 1, 1) := by decide +kernel
theorem dX9_forgets_17 : decode cX9_forgets 17 = .ok (.imul, 1) := by decide +kernel
theorem dX9_forgets_18 : decode cX9_forgets 18 = .ok (.iload_n 2, 1) := by decide +kernel
theorem dX9_forgets_19 : decode cX9_forgets 19 = .ok (.iadd, 1) := by decide +kernel
theorem dX9_forgets_20 : decode cX9_forgets 20 = .ok (.iconst 0, 1) := by decide +kernel
theorem dX9_forgets_21 : decode cX9_forgets 21 = .ok (.iastore, 1) := by decide +kernel
theorem dX9_forgets_22 : decode cX9_forgets 22 = .ok (.iinc 2 1, 3) := by decide +kernel
theorem dX9_forgets_25 : decode cX9_forgets 25 = .ok (.goto (-23), 3) := by decide +kernel
theorem dX9_forgets_28 : decode cX9_forgets 28 = .ok (.aload_n 0, 1) := by decide +kernel
theorem dX9_forgets_29 : decode cX9_forgets 29 = .ok (.getfield 20, 3) := by decide +kernel
theorem dX9_forgets_32 : decode cX9_forgets 32 = .ok (.iload_n 1, 1) := by decide +kernel
theorem dX9_forgets_33 : decode cX9_forgets 33 = .ok (.iconst 0, 1) := by decide +kernel
theorem dX9_forgets_34 : decode cX9_forgets 34 = .ok (.iastore, 1) := by decide +kernel
theorem dX9_forgets_35 : decode cX9_forgets 35 = .ok (.aload_n 0, 1) := by decide +kernel
theorem dX9_forgets_36 : decode cX9_forgets 36 = .ok (.getfield 23, 3) := by decide +kernel
theorem dX9_forgets_39 : decode cX9_forgets 39 = .ok (.iload_n 1, 1) := by decide +kernel
theorem dX9_forgets_40 : decode cX9_forgets 40 = .ok (.iconst 0, 1) := by decide +kernel
theorem dX9_forgets_41 : decode cX9_forgets 41 = .ok (.iastore, 1) := by decide +kernel
theorem dX9_forgets_42 : decode cX9_forgets 42 = .ok (.aload_n 0, 1) := by decide +kernel
theorem dX9_forgets_43 : decode cX9_forgets 43 = .ok (.getfield 7, 3) := by decide +kernel
theorem dX9_forgets_46 : decode cX9_forgets 46 = .ok (.iload_n 1, 1) := by decide +kernel
theorem dX9_forgets_47 : decode cX9_forgets 47 = .ok (.iconst 0, 1) := by decide +kernel
theorem dX9_forgets_48 : decode cX9_forgets 48 = .ok (.bastore, 1) := by decide +kernel
theorem dX9_forgets_49 : decode cX9_forgets 49 = .ok (.aload_n 0, 1) := by decide +kernel
theorem dX9_forgets_50 : decode cX9_forgets 50 = .ok (.getfield 59, 3) := by decide +kernel
theorem dX9_forgets_53 : decode cX9_forgets 53 = .ok (.iload_n 1, 1) := by decide +kernel
theorem dX9_forgets_54 : decode cX9_forgets 54 = .ok (.iconst 0, 1) := by decide +kernel
theorem dX9_forgets_55 : decode cX9_forgets 55 = .ok (.iastore, 1) := by decide +kernel
theorem dX9_forgets_56 : decode cX9_forgets 56 = .ok (.aload_n 0, 1) := by decide +kernel
theorem dX9_forgets_57 : decode cX9_forgets 57 = .ok (.getfield 62, 3) := by decide +kernel
theorem dX9_forgets_60 : decode cX9_forgets 60 = .ok (.iload_n 1, 1) := by decide +kernel
theorem dX9_forgets_61 : decode cX9_forgets 61 = .ok (.iconst 0, 1) := by decide +kernel
theorem dX9_forgets_62 : decode cX9_forgets 62 = .ok (.iastore, 1) := by decide +kernel
theorem dX9_forgets_63 : decode cX9_forgets 63 = .ok (.return_, 1) := by decide +kernel
theorem dX9_goesDown_0 : decode cX9_goesDown 0 = .ok (.aload_n 0, 1) := by decide +kernel
theorem dX9_goesDown_1 : decode cX9_goesDown 1 = .ok (.getfield 62, 3) := by decide +kernel
theorem dX9_goesDown_4 : decode cX9_goesDown 4 = .ok (.iconst 0, 1) := by decide +kernel
theorem dX9_goesDown_5 : decode cX9_goesDown 5 = .ok (.iaload, 1) := by decide +kernel
theorem dX9_goesDown_6 : decode cX9_goesDown 6 = .ok (.aload_n 0, 1) := by decide +kernel
theorem dX9_goesDown_7 : decode cX9_goesDown 7 = .ok (.getfield 62, 3) := by decide +kernel
theorem dX9_goesDown_10 : decode cX9_goesDown 10 = .ok (.iconst 1, 1) := by decide +kernel
theorem dX9_goesDown_11 : decode cX9_goesDown 11 = .ok (.iaload, 1) := by decide +kernel
theorem dX9_goesDown_12 : decode cX9_goesDown 12 = .ok (.iadd, 1) := by decide +kernel
theorem dX9_goesDown_13 : decode cX9_goesDown 13 = .ok (.istore_n 1, 1) := by decide +kernel
theorem dX9_goesDown_14 : decode cX9_goesDown 14 = .ok (.aload_n 0, 1) := by decide +kernel
theorem dX9_goesDown_15 : decode cX9_goesDown 15 = .ok (.iconst 0, 1) := by decide +kernel
theorem dX9_goesDown_16 : decode cX9_goesDown 16 = .ok (.putfield 145, 3) := by decide +kernel
theorem dX9_goesDown_19 : decode cX9_goesDown 19 = .ok (.aload_n 0, 1) := by decide +kernel
theorem dX9_goesDown_20 : decode cX9_goesDown 20 = .ok (.iconst 0, 1) := by decide +kernel
theorem dX9_goesDown_21 : decode cX9_goesDown 21 = .ok (.invokevirtual 157, 3) := by decide +kernel
theorem dX9_goesDown_24 : decode cX9_goesDown 24 = .ok (.aload_n 0, 1) := by decide +kernel
theorem dX9_goesDown_25 : decode cX9_goesDown 25 = .ok (.iconst 1, 1) := by decide +kernel
theorem dX9_goesDown_26 : decode cX9_goesDown 26 = .ok (.invokevirtual 157, 3) := by decide +kernel
theorem dX9_goesDown_29 : decode cX9_goesDown 29 = .ok (.iload_n 1, 1) := by decide +kernel
theorem dX9_goesDown_30 : decode cX9_goesDown 30 = .ok (.ireturn, 1) := by decide +kernel
theorem dX9_connect_0 : decode cX9_connect 0 = .ok (.aload_n 0, 1) := by decide +kernel
theorem dX9_connect_1 : decode cX9_connect 1 = .ok (.aload_n 0, 1) := by decide +kernel
theorem dX9_connect_2 : decode cX9_connect 2 = .ok (.getfield 145, 3) := by decide +kernel
theorem dX9_connect_5 : decode cX9_connect 5 = .ok (.ifCond .eq 7, 3) := by decide +kernel
theorem dX9_connect_8 : decode cX9_connect 8 = .ok (.iconst 1, 1) := by decide +kernel
theorem dX9_connect_9 : decode cX9_connect 9 = .ok (.goto 4, 3) := by decide +kernel
theorem dX9_connect_12 : decode cX9_connect 12 = .ok (.iconst 0, 1) := by decide +kernel
theorem dX9_connect_13 : decode cX9_connect 13 = .ok (.putfield 126, 3) := by decide +kernel
theorem dX9_connect_16 : decode cX9_connect 16 = .ok (.aload_n 0, 1) := by decide +kernel
theorem dX9_connect_17 : decode cX9_connect 17 = .ok (.getfield 126, 3) := by decide +kernel
theorem dX9_connect_20 : decode cX9_connect 20 = .ok (.ifCond .le 4, 3) := by decide +kernel
theorem dX9_connect_23 : decode cX9_connect 23 = .ok (.return_, 1) := by decide +kernel
theorem dX9_connect_24 : decode cX9_connect 24 = .ok (.iconst 0, 1) := by decide +kernel
theorem dX9_connect_25 : decode cX9_connect 25 = .ok (.istore_n 2, 1) := by decide +kernel
theorem dX9_connect_26 : decode cX9_connect 26 = .ok (.iload_n 2, 1) := by decide +kernel
theorem dX9_connect_27 : decode cX9_connect 27 = .ok (.iconst 2, 1) := by decide +kernel
theorem dX9_connect_28 : decode cX9_connect 28 = .ok (.if_icmp .ge 69, 3) := by decide +kernel
theorem dX9_connect_31 : decode cX9_connect 31 = .ok (.aload_n 0, 1) := by decide +kernel
theorem dX9_connect_32 : decode cX9_connect 32 = .ok (.getfield 13, 3) := by decide +kernel
theorem dX9_connect_35 : decode cX9_connect 35 = .ok (.iload_n 2, 1) := by decide +kernel
theorem dX9_connect_36 : decode cX9_connect 36 = .ok (.iload_n 1, 1) := by decide +kernel
theorem dX9_connect_37 : decode cX9_connect 37 = .ok (.ifCond .eq 7, 3) := by decide +kernel
theorem dX9_connect_40 : decode cX9_connect 40 = .ok (.iconst 0, 1) := by decide +kernel
theorem dX9_connect_41 : decode cX9_connect 41 = .ok (.goto 9, 3) := by decide +kernel
theorem dX9_connect_44 : decode cX9_connect 44 = .ok (.aload_n 0, 1) := by decide +kernel
theorem dX9_connect_45 : decode cX9_connect 45 = .ok (.getfield 13, 3) := by decide +kernel
theorem dX9_connect_48 : decode cX9_connect 48 = .ok (.iload_n 2, 1) := by decide +kernel
theorem dX9_connect_49 : decode cX9_connect 49 = .ok (.iaload, 1) := by decide +kernel
theorem dX9_connect_50 : decode cX9_connect 50 = .ok (.iastore, 1) := by decide +kernel
theorem dX9_connect_51 : decode cX9_connect 51 = .ok (.aload_n 0, 1) := by decide +kernel
theorem dX9_connect_52 : decode cX9_connect 52 = .ok (.getfield 17, 3) := by decide +kernel
theorem dX9_connect_55 : decode cX9_connect 55 = .ok (.iload_n 2, 1) := by decide +kernel
theorem dX9_connect_56 : decode cX9_connect 56 = .ok (.iload_n 1, 1) := by decide +kernel
theorem dX9_connect_57 : decode cX9_connect 57 = .ok (.ifCond .eq 7, 3) := by decide +kernel
theorem dX9_connect_60 : decode cX9_connect 60 = .ok (.iconst 1, 1) := by decide +kernel
theorem dX9_connect_61 : decode cX9_connect 61 = .ok (.goto 9, 3) := by decide +kernel
theorem dX9_connect_64 : decode cX9_connect 64 = .ok (.aload_n 0, 1) := by decide +kernel
theorem dX9_connect_65 : decode cX9_connect 65 = .ok (.getfield 17, 3) := by decide +kernel
theorem dX9_connect_68 : decode cX9_connect 68 = .ok (.iload_n 2, 1) := by decide +kernel
theorem dX9_connect_69 : decode cX9_connect 69 = .ok (.iaload, 1) := by decide +kernel
theorem dX9_connect_70 : decode cX9_connect 70 = .ok (.iastore, 1) := by decide +kernel
theorem dX9_connect_71 : decode cX9_connect 71 = .ok (.aload_n 0, 1) := by decide +kernel
theorem dX9_connect_72 : decode cX9_connect 72 = .ok (.getfield 29, 3) := by decide +kernel
theorem dX9_connect_75 : decode cX9_connect 75 = .ok (.iload_n 2, 1) := by decide +kernel
theorem dX9_connect_76 : decode cX9_connect 76 = .ok (.aload_n 0, 1) := by decide +kernel
theorem dX9_connect_77 : decode cX9_connect 77 = .ok (.getfield 142, 3) := by decide +kernel
theorem dX9_connect_80 : decode cX9_connect 80 = .ok (.iastore, 1) := by decide +kernel
theorem dX9_connect_81 : decode cX9_connect 81 = .ok (.aload_n 0, 1) := by decide +kernel
theorem dX9_connect_82 : decode cX9_connect 82 = .ok (.getfield 32, 3) := by decide +kernel
theorem dX9_connect_85 : decode cX9_connect 85 = .ok (.iload_n 2, 1) := by decide +kernel
theorem dX9_connect_86 : decode cX9_connect 86 = .ok (.aload_n 0, 1) := by decide +kernel
theorem dX9_connect_87 : decode cX9_connect 87 = .ok (.getfield 142, 3) := by decide +kernel
theorem dX9_connect_90 : decode cX9_connect 90 = .ok (.iastore, 1) := by decide +kernel
theorem dX9_connect_91 : decode cX9_connect 91 = .ok (.iinc 2 1, 3) := by decide +kernel
theorem dX9_connect_94 : decode cX9_connect 94 = .ok (.goto (-68), 3) := by decide +kernel
theorem dX9_connect_97 : decode cX9_connect 97 = .ok (.aload_n 0, 1) := by decide +kernel
theorem dX9_connect_98 : decode cX9_connect 98 = .ok (.iconst 1, 1) := by decide +kernel
theorem dX9_connect_99 : decode cX9_connect 99 = .ok (.putfield 145, 3) := by decide +kernel
theorem dX9_connect_102 : decode cX9_connect 102 = .ok (.aload_n 0, 1) := by decide +kernel
theorem dX9_connect_103 : decode cX9_connect 103 = .ok (.iconst 0, 1) := by decide +kernel
theorem dX9_connect_104 : decode cX9_connect 104 = .ok (.iconst 0, 1) := by decide +kernel
theorem dX9_connect_105 : decode cX9_connect 105 = .ok (.iconst 0, 1) := by decide +kernel
theorem dX9_connect_106 : decode cX9_connect 106 = .ok (.iconst 0, 1) := by decide +kernel
theorem dX9_connect_107 : decode cX9_connect 107 = .ok (.iconst 0, 1) := by decide +kernel
theorem dX9_connect_108 : decode cX9_connect 108 = .ok (.iconst 0, 1) := by decide +kernel
theorem dX9_connect_109 : decode cX9_connect 109 = .ok (.invokevirtual 153, 3) := by decide +kernel
theorem dX9_connect_112 : decode cX9_connect 112 = .ok (.aload_n 0, 1) := by decide +kernel
theorem dX9_connect_113 : decode cX9_connect 113 = .ok (.iconst 1, 1) := by decide +kernel
theorem dX9_connect_114 : decode cX9_connect 114 = .ok (.iconst 0, 1) := by decide +kernel
theorem dX9_connect_115 : decode cX9_connect 115 = .ok (.iconst 0, 1) := by decide +kernel
theorem dX9_connect_116 : decode cX9_connect 116 = .ok (.iconst 0, 1) := by decide +kernel
theorem dX9_connect_117 : decode cX9_connect 117 = .ok (.iconst 0, 1) := by decide +kernel
theorem dX9_connect_118 : decode cX9_connect 118 = .ok (.iconst 0, 1) := by decide +kernel
theorem dX9_connect_119 : decode cX9_connect 119 = .ok (.invokevirtual 153, 3) := by decide +kernel
theorem dX9_connect_122 : decode cX9_connect 122 = .ok (.return_, 1) := by decide +kernel
theorem dX9_cut_0 : decode cX9_cut 0 = .ok (.aload_n 0, 1) := by decide +kernel
theorem dX9_cut_1 : decode cX9_cut 1 = .ok (.aload_n 0, 1) := by decide +kernel
theorem dX9_cut_2 : decode cX9_cut 2 = .ok (.getfield 145, 3) := by decide +kernel
theorem dX9_cut_5 : decode cX9_cut 5 = .ok (.ifCond .eq 7, 3) := by decide +kernel
theorem dX9_cut_8 : decode cX9_cut 8 = .ok (.iconst 0, 1) := by decide +kernel
theorem dX9_cut_9 : decode cX9_cut 9 = .ok (.goto 4, 3) := by decide +kernel
theorem dX9_cut_12 : decode cX9_cut 12 = .ok (.iconst 1, 1) := by decide +kernel
theorem dX9_cut_13 : decode cX9_cut 13 = .ok (.putfield 126, 3) := by decide +kernel
theorem dX9_cut_16 : decode cX9_cut 16 = .ok (.aload_n 0, 1) := by decide +kernel
theorem dX9_cut_17 : decode cX9_cut 17 = .ok (.getfield 126, 3) := by decide +kernel
theorem dX9_cut_20 : decode cX9_cut 20 = .ok (.ifCond .le 7, 3) := by decide +kernel
theorem dX9_cut_23 : decode cX9_cut 23 = .ok (.iconst 0, 1) := by decide +kernel
theorem dX9_cut_24 : decode cX9_cut 24 = .ok (.goto 7, 3) := by decide +kernel
theorem dX9_cut_27 : decode cX9_cut 27 = .ok (.aload_n 0, 1) := by decide +kernel
theorem dX9_cut_28 : decode cX9_cut 28 = .ok (.invokevirtual 161, 3) := by decide +kernel
theorem dX9_cut_31 : decode cX9_cut 31 = .ok (.ireturn, 1) := by decide +kernel
theorem dX9_staysAway_0 : decode cX9_staysAway 0 = .ok (.sipush 8192, 3) := by decide +kernel
theorem dX9_staysAway_3 : decode cX9_staysAway 3 = .ok (.iload_n 1, 1) := by decide +kernel
theorem dX9_staysAway_4 : decode cX9_staysAway 4 = .ok (.imul, 1) := by decide +kernel
theorem dX9_staysAway_5 : decode cX9_staysAway 5 = .ok (.iload_n 2, 1) := by decide +kernel
theorem dX9_staysAway_6 : decode cX9_staysAway 6 = .ok (.iadd, 1) := by decide +kernel
theorem dX9_staysAway_7 : decode cX9_staysAway 7 = .ok (.istore_n 3, 1) := by decide +kernel
theorem dX9_staysAway_8 : decode cX9_staysAway 8 = .ok (.aload_n 0, 1) := by decide +kernel
theorem dX9_staysAway_9 : decode cX9_staysAway 9 = .ok (.getfield 35, 3) := by decide +kernel
theorem dX9_staysAway_12 : decode cX9_staysAway 12 = .ok (.iload_n 3, 1) := by decide +kernel
theorem dX9_staysAway_13 : decode cX9_staysAway 13 = .ok (.iaload, 1) := by decide +kernel
theorem dX9_staysAway_14 : decode cX9_staysAway 14 = .ok (.iconst 5, 1) := by decide +kernel
theorem dX9_staysAway_15 : decode cX9_staysAway 15 = .ok (.if_icmp .ne 32, 3) := by decide +kernel
theorem dX9_staysAway_18 : decode cX9_staysAway 18 = .ok (.aload_n 0, 1) := by decide +kernel
theorem dX9_staysAway_19 : decode cX9_staysAway 19 = .ok (.getfield 142, 3) := by decide +kernel
theorem dX9_staysAway_22 : decode cX9_staysAway 22 = .ok (.aload_n 0, 1) := by decide +kernel
theorem dX9_staysAway_23 : decode cX9_staysAway 23 = .ok (.getfield 38, 3) := by decide +kernel
theorem dX9_staysAway_26 : decode cX9_staysAway 26 = .ok (.iload_n 3, 1) := by decide +kernel
theorem dX9_staysAway_27 : decode cX9_staysAway 27 = .ok (.iaload, 1) := by decide +kernel
theorem dX9_staysAway_28 : decode cX9_staysAway 28 = .ok (.isub, 1) := by decide +kernel
theorem dX9_staysAway_29 : decode cX9_staysAway 29 = .ok (.bipush 20, 2) := by decide +kernel
theorem dX9_staysAway_31 : decode cX9_staysAway 31 = .ok (.if_icmp .le 16, 3) := by decide +kernel
theorem dX9_staysAway_34 : decode cX9_staysAway 34 = .ok (.aload_n 0, 1) := by decide +kernel
theorem dX9_staysAway_35 : decode cX9_staysAway 35 = .ok (.getfield 41, 3) := by decide +kernel
theorem dX9_staysAway_38 : decode cX9_staysAway 38 = .ok (.iload_n 3, 1) := by decide +kernel
theorem dX9_staysAway_39 : decode cX9_staysAway 39 = .ok (.baload, 1) := by decide +kernel
theorem dX9_staysAway_40 : decode cX9_staysAway 40 = .ok (.ifCond .ne 7, 3) := by decide +kernel
theorem dX9_staysAway_43 : decode cX9_staysAway 43 = .ok (.iconst 1, 1) := by decide +kernel
theorem dX9_staysAway_44 : decode cX9_staysAway 44 = .ok (.goto 4, 3) := by decide +kernel
theorem dX9_staysAway_47 : decode cX9_staysAway 47 = .ok (.iconst 0, 1) := by decide +kernel
theorem dX9_staysAway_48 : decode cX9_staysAway 48 = .ok (.istore 4, 2) := by decide +kernel
theorem dX9_staysAway_50 : decode cX9_staysAway 50 = .ok (.iload 4, 2) := by decide +kernel
theorem dX9_staysAway_52 : decode cX9_staysAway 52 = .ok (.ifCond .eq 15, 3) := by decide +kernel
theorem dX9_staysAway_55 : decode cX9_staysAway 55 = .ok (.aload_n 0, 1) := by decide +kernel
theorem dX9_staysAway_56 : decode cX9_staysAway 56 = .ok (.getfield 87, 3) := by decide +kernel
theorem dX9_staysAway_59 : decode cX9_staysAway 59 = .ok (.aload_n 0, 1) := by decide +kernel
theorem dX9_staysAway_60 : decode cX9_staysAway 60 = .ok (.getfield 44, 3) := by decide +kernel
theorem dX9_staysAway_63 : decode cX9_staysAway 63 = .ok (.iload_n 3, 1) := by decide +kernel
theorem dX9_staysAway_64 : decode cX9_staysAway 64 = .ok (.iaload, 1) := by decide +kernel
theorem dX9_staysAway_65 : decode cX9_staysAway 65 = .ok (.iconst 1, 1) := by decide +kernel
theorem dX9_staysAway_66 : decode cX9_staysAway 66 = .ok (.bastore, 1) := by decide +kernel
theorem dX9_staysAway_67 : decode cX9_staysAway 67 = .ok (.aload_n 0, 1) := by decide +kernel
theorem dX9_staysAway_68 : decode cX9_staysAway 68 = .ok (.getfield 35, 3) := by decide +kernel
theorem dX9_staysAway_71 : decode cX9_staysAway 71 = .ok (.iload_n 3, 1) := by decide +kernel
theorem dX9_staysAway_72 : decode cX9_staysAway 72 = .ok (.iaload, 1) := by decide +kernel
theorem dX9_staysAway_73 : decode cX9_staysAway 73 = .ok (.iconst 5, 1) := by decide +kernel
theorem dX9_staysAway_74 : decode cX9_staysAway 74 = .ok (.if_icmp .lt 8, 3) := by decide +kernel
theorem dX9_staysAway_77 : decode cX9_staysAway 77 = .ok (.iload 4, 2) := by decide +kernel
theorem dX9_staysAway_79 : decode cX9_staysAway 79 = .ok (.ifCond .eq 7, 3) := by decide +kernel
theorem dX9_staysAway_82 : decode cX9_staysAway 82 = .ok (.iconst 1, 1) := by decide +kernel
theorem dX9_staysAway_83 : decode cX9_staysAway 83 = .ok (.goto 4, 3) := by decide +kernel
theorem dX9_staysAway_86 : decode cX9_staysAway 86 = .ok (.iconst 0, 1) := by decide +kernel
theorem dX9_staysAway_87 : decode cX9_staysAway 87 = .ok (.ireturn, 1) := by decide +kernel
theorem dX9_answers_0 : decode cX9_answers 0 = .ok (.aload_n 0, 1) := by decide +kernel
theorem dX9_answers_1 : decode cX9_answers 1 = .ok (.getfield 13, 3) := by decide +kernel
theorem dX9_answers_4 : decode cX9_answers 4 = .ok (.iload_n 1, 1) := by decide +kernel
theorem dX9_answers_5 : decode cX9_answers 5 = .ok (.iaload, 1) := by decide +kernel
theorem dX9_answers_6 : decode cX9_answers 6 = .ok (.istore_n 3, 1) := by decide +kernel
theorem dX9_answers_7 : decode cX9_answers 7 = .ok (.iconst 0, 1) := by decide +kernel
theorem dX9_answers_8 : decode cX9_answers 8 = .ok (.istore 4, 2) := by decide +kernel
theorem dX9_answers_10 : decode cX9_answers 10 = .ok (.iload_n 2, 1) := by decide +kernel
theorem dX9_answers_11 : decode cX9_answers 11 = .ok (.iconst 1, 1) := by decide +kernel
theorem dX9_answers_12 : decode cX9_answers 12 = .ok (.if_icmp .ge 7, 3) := by decide +kernel
theorem dX9_answers_15 : decode cX9_answers 15 = .ok (.iconst 1, 1) := by decide +kernel
theorem dX9_answers_16 : decode cX9_answers 16 = .ok (.goto 4, 3) := by decide +kernel
theorem dX9_answers_19 : decode cX9_answers 19 = .ok (.iload_n 2, 1) := by decide +kernel
theorem dX9_answers_20 : decode cX9_answers 20 = .ok (.istore 5, 2) := by decide +kernel
theorem dX9_answers_22 : decode cX9_answers 22 = .ok (.iload 5, 2) := by decide +kernel
theorem dX9_answers_24 : decode cX9_answers 24 = .ok (.iload_n 3, 1) := by decide +kernel
theorem dX9_answers_25 : decode cX9_answers 25 = .ok (.if_icmp .gt 75, 3) := by decide +kernel
theorem dX9_answers_28 : decode cX9_answers 28 = .ok (.aload_n 0, 1) := by decide +kernel
theorem dX9_answers_29 : decode cX9_answers 29 = .ok (.iload_n 1, 1) := by decide +kernel
theorem dX9_answers_30 : decode cX9_answers 30 = .ok (.iload 5, 2) := by decide +kernel
theorem dX9_answers_32 : decode cX9_answers 32 = .ok (.invokevirtual 165, 3) := by decide +kernel
theorem dX9_answers_35 : decode cX9_answers 35 = .ok (.ifCond .eq 20, 3) := by decide +kernel
theorem dX9_answers_38 : decode cX9_answers 38 = .ok (.iload 4, 2) := by decide +kernel
theorem dX9_answers_40 : decode cX9_answers 40 = .ok (.ifCond .ne 8, 3) := by decide +kernel
theorem dX9_answers_43 : decode cX9_answers 43 = .ok (.iload 5, 2) := by decide +kernel
theorem dX9_answers_45 : decode cX9_answers 45 = .ok (.goto 5, 3) := by decide +kernel
theorem dX9_answers_48 : decode cX9_answers 48 = .ok (.iload 4, 2) := by decide +kernel
theorem dX9_answers_50 : decode cX9_answers 50 = .ok (.istore 4, 2) := by decide +kernel
theorem dX9_answers_52 : decode cX9_answers 52 = .ok (.goto 42, 3) := by decide +kernel
theorem dX9_answers_55 : decode cX9_answers 55 = .ok (.iload 4, 2) := by decide +kernel
theorem dX9_answers_57 : decode cX9_answers 57 = .ok (.ifCond .le 12, 3) := by decide +kernel
theorem dX9_answers_60 : decode cX9_answers 60 = .ok (.aload_n 0, 1) := by decide +kernel
theorem dX9_answers_61 : decode cX9_answers 61 = .ok (.iload_n 1, 1) := by decide +kernel
theorem dX9_answers_62 : decode cX9_answers 62 = .ok (.iload 4, 2) := by decide +kernel
theorem dX9_answers_64 : decode cX9_answers 64 = .ok (.iload 5, 2) := by decide +kernel
theorem dX9_answers_66 : decode cX9_answers 66 = .ok (.invokevirtual 149, 3) := by decide +kernel
theorem dX9_answers_69 : decode cX9_answers 69 = .ok (.iconst 0, 1) := by decide +kernel
theorem dX9_answers_70 : decode cX9_answers 70 = .ok (.istore 4, 2) := by decide +kernel
theorem dX9_answers_72 : decode cX9_answers 72 = .ok (.aload_n 0, 1) := by decide +kernel
theorem dX9_answers_73 : decode cX9_answers 73 = .ok (.getfield 41, 3) := by decide +kernel
theorem dX9_answers_76 : decode cX9_answers 76 = .ok (.sipush 8192, 3) := by decide +kernel
theorem dX9_answers_79 : decode cX9_answers 79 = .ok (.iload_n 1, 1) := by decide +kernel
theorem dX9_answers_80 : decode cX9_answers 80 = .ok (.imul, 1) := by decide +kernel
theorem dX9_answers_81 : decode cX9_answers 81 = .ok (.iload 5, 2) := by decide +kernel
theorem dX9_answers_83 : decode cX9_answers 83 = .ok (.iadd, 1) := by decide +kernel
theorem dX9_answers_84 : decode cX9_answers 84 = .ok (.iconst 1, 1) := by decide +kernel
theorem dX9_answers_85 : decode cX9_answers 85 = .ok (.bastore, 1) := by decide +kernel
theorem dX9_answers_86 : decode cX9_answers 86 = .ok (.aload_n 0, 1) := by decide +kernel
theorem dX9_answers_87 : decode cX9_answers 87 = .ok (.iload_n 1, 1) := by decide +kernel
theorem dX9_answers_88 : decode cX9_answers 88 = .ok (.iload 5, 2) := by decide +kernel
theorem dX9_answers_90 : decode cX9_answers 90 = .ok (.iconst 0, 1) := by decide +kernel
theorem dX9_answers_91 : decode cX9_answers 91 = .ok (.invokevirtual 149, 3) := by decide +kernel
theorem dX9_answers_94 : decode cX9_answers 94 = .ok (.iinc 5 1, 3) := by decide +kernel
theorem dX9_answers_97 : decode cX9_answers 97 = .ok (.goto (-75), 3) := by decide +kernel
theorem dX9_answers_100 : decode cX9_answers 100 = .ok (.iload 4, 2) := by decide +kernel
theorem dX9_answers_102 : decode cX9_answers 102 = .ok (.ifCond .le 13, 3) := by decide +kernel
theorem dX9_answers_105 : decode cX9_answers 105 = .ok (.aload_n 0, 1) := by decide +kernel
theorem dX9_answers_106 : decode cX9_answers 106 = .ok (.iload_n 1, 1) := by decide +kernel
theorem dX9_answers_107 : decode cX9_answers 107 = .ok (.iload 4, 2) := by decide +kernel
theorem dX9_answers_109 : decode cX9_answers 109 = .ok (.iload_n 3, 1) := by decide +kernel
theorem dX9_answers_110 : decode cX9_answers 110 = .ok (.iconst 1, 1) := by decide +kernel
theorem dX9_answers_111 : decode cX9_answers 111 = .ok (.iadd, 1) := by decide +kernel
theorem dX9_answers_112 : decode cX9_answers 112 = .ok (.invokevirtual 149, 3) := by decide +kernel
theorem dX9_answers_115 : decode cX9_answers 115 = .ok (.return_, 1) := by decide +kernel
theorem dX9_takes_0 : decode cX9_takes 0 = .ok (.aload_n 0, 1) := by decide +kernel
theorem dX9_takes_1 : decode cX9_takes 1 = .ok (.getfield 17, 3) := by decide +kernel
theorem dX9_takes_4 : decode cX9_takes 4 = .ok (.iload_n 1, 1) := by decide +kernel
theorem dX9_takes_5 : decode cX9_takes 5 = .ok (.iload_n 3, 1) := by decide +kernel
theorem dX9_takes_6 : decode cX9_takes 6 = .ok (.iload_n 2, 1) := by decide +kernel
theorem dX9_takes_7 : decode cX9_takes 7 = .ok (.iconst 1, 1) := by decide +kernel
theorem dX9_takes_8 : decode cX9_takes 8 = .ok (.iadd, 1) := by decide +kernel
theorem dX9_takes_9 : decode cX9_takes 9 = .ok (.if_icmp .le 7, 3) := by decide +kernel
theorem dX9_takes_12 : decode cX9_takes 12 = .ok (.iload_n 3, 1) := by decide +kernel
theorem dX9_takes_13 : decode cX9_takes 13 = .ok (.goto 6, 3) := by decide +kernel
theorem dX9_takes_16 : decode cX9_takes 16 = .ok (.iload_n 2, 1) := by decide +kernel
theorem dX9_takes_17 : decode cX9_takes 17 = .ok (.iconst 1, 1) := by decide +kernel
theorem dX9_takes_18 : decode cX9_takes 18 = .ok (.iadd, 1) := by decide +kernel
theorem dX9_takes_19 : decode cX9_takes 19 = .ok (.iastore, 1) := by decide +kernel
theorem dX9_takes_20 : decode cX9_takes 20 = .ok (.sipush 8192, 3) := by decide +kernel
theorem dX9_takes_23 : decode cX9_takes 23 = .ok (.iconst 1, 1) := by decide +kernel
theorem dX9_takes_24 : decode cX9_takes 24 = .ok (.iload_n 1, 1) := by decide +kernel
theorem dX9_takes_25 : decode cX9_takes 25 = .ok (.isub, 1) := by decide +kernel
theorem dX9_takes_26 : decode cX9_takes 26 = .ok (.imul, 1) := by decide +kernel
theorem dX9_takes_27 : decode cX9_takes 27 = .ok (.iload_n 2, 1) := by decide +kernel
theorem dX9_takes_28 : decode cX9_takes 28 = .ok (.iadd, 1) := by decide +kernel
theorem dX9_takes_29 : decode cX9_takes 29 = .ok (.istore 4, 2) := by decide +kernel
theorem dX9_takes_31 : decode cX9_takes 31 = .ok (.iload_n 3, 1) := by decide +kernel
theorem dX9_takes_32 : decode cX9_takes 32 = .ok (.ifCond .le 4, 3) := by decide +kernel
theorem dX9_takes_35 : decode cX9_takes 35 = .ok (.return_, 1) := by decide +kernel
theorem dX9_takes_36 : decode cX9_takes 36 = .ok (.aload_n 0, 1) := by decide +kernel
theorem dX9_takes_37 : decode cX9_takes 37 = .ok (.getfield 35, 3) := by decide +kernel
theorem dX9_takes_40 : decode cX9_takes 40 = .ok (.iload 4, 2) := by decide +kernel
theorem dX9_takes_42 : decode cX9_takes 42 = .ok (.iaload, 1) := by decide +kernel
theorem dX9_takes_43 : decode cX9_takes 43 = .ok (.iconst 2, 1) := by decide +kernel
theorem dX9_takes_44 : decode cX9_takes 44 = .ok (.if_icmp .ne 16, 3) := by decide +kernel
theorem dX9_takes_47 : decode cX9_takes 47 = .ok (.aload_n 0, 1) := by decide +kernel
theorem dX9_takes_48 : decode cX9_takes 48 = .ok (.iload_n 1, 1) := by decide +kernel
theorem dX9_takes_49 : decode cX9_takes 49 = .ok (.iconst 1, 1) := by decide +kernel
theorem dX9_takes_50 : decode cX9_takes 50 = .ok (.iconst 0, 1) := by decide +kernel
theorem dX9_takes_51 : decode cX9_takes 51 = .ok (.iconst 0, 1) := by decide +kernel
theorem dX9_takes_52 : decode cX9_takes 52 = .ok (.iconst 0, 1) := by decide +kernel
theorem dX9_takes_53 : decode cX9_takes 53 = .ok (.iconst 0, 1) := by decide +kernel
theorem dX9_takes_54 : decode cX9_takes 54 = .ok (.invokevirtual 153, 3) := by decide +kernel
theorem dX9_takes_57 : decode cX9_takes 57 = .ok (.goto 50, 3) := by decide +kernel
theorem dX9_takes_60 : decode cX9_takes 60 = .ok (.aload_n 0, 1) := by decide +kernel
theorem dX9_takes_61 : decode cX9_takes 61 = .ok (.getfield 35, 3) := by decide +kernel
theorem dX9_takes_64 : decode cX9_takes 64 = .ok (.iload 4, 2) := by decide +kernel
theorem dX9_takes_66 : decode cX9_takes 66 = .ok (.iaload, 1) := by decide +kernel
theorem dX9_takes_67 : decode cX9_takes 67 = .ok (.bipush 8, 2) := by decide +kernel
theorem dX9_takes_69 : decode cX9_takes 69 = .ok (.if_icmp .ne 16, 3) := by decide +kernel
theorem dX9_takes_72 : decode cX9_takes 72 = .ok (.iload_n 1, 1) := by decide +kernel
theorem dX9_takes_73 : decode cX9_takes 73 = .ok (.ifCond .ne 12, 3) := by decide +kernel
theorem dX9_takes_76 : decode cX9_takes 76 = .ok (.aload_n 0, 1) := by decide +kernel
theorem dX9_takes_77 : decode cX9_takes 77 = .ok (.iload 4, 2) := by decide +kernel
theorem dX9_takes_79 : decode cX9_takes 79 = .ok (.invokevirtual 169, 3) := by decide +kernel
theorem dX9_takes_82 : decode cX9_takes 82 = .ok (.goto 25, 3) := by decide +kernel
theorem dX9_takes_85 : decode cX9_takes 85 = .ok (.aload_n 0, 1) := by decide +kernel
theorem dX9_takes_86 : decode cX9_takes 86 = .ok (.getfield 35, 3) := by decide +kernel
theorem dX9_takes_89 : decode cX9_takes 89 = .ok (.iload 4, 2) := by decide +kernel
theorem dX9_takes_91 : decode cX9_takes 91 = .ok (.iaload, 1) := by decide +kernel
theorem dX9_takes_92 : decode cX9_takes 92 = .ok (.iconst 5, 1) := by decide +kernel
theorem dX9_takes_93 : decode cX9_takes 93 = .ok (.if_icmp .lt 14, 3) := by decide +kernel
theorem dX9_takes_96 : decode cX9_takes 96 = .ok (.iload_n 1, 1) := by decide +kernel
theorem dX9_takes_97 : decode cX9_takes 97 = .ok (.iconst 1, 1) := by decide +kernel
theorem dX9_takes_98 : decode cX9_takes 98 = .ok (.if_icmp .ne 9, 3) := by decide +kernel
theorem dX9_takes_101 : decode cX9_takes 101 = .ok (.aload_n 0, 1) := by decide +kernel
theorem dX9_takes_102 : decode cX9_takes 102 = .ok (.iload 4, 2) := by decide +kernel
theorem dX9_takes_104 : decode cX9_takes 104 = .ok (.invokevirtual 172, 3) := by decide +kernel
theorem dX9_takes_107 : decode cX9_takes 107 = .ok (.return_, 1) := by decide +kernel
theorem dX9_throwsAway_0 : decode cX9_throwsAway 0 = .ok (.iconst 0, 1) := by decide +kernel
theorem dX9_throwsAway_1 : decode cX9_throwsAway 1 = .ok (.istore_n 2, 1) := by decide +kernel
theorem dX9_throwsAway_2 : decode cX9_throwsAway 2 = .ok (.iload_n 2, 1) := by decide +kernel
theorem dX9_throwsAway_3 : decode cX9_throwsAway 3 = .ok (.aload_n 0, 1) := by decide +kernel
theorem dX9_throwsAway_4 : decode cX9_throwsAway 4 = .ok (.getfield 17, 3) := by decide +kernel
theorem dX9_throwsAway_7 : decode cX9_throwsAway 7 = .ok (.iload_n 1, 1) := by decide +kernel
theorem dX9_throwsAway_8 : decode cX9_throwsAway 8 = .ok (.iaload, 1) := by decide +kernel
theorem dX9_throwsAway_9 : decode cX9_throwsAway 9 = .ok (.if_icmp .ge 51, 3) := by decide +kernel
theorem dX9_throwsAway_12 : decode cX9_throwsAway 12 = .ok (.aload_n 0, 1) := by decide +kernel
theorem dX9_throwsAway_13 : decode cX9_throwsAway 13 = .ok (.getfield 20, 3) := by decide +kernel
theorem dX9_throwsAway_16 : decode cX9_throwsAway 16 = .ok (.iload_n 1, 1) := by decide +kernel
theorem dX9_throwsAway_17 : decode cX9_throwsAway 17 = .ok (.dup2, 1) := by decide +kernel
theorem dX9_throwsAway_18 : decode cX9_throwsAway 18 = .ok (.iaload, 1) := by decide +kernel
theorem dX9_throwsAway_19 : decode cX9_throwsAway 19 = .ok (.aload_n 0, 1) := by decide +kernel
theorem dX9_throwsAway_20 : decode cX9_throwsAway 20 = .ok (.getfield 56, 3) := by decide +kernel
theorem dX9_throwsAway_23 : decode cX9_throwsAway 23 = .ok (.sipush 8192, 3) := by decide +kernel
theorem dX9_throwsAway_26 : decode cX9_throwsAway 26 = .ok (.iload_n 1, 1) := by decide +kernel
theorem dX9_throwsAway_27 : decode cX9_throwsAway 27 = .ok (.imul, 1) := by decide +kernel
theorem dX9_throwsAway_28 : decode cX9_throwsAway 28 = .ok (.iload_n 2, 1) := by decide +kernel
theorem dX9_throwsAway_29 : decode cX9_throwsAway 29 = .ok (.iadd, 1) := by decide +kernel
theorem dX9_throwsAway_30 : decode cX9_throwsAway 30 = .ok (.iaload, 1) := by decide +kernel
theorem dX9_throwsAway_31 : decode cX9_throwsAway 31 = .ok (.ifCond .le 7, 3) := by decide +kernel
theorem dX9_throwsAway_34 : decode cX9_throwsAway 34 = .ok (.iconst 1, 1) := by decide +kernel
theorem dX9_throwsAway_35 : decode cX9_throwsAway 35 = .ok (.goto 4, 3) := by decide +kernel
theorem dX9_throwsAway_38 : decode cX9_throwsAway 38 = .ok (.iconst 0, 1) := by decide +kernel
theorem dX9_throwsAway_39 : decode cX9_throwsAway 39 = .ok (.isub, 1) := by decide +kernel
theorem dX9_throwsAway_40 : decode cX9_throwsAway 40 = .ok (.iastore, 1) := by decide +kernel
theorem dX9_throwsAway_41 : decode cX9_throwsAway 41 = .ok (.aload_n 0, 1) := by decide +kernel
theorem dX9_throwsAway_42 : decode cX9_throwsAway 42 = .ok (.getfield 56, 3) := by decide +kernel
theorem dX9_throwsAway_45 : decode cX9_throwsAway 45 = .ok (.sipush 8192, 3) := by decide +kernel
theorem dX9_throwsAway_48 : decode cX9_throwsAway 48 = .ok (.iload_n 1, 1) := by decide +kernel
theorem dX9_throwsAway_49 : decode cX9_throwsAway 49 = .ok (.imul, 1) := by decide +kernel
theorem dX9_throwsAway_50 : decode cX9_throwsAway 50 = .ok (.iload_n 2, 1) := by decide +kernel
theorem dX9_throwsAway_51 : decode cX9_throwsAway 51 = .ok (.iadd, 1) := by decide +kernel
theorem dX9_throwsAway_52 : decode cX9_throwsAway 52 = .ok (.iconst 0, 1) := by decide +kernel
theorem dX9_throwsAway_53 : decode cX9_throwsAway 53 = .ok (.iastore, 1) := by decide +kernel
theorem dX9_throwsAway_54 : decode cX9_throwsAway 54 = .ok (.iinc 2 1, 3) := by decide +kernel
theorem dX9_throwsAway_57 : decode cX9_throwsAway 57 = .ok (.goto (-55), 3) := by decide +kernel
theorem dX9_throwsAway_60 : decode cX9_throwsAway 60 = .ok (.return_, 1) := by decide +kernel
theorem dX9_takesHeld_0 : decode cX9_takesHeld 0 = .ok (.aload_n 0, 1) := by decide +kernel
theorem dX9_takesHeld_1 : decode cX9_takesHeld 1 = .ok (.iload_n 1, 1) := by decide +kernel
theorem dX9_takesHeld_2 : decode cX9_takesHeld 2 = .ok (.invokevirtual 175, 3) := by decide +kernel
theorem dX9_takesHeld_5 : decode cX9_takesHeld 5 = .ok (.aload_n 0, 1) := by decide +kernel
theorem dX9_takesHeld_6 : decode cX9_takesHeld 6 = .ok (.getfield 56, 3) := by decide +kernel
theorem dX9_takesHeld_9 : decode cX9_takesHeld 9 = .ok (.sipush 8192, 3) := by decide +kernel
theorem dX9_takesHeld_12 : decode cX9_takesHeld 12 = .ok (.iload_n 1, 1) := by decide +kernel
theorem dX9_takesHeld_13 : decode cX9_takesHeld 13 = .ok (.imul, 1) := by decide +kernel
theorem dX9_takesHeld_14 : decode cX9_takesHeld 14 = .ok (.aload_n 0, 1) := by decide +kernel
theorem dX9_takesHeld_15 : decode cX9_takesHeld 15 = .ok (.getfield 17, 3) := by decide +kernel
theorem dX9_takesHeld_18 : decode cX9_takesHeld 18 = .ok (.iload_n 1, 1) := by decide +kernel
theorem dX9_takesHeld_19 : decode cX9_takesHeld 19 = .ok (.iaload, 1) := by decide +kernel
theorem dX9_takesHeld_20 : decode cX9_takesHeld 20 = .ok (.iadd, 1) := by decide +kernel
theorem dX9_takesHeld_21 : decode cX9_takesHeld 21 = .ok (.iaload, 1) := by decide +kernel
theorem dX9_takesHeld_22 : decode cX9_takesHeld 22 = .ok (.ifCond .le 72, 3) := by decide +kernel
theorem dX9_takesHeld_25 : decode cX9_takesHeld 25 = .ok (.aload_n 0, 1) := by decide +kernel
theorem dX9_takesHeld_26 : decode cX9_takesHeld 26 = .ok (.getfield 17, 3) := by decide +kernel
theorem dX9_takesHeld_29 : decode cX9_takesHeld 29 = .ok (.iload_n 1, 1) := by decide +kernel
theorem dX9_takesHeld_30 : decode cX9_takesHeld 30 = .ok (.iaload, 1) := by decide +kernel
theorem dX9_takesHeld_31 : decode cX9_takesHeld 31 = .ok (.istore_n 2, 1) := by decide +kernel
theorem dX9_takesHeld_32 : decode cX9_takesHeld 32 = .ok (.aload_n 0, 1) := by decide +kernel
theorem dX9_takesHeld_33 : decode cX9_takesHeld 33 = .ok (.getfield 56, 3) := by decide +kernel
theorem dX9_takesHeld_36 : decode cX9_takesHeld 36 = .ok (.sipush 8192, 3) := by decide +kernel
theorem dX9_takesHeld_39 : decode cX9_takesHeld 39 = .ok (.iload_n 1, 1) := by decide +kernel
theorem dX9_takesHeld_40 : decode cX9_takesHeld 40 = .ok (.imul, 1) := by decide +kernel
theorem dX9_takesHeld_41 : decode cX9_takesHeld 41 = .ok (.iload_n 2, 1) := by decide +kernel
theorem dX9_takesHeld_42 : decode cX9_takesHeld 42 = .ok (.iadd, 1) := by decide +kernel
theorem dX9_takesHeld_43 : decode cX9_takesHeld 43 = .ok (.iaload, 1) := by decide +kernel
theorem dX9_takesHeld_44 : decode cX9_takesHeld 44 = .ok (.istore_n 3, 1) := by decide +kernel
theorem dX9_takesHeld_45 : decode cX9_takesHeld 45 = .ok (.aload_n 0, 1) := by decide +kernel
theorem dX9_takesHeld_46 : decode cX9_takesHeld 46 = .ok (.getfield 56, 3) := by decide +kernel
theorem dX9_takesHeld_49 : decode cX9_takesHeld 49 = .ok (.sipush 8192, 3) := by decide +kernel
theorem dX9_takesHeld_52 : decode cX9_takesHeld 52 = .ok (.iload_n 1, 1) := by decide +kernel
theorem dX9_takesHeld_53 : decode cX9_takesHeld 53 = .ok (.imul, 1) := by decide +kernel
theorem dX9_takesHeld_54 : decode cX9_takesHeld 54 = .ok (.iload_n 2, 1) := by decide +kernel
theorem dX9_takesHeld_55 : decode cX9_takesHeld 55 = .ok (.iadd, 1) := by decide +kernel
theorem dX9_takesHeld_56 : decode cX9_takesHeld 56 = .ok (.iconst 0, 1) := by decide +kernel
theorem dX9_takesHeld_57 : decode cX9_takesHeld 57 = .ok (.iastore, 1) := by decide +kernel
theorem dX9_takesHeld_58 : decode cX9_takesHeld 58 = .ok (.aload_n 0, 1) := by decide +kernel
theorem dX9_takesHeld_59 : decode cX9_takesHeld 59 = .ok (.getfield 20, 3) := by decide +kernel
theorem dX9_takesHeld_62 : decode cX9_takesHeld 62 = .ok (.iload_n 1, 1) := by decide +kernel
theorem dX9_takesHeld_63 : decode cX9_takesHeld 63 = .ok (.dup2, 1) := by decide +kernel
theorem dX9_takesHeld_64 : decode cX9_takesHeld 64 = .ok (.iaload, 1) := by decide +kernel
theorem dX9_takesHeld_65 : decode cX9_takesHeld 65 = .ok (.iconst 1, 1) := by decide +kernel
theorem dX9_takesHeld_66 : decode cX9_takesHeld 66 = .ok (.isub, 1) := by decide +kernel
theorem dX9_takesHeld_67 : decode cX9_takesHeld 67 = .ok (.iastore, 1) := by decide +kernel
theorem dX9_takesHeld_68 : decode cX9_takesHeld 68 = .ok (.aload_n 0, 1) := by decide +kernel
theorem dX9_takesHeld_69 : decode cX9_takesHeld 69 = .ok (.iload_n 1, 1) := by decide +kernel
theorem dX9_takesHeld_70 : decode cX9_takesHeld 70 = .ok (.iload_n 2, 1) := by decide +kernel
theorem dX9_takesHeld_71 : decode cX9_takesHeld 71 = .ok (.iload_n 3, 1) := by decide +kernel
theorem dX9_takesHeld_72 : decode cX9_takesHeld 72 = .ok (.iconst 1, 1) := by decide +kernel
theorem dX9_takesHeld_73 : decode cX9_takesHeld 73 = .ok (.if_icmp .ne 7, 3) := by decide +kernel
theorem dX9_takesHeld_76 : decode cX9_takesHeld 76 = .ok (.iconst 0, 1) := by decide +kernel
theorem dX9_takesHeld_77 : decode cX9_takesHeld 77 = .ok (.goto 6, 3) := by decide +kernel
theorem dX9_takesHeld_80 : decode cX9_takesHeld 80 = .ok (.iload_n 3, 1) := by decide +kernel
theorem dX9_takesHeld_81 : decode cX9_takesHeld 81 = .ok (.iconst 2, 1) := by decide +kernel
theorem dX9_takesHeld_82 : decode cX9_takesHeld 82 = .ok (.isub, 1) := by decide +kernel
theorem dX9_takesHeld_83 : decode cX9_takesHeld 83 = .ok (.invokevirtual 178, 3) := by decide +kernel
theorem dX9_takesHeld_86 : decode cX9_takesHeld 86 = .ok (.aload_n 0, 1) := by decide +kernel
theorem dX9_takesHeld_87 : decode cX9_takesHeld 87 = .ok (.iload_n 1, 1) := by decide +kernel
theorem dX9_takesHeld_88 : decode cX9_takesHeld 88 = .ok (.invokevirtual 175, 3) := by decide +kernel
theorem dX9_takesHeld_91 : decode cX9_takesHeld 91 = .ok (.goto (-86), 3) := by decide +kernel
theorem dX9_takesHeld_94 : decode cX9_takesHeld 94 = .ok (.return_, 1) := by decide +kernel
theorem dX9_holdsBack_0 : decode cX9_holdsBack 0 = .ok (.sipush 8192, 3) := by decide +kernel
theorem dX9_holdsBack_3 : decode cX9_holdsBack 3 = .ok (.iload_n 1, 1) := by decide +kernel
theorem dX9_holdsBack_4 : decode cX9_holdsBack 4 = .ok (.imul, 1) := by decide +kernel
theorem dX9_holdsBack_5 : decode cX9_holdsBack 5 = .ok (.iload_n 2, 1) := by decide +kernel
theorem dX9_holdsBack_6 : decode cX9_holdsBack 6 = .ok (.iadd, 1) := by decide +kernel
theorem dX9_holdsBack_7 : decode cX9_holdsBack 7 = .ok (.istore 4, 2) := by decide +kernel
theorem dX9_holdsBack_9 : decode cX9_holdsBack 9 = .ok (.aload_n 0, 1) := by decide +kernel
theorem dX9_holdsBack_10 : decode cX9_holdsBack 10 = .ok (.getfield 20, 3) := by decide +kernel
theorem dX9_holdsBack_13 : decode cX9_holdsBack 13 = .ok (.iload_n 1, 1) := by decide +kernel
theorem dX9_holdsBack_14 : decode cX9_holdsBack 14 = .ok (.dup2, 1) := by decide +kernel
theorem dX9_holdsBack_15 : decode cX9_holdsBack 15 = .ok (.iaload, 1) := by decide +kernel
theorem dX9_holdsBack_16 : decode cX9_holdsBack 16 = .ok (.aload_n 0, 1) := by decide +kernel
theorem dX9_holdsBack_17 : decode cX9_holdsBack 17 = .ok (.getfield 56, 3) := by decide +kernel
theorem dX9_holdsBack_20 : decode cX9_holdsBack 20 = .ok (.iload 4, 2) := by decide +kernel
theorem dX9_holdsBack_22 : decode cX9_holdsBack 22 = .ok (.iaload, 1) := by decide +kernel
theorem dX9_holdsBack_23 : decode cX9_holdsBack 23 = .ok (.ifCond .ne 7, 3) := by decide +kernel
theorem dX9_holdsBack_26 : decode cX9_holdsBack 26 = .ok (.iconst 1, 1) := by decide +kernel
theorem dX9_holdsBack_27 : decode cX9_holdsBack 27 = .ok (.goto 4, 3) := by decide +kernel
theorem dX9_holdsBack_30 : decode cX9_holdsBack 30 = .ok (.iconst 0, 1) := by decide +kernel
theorem dX9_holdsBack_31 : decode cX9_holdsBack 31 = .ok (.iadd, 1) := by decide +kernel
theorem dX9_holdsBack_32 : decode cX9_holdsBack 32 = .ok (.iastore, 1) := by decide +kernel
theorem dX9_holdsBack_33 : decode cX9_holdsBack 33 = .ok (.aload_n 0, 1) := by decide +kernel
theorem dX9_holdsBack_34 : decode cX9_holdsBack 34 = .ok (.getfield 56, 3) := by decide +kernel
theorem dX9_holdsBack_37 : decode cX9_holdsBack 37 = .ok (.iload 4, 2) := by decide +kernel
theorem dX9_holdsBack_39 : decode cX9_holdsBack 39 = .ok (.iload_n 3, 1) := by decide +kernel
theorem dX9_holdsBack_40 : decode cX9_holdsBack 40 = .ok (.ifCond .ne 7, 3) := by decide +kernel
theorem dX9_holdsBack_43 : decode cX9_holdsBack 43 = .ok (.iconst 1, 1) := by decide +kernel
theorem dX9_holdsBack_44 : decode cX9_holdsBack 44 = .ok (.goto 6, 3) := by decide +kernel
theorem dX9_holdsBack_47 : decode cX9_holdsBack 47 = .ok (.iload_n 3, 1) := by decide +kernel
theorem dX9_holdsBack_48 : decode cX9_holdsBack 48 = .ok (.iconst 2, 1) := by decide +kernel
theorem dX9_holdsBack_49 : decode cX9_holdsBack 49 = .ok (.iadd, 1) := by decide +kernel
theorem dX9_holdsBack_50 : decode cX9_holdsBack 50 = .ok (.iastore, 1) := by decide +kernel
theorem dX9_holdsBack_51 : decode cX9_holdsBack 51 = .ok (.aload_n 0, 1) := by decide +kernel
theorem dX9_holdsBack_52 : decode cX9_holdsBack 52 = .ok (.getfield 23, 3) := by decide +kernel
theorem dX9_holdsBack_55 : decode cX9_holdsBack 55 = .ok (.iload_n 1, 1) := by decide +kernel
theorem dX9_holdsBack_56 : decode cX9_holdsBack 56 = .ok (.iaload, 1) := by decide +kernel
theorem dX9_holdsBack_57 : decode cX9_holdsBack 57 = .ok (.aload_n 0, 1) := by decide +kernel
theorem dX9_holdsBack_58 : decode cX9_holdsBack 58 = .ok (.getfield 17, 3) := by decide +kernel
theorem dX9_holdsBack_61 : decode cX9_holdsBack 61 = .ok (.iload_n 1, 1) := by decide +kernel
theorem dX9_holdsBack_62 : decode cX9_holdsBack 62 = .ok (.iaload, 1) := by decide +kernel
theorem dX9_holdsBack_63 : decode cX9_holdsBack 63 = .ok (.if_icmp .ne 18, 3) := by decide +kernel
theorem dX9_holdsBack_66 : decode cX9_holdsBack 66 = .ok (.aload_n 0, 1) := by decide +kernel
theorem dX9_holdsBack_67 : decode cX9_holdsBack 67 = .ok (.getfield 142, 3) := by decide +kernel
theorem dX9_holdsBack_70 : decode cX9_holdsBack 70 = .ok (.aload_n 0, 1) := by decide +kernel
theorem dX9_holdsBack_71 : decode cX9_holdsBack 71 = .ok (.getfield 26, 3) := by decide +kernel
theorem dX9_holdsBack_74 : decode cX9_holdsBack 74 = .ok (.iload_n 1, 1) := by decide +kernel
theorem dX9_holdsBack_75 : decode cX9_holdsBack 75 = .ok (.iaload, 1) := by decide +kernel
theorem dX9_holdsBack_76 : decode cX9_holdsBack 76 = .ok (.isub, 1) := by decide +kernel
theorem dX9_holdsBack_77 : decode cX9_holdsBack 77 = .ok (.iconst 5, 1) := by decide +kernel
theorem dX9_holdsBack_78 : decode cX9_holdsBack 78 = .ok (.if_icmp .lt 40, 3) := by decide +kernel
theorem dX9_holdsBack_81 : decode cX9_holdsBack 81 = .ok (.aload_n 0, 1) := by decide +kernel
theorem dX9_holdsBack_82 : decode cX9_holdsBack 82 = .ok (.getfield 23, 3) := by decide +kernel
theorem dX9_holdsBack_85 : decode cX9_holdsBack 85 = .ok (.iload_n 1, 1) := by decide +kernel
theorem dX9_holdsBack_86 : decode cX9_holdsBack 86 = .ok (.aload_n 0, 1) := by decide +kernel
theorem dX9_holdsBack_87 : decode cX9_holdsBack 87 = .ok (.getfield 17, 3) := by decide +kernel
theorem dX9_holdsBack_90 : decode cX9_holdsBack 90 = .ok (.iload_n 1, 1) := by decide +kernel
theorem dX9_holdsBack_91 : decode cX9_holdsBack 91 = .ok (.iaload, 1) := by decide +kernel
theorem dX9_holdsBack_92 : decode cX9_holdsBack 92 = .ok (.iastore, 1) := by decide +kernel
theorem dX9_holdsBack_93 : decode cX9_holdsBack 93 = .ok (.aload_n 0, 1) := by decide +kernel
theorem dX9_holdsBack_94 : decode cX9_holdsBack 94 = .ok (.getfield 26, 3) := by decide +kernel
theorem dX9_holdsBack_97 : decode cX9_holdsBack 97 = .ok (.iload_n 1, 1) := by decide +kernel
theorem dX9_holdsBack_98 : decode cX9_holdsBack 98 = .ok (.aload_n 0, 1) := by decide +kernel
theorem dX9_holdsBack_99 : decode cX9_holdsBack 99 = .ok (.getfield 142, 3) := by decide +kernel
theorem dX9_holdsBack_102 : decode cX9_holdsBack 102 = .ok (.iastore, 1) := by decide +kernel
theorem dX9_holdsBack_103 : decode cX9_holdsBack 103 = .ok (.aload_n 0, 1) := by decide +kernel
theorem dX9_holdsBack_104 : decode cX9_holdsBack 104 = .ok (.iload_n 1, 1) := by decide +kernel
theorem dX9_holdsBack_105 : decode cX9_holdsBack 105 = .ok (.iconst 3, 1) := by decide +kernel
theorem dX9_holdsBack_106 : decode cX9_holdsBack 106 = .ok (.aload_n 0, 1) := by decide +kernel
theorem dX9_holdsBack_107 : decode cX9_holdsBack 107 = .ok (.getfield 17, 3) := by decide +kernel
theorem dX9_holdsBack_110 : decode cX9_holdsBack 110 = .ok (.iload_n 1, 1) := by decide +kernel
theorem dX9_holdsBack_111 : decode cX9_holdsBack 111 = .ok (.iaload, 1) := by decide +kernel
theorem dX9_holdsBack_112 : decode cX9_holdsBack 112 = .ok (.iconst 0, 1) := by decide +kernel
theorem dX9_holdsBack_113 : decode cX9_holdsBack 113 = .ok (.iconst 0, 1) := by decide +kernel
theorem dX9_holdsBack_114 : decode cX9_holdsBack 114 = .ok (.iconst 0, 1) := by decide +kernel
theorem dX9_holdsBack_115 : decode cX9_holdsBack 115 = .ok (.invokevirtual 153, 3) := by decide +kernel
theorem dX9_holdsBack_118 : decode cX9_holdsBack 118 = .ok (.return_, 1) := by decide +kernel
theorem dX9_comes_0 : decode cX9_comes 0 = .ok (.sipush 8192, 3) := by decide +kernel
theorem dX9_comes_3 : decode cX9_comes 3 = .ok (.iconst 1, 1) := by decide +kernel
theorem dX9_comes_4 : decode cX9_comes 4 = .ok (.iload_n 1, 1) := by decide +kernel
theorem dX9_comes_5 : decode cX9_comes 5 = .ok (.isub, 1) := by decide +kernel
theorem dX9_comes_6 : decode cX9_comes 6 = .ok (.imul, 1) := by decide +kernel
theorem dX9_comes_7 : decode cX9_comes 7 = .ok (.iload_n 2, 1) := by decide +kernel
theorem dX9_comes_8 : decode cX9_comes 8 = .ok (.iadd, 1) := by decide +kernel
theorem dX9_comes_9 : decode cX9_comes 9 = .ok (.istore 4, 2) := by decide +kernel
theorem dX9_comes_11 : decode cX9_comes 11 = .ok (.aload_n 0, 1) := by decide +kernel
theorem dX9_comes_12 : decode cX9_comes 12 = .ok (.getfield 32, 3) := by decide +kernel
theorem dX9_comes_15 : decode cX9_comes 15 = .ok (.iload_n 1, 1) := by decide +kernel
theorem dX9_comes_16 : decode cX9_comes 16 = .ok (.aload_n 0, 1) := by decide +kernel
theorem dX9_comes_17 : decode cX9_comes 17 = .ok (.getfield 142, 3) := by decide +kernel
theorem dX9_comes_20 : decode cX9_comes 20 = .ok (.iastore, 1) := by decide +kernel
theorem dX9_comes_21 : decode cX9_comes 21 = .ok (.iload_n 3, 1) := by decide +kernel
theorem dX9_comes_22 : decode cX9_comes 22 = .ok (.ifCond .ne 20, 3) := by decide +kernel
theorem dX9_comes_25 : decode cX9_comes 25 = .ok (.aload_n 0, 1) := by decide +kernel
theorem dX9_comes_26 : decode cX9_comes 26 = .ok (.getfield 35, 3) := by decide +kernel
theorem dX9_comes_29 : decode cX9_comes 29 = .ok (.iload 4, 2) := by decide +kernel
theorem dX9_comes_31 : decode cX9_comes 31 = .ok (.iaload, 1) := by decide +kernel
theorem dX9_comes_32 : decode cX9_comes 32 = .ok (.ifCond .ne 10, 3) := by decide +kernel
theorem dX9_comes_35 : decode cX9_comes 35 = .ok (.aload_n 0, 1) := by decide +kernel
theorem dX9_comes_36 : decode cX9_comes 36 = .ok (.getfield 7, 3) := by decide +kernel
theorem dX9_comes_39 : decode cX9_comes 39 = .ok (.iload_n 1, 1) := by decide +kernel
theorem dX9_comes_40 : decode cX9_comes 40 = .ok (.iconst 1, 1) := by decide +kernel
theorem dX9_comes_41 : decode cX9_comes 41 = .ok (.bastore, 1) := by decide +kernel
theorem dX9_comes_42 : decode cX9_comes 42 = .ok (.iload_n 3, 1) := by decide +kernel
theorem dX9_comes_43 : decode cX9_comes 43 = .ok (.ifCond .ne 26, 3) := by decide +kernel
theorem dX9_comes_46 : decode cX9_comes 46 = .ok (.aload_n 0, 1) := by decide +kernel
theorem dX9_comes_47 : decode cX9_comes 47 = .ok (.getfield 35, 3) := by decide +kernel
theorem dX9_comes_50 : decode cX9_comes 50 = .ok (.iload 4, 2) := by decide +kernel
theorem dX9_comes_52 : decode cX9_comes 52 = .ok (.iaload, 1) := by decide +kernel
theorem dX9_comes_53 : decode cX9_comes 53 = .ok (.iconst 3, 1) := by decide +kernel
theorem dX9_comes_54 : decode cX9_comes 54 = .ok (.if_icmp .ne 15, 3) := by decide +kernel
theorem dX9_comes_57 : decode cX9_comes 57 = .ok (.aload_n 0, 1) := by decide +kernel
theorem dX9_comes_58 : decode cX9_comes 58 = .ok (.iload_n 1, 1) := by decide +kernel
theorem dX9_comes_59 : decode cX9_comes 59 = .ok (.aload_n 0, 1) := by decide +kernel
theorem dX9_comes_60 : decode cX9_comes 60 = .ok (.getfield 44, 3) := by decide +kernel
theorem dX9_comes_63 : decode cX9_comes 63 = .ok (.iload 4, 2) := by decide +kernel
theorem dX9_comes_65 : decode cX9_comes 65 = .ok (.iaload, 1) := by decide +kernel
theorem dX9_comes_66 : decode cX9_comes 66 = .ok (.invokevirtual 181, 3) := by decide +kernel
theorem dX9_comes_69 : decode cX9_comes 69 = .ok (.iload_n 2, 1) := by decide +kernel
theorem dX9_comes_70 : decode cX9_comes 70 = .ok (.aload_n 0, 1) := by decide +kernel
theorem dX9_comes_71 : decode cX9_comes 71 = .ok (.getfield 17, 3) := by decide +kernel
theorem dX9_comes_74 : decode cX9_comes 74 = .ok (.iload_n 1, 1) := by decide +kernel
theorem dX9_comes_75 : decode cX9_comes 75 = .ok (.iaload, 1) := by decide +kernel
theorem dX9_comes_76 : decode cX9_comes 76 = .ok (.if_icmp .le 13, 3) := by decide +kernel
theorem dX9_comes_79 : decode cX9_comes 79 = .ok (.aload_n 0, 1) := by decide +kernel
theorem dX9_comes_80 : decode cX9_comes 80 = .ok (.iload_n 1, 1) := by decide +kernel
theorem dX9_comes_81 : decode cX9_comes 81 = .ok (.iload_n 2, 1) := by decide +kernel
theorem dX9_comes_82 : decode cX9_comes 82 = .ok (.iload_n 3, 1) := by decide +kernel
theorem dX9_comes_83 : decode cX9_comes 83 = .ok (.invokevirtual 185, 3) := by decide +kernel
theorem dX9_comes_86 : decode cX9_comes 86 = .ok (.goto 25, 3) := by decide +kernel
theorem dX9_comes_89 : decode cX9_comes 89 = .ok (.iload_n 2, 1) := by decide +kernel
theorem dX9_comes_90 : decode cX9_comes 90 = .ok (.aload_n 0, 1) := by decide +kernel
theorem dX9_comes_91 : decode cX9_comes 91 = .ok (.getfield 17, 3) := by decide +kernel
theorem dX9_comes_94 : decode cX9_comes 94 = .ok (.iload_n 1, 1) := by decide +kernel
theorem dX9_comes_95 : decode cX9_comes 95 = .ok (.iaload, 1) := by decide +kernel
theorem dX9_comes_96 : decode cX9_comes 96 = .ok (.if_icmp .ne 15, 3) := by decide +kernel
theorem dX9_comes_99 : decode cX9_comes 99 = .ok (.aload_n 0, 1) := by decide +kernel
theorem dX9_comes_100 : decode cX9_comes 100 = .ok (.iload_n 1, 1) := by decide +kernel
theorem dX9_comes_101 : decode cX9_comes 101 = .ok (.iload_n 2, 1) := by decide +kernel
theorem dX9_comes_102 : decode cX9_comes 102 = .ok (.iload_n 3, 1) := by decide +kernel
theorem dX9_comes_103 : decode cX9_comes 103 = .ok (.invokevirtual 178, 3) := by decide +kernel
theorem dX9_comes_106 : decode cX9_comes 106 = .ok (.aload_n 0, 1) := by decide +kernel
theorem dX9_comes_107 : decode cX9_comes 107 = .ok (.iload_n 1, 1) := by decide +kernel
theorem dX9_comes_108 : decode cX9_comes 108 = .ok (.invokevirtual 188, 3) := by decide +kernel
theorem dX9_comes_111 : decode cX9_comes 111 = .ok (.return_, 1) := by decide +kernel
theorem dX9_come_0 : decode cX9_come 0 = .ok (.aload_n 0, 1) := by decide +kernel
theorem dX9_come_1 : decode cX9_come 1 = .ok (.iload_n 1, 1) := by decide +kernel
theorem dX9_come_2 : decode cX9_come 2 = .ok (.invokestatic 191, 3) := by decide +kernel
theorem dX9_come_5 : decode cX9_come 5 = .ok (.ifCond .ne 7, 3) := by decide +kernel
theorem dX9_come_8 : decode cX9_come 8 = .ok (.iconst 1, 1) := by decide +kernel
theorem dX9_come_9 : decode cX9_come 9 = .ok (.goto 18, 3) := by decide +kernel
theorem dX9_come_12 : decode cX9_come 12 = .ok (.iload_n 2, 1) := by decide +kernel
theorem dX9_come_13 : decode cX9_come 13 = .ok (.iconst 1, 1) := by decide +kernel
theorem dX9_come_14 : decode cX9_come 14 = .ok (.bipush 100, 2) := by decide +kernel
theorem dX9_come_16 : decode cX9_come 16 = .ok (.invokestatic 130, 3) := by decide +kernel
theorem dX9_come_19 : decode cX9_come 19 = .ok (.ifCond .eq 7, 3) := by decide +kernel
theorem dX9_come_22 : decode cX9_come 22 = .ok (.iconst 0, 1) := by decide +kernel
theorem dX9_come_23 : decode cX9_come 23 = .ok (.goto 4, 3) := by decide +kernel
theorem dX9_come_26 : decode cX9_come 26 = .ok (.iconst 2, 1) := by decide +kernel
theorem dX9_come_27 : decode cX9_come 27 = .ok (.putfield 126, 3) := by decide +kernel
theorem dX9_come_30 : decode cX9_come 30 = .ok (.aload_n 0, 1) := by decide +kernel
theorem dX9_come_31 : decode cX9_come 31 = .ok (.getfield 126, 3) := by decide +kernel
theorem dX9_come_34 : decode cX9_come 34 = .ok (.ifCond .le 5, 3) := by decide +kernel
theorem dX9_come_37 : decode cX9_come 37 = .ok (.iconst 0, 1) := by decide +kernel
theorem dX9_come_38 : decode cX9_come 38 = .ok (.ireturn, 1) := by decide +kernel
theorem dX9_come_39 : decode cX9_come 39 = .ok (.iload_n 2, 1) := by decide +kernel
theorem dX9_come_40 : decode cX9_come 40 = .ok (.aload_n 0, 1) := by decide +kernel
theorem dX9_come_41 : decode cX9_come 41 = .ok (.getfield 62, 3) := by decide +kernel
theorem dX9_come_44 : decode cX9_come 44 = .ok (.iload_n 1, 1) := by decide +kernel
theorem dX9_come_45 : decode cX9_come 45 = .ok (.iaload, 1) := by decide +kernel
theorem dX9_come_46 : decode cX9_come 46 = .ok (.if_icmp .ge 7, 3) := by decide +kernel
theorem dX9_come_49 : decode cX9_come 49 = .ok (.iload_n 2, 1) := by decide +kernel
theorem dX9_come_50 : decode cX9_come 50 = .ok (.goto 9, 3) := by decide +kernel
theorem dX9_come_53 : decode cX9_come 53 = .ok (.aload_n 0, 1) := by decide +kernel
theorem dX9_come_54 : decode cX9_come 54 = .ok (.getfield 62, 3) := by decide +kernel
theorem dX9_come_57 : decode cX9_come 57 = .ok (.iload_n 1, 1) := by decide +kernel
theorem dX9_come_58 : decode cX9_come 58 = .ok (.iaload, 1) := by decide +kernel
theorem dX9_come_59 : decode cX9_come 59 = .ok (.istore_n 3, 1) := by decide +kernel
theorem dX9_come_60 : decode cX9_come 60 = .ok (.iconst 0, 1) := by decide +kernel
theorem dX9_come_61 : decode cX9_come 61 = .ok (.istore 4, 2) := by decide +kernel
theorem dX9_come_63 : decode cX9_come 63 = .ok (.iload 4, 2) := by decide +kernel
theorem dX9_come_65 : decode cX9_come 65 = .ok (.iload_n 3, 1) := by decide +kernel
theorem dX9_come_66 : decode cX9_come 66 = .ok (.if_icmp .ge 129, 3) := by decide +kernel
theorem dX9_come_69 : decode cX9_come 69 = .ok (.aload_n 0, 1) := by decide +kernel
theorem dX9_come_70 : decode cX9_come 70 = .ok (.getfield 66, 3) := by decide +kernel
theorem dX9_come_73 : decode cX9_come 73 = .ok (.aload_n 0, 1) := by decide +kernel
theorem dX9_come_74 : decode cX9_come 74 = .ok (.iload_n 1, 1) := by decide +kernel
theorem dX9_come_75 : decode cX9_come 75 = .ok (.iconst 0, 1) := by decide +kernel
theorem dX9_come_76 : decode cX9_come 76 = .ok (.invokevirtual 138, 3) := by decide +kernel
theorem dX9_come_79 : decode cX9_come 79 = .ok (.iaload, 1) := by decide +kernel
theorem dX9_come_80 : decode cX9_come 80 = .ok (.istore 5, 2) := by decide +kernel
theorem dX9_come_82 : decode cX9_come 82 = .ok (.aload_n 0, 1) := by decide +kernel
theorem dX9_come_83 : decode cX9_come 83 = .ok (.getfield 59, 3) := by decide +kernel
theorem dX9_come_86 : decode cX9_come 86 = .ok (.iload_n 1, 1) := by decide +kernel
theorem dX9_come_87 : decode cX9_come 87 = .ok (.aload_n 0, 1) := by decide +kernel
theorem dX9_come_88 : decode cX9_come 88 = .ok (.getfield 59, 3) := by decide +kernel
theorem dX9_come_91 : decode cX9_come 91 = .ok (.iload_n 1, 1) := by decide +kernel
theorem dX9_come_92 : decode cX9_come 92 = .ok (.iaload, 1) := by decide +kernel
theorem dX9_come_93 : decode cX9_come 93 = .ok (.iconst 1, 1) := by decide +kernel
theorem dX9_come_94 : decode cX9_come 94 = .ok (.iadd, 1) := by decide +kernel
theorem dX9_come_95 : decode cX9_come 95 = .ok (.ldc 137, 2) := by decide +kernel
theorem dX9_come_97 : decode cX9_come 97 = .ok (.irem, 1) := by decide +kernel
theorem dX9_come_98 : decode cX9_come 98 = .ok (.iastore, 1) := by decide +kernel
theorem dX9_come_99 : decode cX9_come 99 = .ok (.aload_n 0, 1) := by decide +kernel
theorem dX9_come_100 : decode cX9_come 100 = .ok (.getfield 62, 3) := by decide +kernel
theorem dX9_come_103 : decode cX9_come 103 = .ok (.iload_n 1, 1) := by decide +kernel
theorem dX9_come_104 : decode cX9_come 104 = .ok (.dup2, 1) := by decide +kernel
theorem dX9_come_105 : decode cX9_come 105 = .ok (.iaload, 1) := by decide +kernel
theorem dX9_come_106 : decode cX9_come 106 = .ok (.iconst 1, 1) := by decide +kernel
theorem dX9_come_107 : decode cX9_come 107 = .ok (.isub, 1) := by decide +kernel
theorem dX9_come_108 : decode cX9_come 108 = .ok (.iastore, 1) := by decide +kernel
theorem dX9_come_109 : decode cX9_come 109 = .ok (.iload 5, 2) := by decide +kernel
theorem dX9_come_111 : decode cX9_come 111 = .ok (.iconst 2, 1) := by decide +kernel
theorem dX9_come_112 : decode cX9_come 112 = .ok (.idiv, 1) := by decide +kernel
theorem dX9_come_113 : decode cX9_come 113 = .ok (.sipush 8192, 3) := by decide +kernel
theorem dX9_come_116 : decode cX9_come 116 = .ok (.idiv, 1) := by decide +kernel
theorem dX9_come_117 : decode cX9_come 117 = .ok (.istore 6, 2) := by decide +kernel
theorem dX9_come_119 : decode cX9_come 119 = .ok (.iload 5, 2) := by decide +kernel
theorem dX9_come_121 : decode cX9_come 121 = .ok (.iconst 2, 1) := by decide +kernel
theorem dX9_come_122 : decode cX9_come 122 = .ok (.idiv, 1) := by decide +kernel
theorem dX9_come_123 : decode cX9_come 123 = .ok (.sipush 8192, 3) := by decide +kernel
theorem dX9_come_126 : decode cX9_come 126 = .ok (.irem, 1) := by decide +kernel
theorem dX9_come_127 : decode cX9_come 127 = .ok (.istore 7, 2) := by decide +kernel
theorem dX9_come_129 : decode cX9_come 129 = .ok (.iload 7, 2) := by decide +kernel
theorem dX9_come_131 : decode cX9_come 131 = .ok (.ifCond .ne 25, 3) := by decide +kernel
theorem dX9_come_134 : decode cX9_come 134 = .ok (.aload_n 0, 1) := by decide +kernel
theorem dX9_come_135 : decode cX9_come 135 = .ok (.getfield 35, 3) := by decide +kernel
theorem dX9_come_138 : decode cX9_come 138 = .ok (.sipush 8192, 3) := by decide +kernel
theorem dX9_come_141 : decode cX9_come 141 = .ok (.iconst 1, 1) := by decide +kernel
theorem dX9_come_142 : decode cX9_come 142 = .ok (.iload_n 1, 1) := by decide +kernel
theorem dX9_come_143 : decode cX9_come 143 = .ok (.isub, 1) := by decide +kernel
theorem dX9_come_144 : decode cX9_come 144 = .ok (.imul, 1) := by decide +kernel
theorem dX9_come_145 : decode cX9_come 145 = .ok (.iload 6, 2) := by decide +kernel
theorem dX9_come_147 : decode cX9_come 147 = .ok (.iadd, 1) := by decide +kernel
theorem dX9_come_148 : decode cX9_come 148 = .ok (.iaload, 1) := by decide +kernel
theorem dX9_come_149 : decode cX9_come 149 = .ok (.ifCond .ne 7, 3) := by decide +kernel
theorem dX9_come_152 : decode cX9_come 152 = .ok (.iconst 1, 1) := by decide +kernel
theorem dX9_come_153 : decode cX9_come 153 = .ok (.goto 4, 3) := by decide +kernel
theorem dX9_come_156 : decode cX9_come 156 = .ok (.iconst 0, 1) := by decide +kernel
theorem dX9_come_157 : decode cX9_come 157 = .ok (.istore 8, 2) := by decide +kernel
theorem dX9_come_159 : decode cX9_come 159 = .ok (.iload 5, 2) := by decide +kernel
theorem dX9_come_161 : decode cX9_come 161 = .ok (.iconst 2, 1) := by decide +kernel
theorem dX9_come_162 : decode cX9_come 162 = .ok (.irem, 1) := by decide +kernel
theorem dX9_come_163 : decode cX9_come 163 = .ok (.ifCond .ne 26, 3) := by decide +kernel
theorem dX9_come_166 : decode cX9_come 166 = .ok (.aload_n 0, 1) := by decide +kernel
theorem dX9_come_167 : decode cX9_come 167 = .ok (.getfield 7, 3) := by decide +kernel
theorem dX9_come_170 : decode cX9_come 170 = .ok (.iload_n 1, 1) := by decide +kernel
theorem dX9_come_171 : decode cX9_come 171 = .ok (.baload, 1) := by decide +kernel
theorem dX9_come_172 : decode cX9_come 172 = .ok (.ifCond .ne 8, 3) := by decide +kernel
theorem dX9_come_175 : decode cX9_come 175 = .ok (.iload 8, 2) := by decide +kernel
theorem dX9_come_177 : decode cX9_come 177 = .ok (.ifCond .eq 12, 3) := by decide +kernel
theorem dX9_come_180 : decode cX9_come 180 = .ok (.aload_n 0, 1) := by decide +kernel
theorem dX9_come_181 : decode cX9_come 181 = .ok (.iload_n 1, 1) := by decide +kernel
theorem dX9_come_182 : decode cX9_come 182 = .ok (.iload 6, 2) := by decide +kernel
theorem dX9_come_184 : decode cX9_come 184 = .ok (.iload 7, 2) := by decide +kernel
theorem dX9_come_186 : decode cX9_come 186 = .ok (.invokevirtual 195, 3) := by decide +kernel
theorem dX9_come_189 : decode cX9_come 189 = .ok (.iinc 4 1, 3) := by decide +kernel
theorem dX9_come_192 : decode cX9_come 192 = .ok (.goto (-129), 3) := by decide +kernel
theorem dX9_come_195 : decode cX9_come 195 = .ok (.iload_n 3, 1) := by decide +kernel
theorem dX9_come_196 : decode cX9_come 196 = .ok (.ireturn, 1) := by decide +kernel
theorem dX9_garble_0 : decode cX9_garble 0 = .ok (.aload_n 0, 1) := by decide +kernel
theorem dX9_garble_1 : decode cX9_garble 1 = .ok (.iload_n 1, 1) := by decide +kernel
theorem dX9_garble_2 : decode cX9_garble 2 = .ok (.invokestatic 191, 3) := by decide +kernel
theorem dX9_garble_5 : decode cX9_garble 5 = .ok (.ifCond .eq 23, 3) := by decide +kernel
theorem dX9_garble_8 : decode cX9_garble 8 = .ok (.iload_n 2, 1) := by decide +kernel
theorem dX9_garble_9 : decode cX9_garble 9 = .ok (.iconst 0, 1) := by decide +kernel
theorem dX9_garble_10 : decode cX9_garble 10 = .ok (.aload_n 0, 1) := by decide +kernel
theorem dX9_garble_11 : decode cX9_garble 11 = .ok (.getfield 62, 3) := by decide +kernel
theorem dX9_garble_14 : decode cX9_garble 14 = .ok (.iload_n 1, 1) := by decide +kernel
theorem dX9_garble_15 : decode cX9_garble 15 = .ok (.iaload, 1) := by decide +kernel
theorem dX9_garble_16 : decode cX9_garble 16 = .ok (.iconst 1, 1) := by decide +kernel
theorem dX9_garble_17 : decode cX9_garble 17 = .ok (.isub, 1) := by decide +kernel
theorem dX9_garble_18 : decode cX9_garble 18 = .ok (.invokestatic 130, 3) := by decide +kernel
theorem dX9_garble_21 : decode cX9_garble 21 = .ok (.ifCond .eq 7, 3) := by decide +kernel
theorem dX9_garble_24 : decode cX9_garble 24 = .ok (.iconst 0, 1) := by decide +kernel
theorem dX9_garble_25 : decode cX9_garble 25 = .ok (.goto 4, 3) := by decide +kernel
theorem dX9_garble_28 : decode cX9_garble 28 = .ok (.iconst 1, 1) := by decide +kernel
theorem dX9_garble_29 : decode cX9_garble 29 = .ok (.putfield 126, 3) := by decide +kernel
theorem dX9_garble_32 : decode cX9_garble 32 = .ok (.aload_n 0, 1) := by decide +kernel
theorem dX9_garble_33 : decode cX9_garble 33 = .ok (.getfield 126, 3) := by decide +kernel
theorem dX9_garble_36 : decode cX9_garble 36 = .ok (.ifCond .le 5, 3) := by decide +kernel
theorem dX9_garble_39 : decode cX9_garble 39 = .ok (.iconst 0, 1) := by decide +kernel
theorem dX9_garble_40 : decode cX9_garble 40 = .ok (.ireturn, 1) := by decide +kernel
theorem dX9_garble_41 : decode cX9_garble 41 = .ok (.aload_n 0, 1) := by decide +kernel
theorem dX9_garble_42 : decode cX9_garble 42 = .ok (.iload_n 1, 1) := by decide +kernel
theorem dX9_garble_43 : decode cX9_garble 43 = .ok (.iload_n 2, 1) := by decide +kernel
theorem dX9_garble_44 : decode cX9_garble 44 = .ok (.invokevirtual 138, 3) := by decide +kernel
theorem dX9_garble_47 : decode cX9_garble 47 = .ok (.istore_n 3, 1) := by decide +kernel
theorem dX9_garble_48 : decode cX9_garble 48 = .ok (.aload_n 0, 1) := by decide +kernel
theorem dX9_garble_49 : decode cX9_garble 49 = .ok (.getfield 66, 3) := by decide +kernel
theorem dX9_garble_52 : decode cX9_garble 52 = .ok (.iload_n 3, 1) := by decide +kernel
theorem dX9_garble_53 : decode cX9_garble 53 = .ok (.aload_n 0, 1) := by decide +kernel
theorem dX9_garble_54 : decode cX9_garble 54 = .ok (.getfield 66, 3) := by decide +kernel
theorem dX9_garble_57 : decode cX9_garble 57 = .ok (.iload_n 3, 1) := by decide +kernel
theorem dX9_garble_58 : decode cX9_garble 58 = .ok (.iaload, 1) := by decide +kernel
theorem dX9_garble_59 : decode cX9_garble 59 = .ok (.iconst 2, 1) := by decide +kernel
theorem dX9_garble_60 : decode cX9_garble 60 = .ok (.idiv, 1) := by decide +kernel
theorem dX9_garble_61 : decode cX9_garble 61 = .ok (.iconst 2, 1) := by decide +kernel
theorem dX9_garble_62 : decode cX9_garble 62 = .ok (.imul, 1) := by decide +kernel
theorem dX9_garble_63 : decode cX9_garble 63 = .ok (.iconst 1, 1) := by decide +kernel
theorem dX9_garble_64 : decode cX9_garble 64 = .ok (.iadd, 1) := by decide +kernel
theorem dX9_garble_65 : decode cX9_garble 65 = .ok (.iastore, 1) := by decide +kernel
theorem dX9_garble_66 : decode cX9_garble 66 = .ok (.aload_n 0, 1) := by decide +kernel
theorem dX9_garble_67 : decode cX9_garble 67 = .ok (.getfield 66, 3) := by decide +kernel
theorem dX9_garble_70 : decode cX9_garble 70 = .ok (.iload_n 3, 1) := by decide +kernel
theorem dX9_garble_71 : decode cX9_garble 71 = .ok (.iaload, 1) := by decide +kernel
theorem dX9_garble_72 : decode cX9_garble 72 = .ok (.iconst 2, 1) := by decide +kernel
theorem dX9_garble_73 : decode cX9_garble 73 = .ok (.idiv, 1) := by decide +kernel
theorem dX9_garble_74 : decode cX9_garble 74 = .ok (.sipush 8192, 3) := by decide +kernel
theorem dX9_garble_77 : decode cX9_garble 77 = .ok (.idiv, 1) := by decide +kernel
theorem dX9_garble_78 : decode cX9_garble 78 = .ok (.ireturn, 1) := by decide +kernel
theorem dX9_watches_0 : decode cX9_watches 0 = .ok (.iconst 0, 1) := by decide +kernel
theorem dX9_watches_1 : decode cX9_watches 1 = .ok (.istore_n 2, 1) := by decide +kernel
theorem dX9_watches_2 : decode cX9_watches 2 = .ok (.aload_n 0, 1) := by decide +kernel
theorem dX9_watches_3 : decode cX9_watches 3 = .ok (.getfield 142, 3) := by decide +kernel
theorem dX9_watches_6 : decode cX9_watches 6 = .ok (.aload_n 0, 1) := by decide +kernel
theorem dX9_watches_7 : decode cX9_watches 7 = .ok (.getfield 29, 3) := by decide +kernel
theorem dX9_watches_10 : decode cX9_watches 10 = .ok (.iload_n 1, 1) := by decide +kernel
theorem dX9_watches_11 : decode cX9_watches 11 = .ok (.iaload, 1) := by decide +kernel
theorem dX9_watches_12 : decode cX9_watches 12 = .ok (.isub, 1) := by decide +kernel
theorem dX9_watches_13 : decode cX9_watches 13 = .ok (.bipush 10, 2) := by decide +kernel
theorem dX9_watches_15 : decode cX9_watches 15 = .ok (.if_icmp .lt 16, 3) := by decide +kernel
theorem dX9_watches_18 : decode cX9_watches 18 = .ok (.aload_n 0, 1) := by decide +kernel
theorem dX9_watches_19 : decode cX9_watches 19 = .ok (.iload_n 1, 1) := by decide +kernel
theorem dX9_watches_20 : decode cX9_watches 20 = .ok (.iconst 1, 1) := by decide +kernel
theorem dX9_watches_21 : decode cX9_watches 21 = .ok (.iconst 0, 1) := by decide +kernel
theorem dX9_watches_22 : decode cX9_watches 22 = .ok (.iconst 0, 1) := by decide +kernel
theorem dX9_watches_23 : decode cX9_watches 23 = .ok (.iconst 0, 1) := by decide +kernel
theorem dX9_watches_24 : decode cX9_watches 24 = .ok (.iconst 0, 1) := by decide +kernel
theorem dX9_watches_25 : decode cX9_watches 25 = .ok (.invokevirtual 153, 3) := by decide +kernel
theorem dX9_watches_28 : decode cX9_watches 28 = .ok (.iinc 2 1, 3) := by decide +kernel
theorem dX9_watches_31 : decode cX9_watches 31 = .ok (.aload_n 0, 1) := by decide +kernel
theorem dX9_watches_32 : decode cX9_watches 32 = .ok (.getfield 142, 3) := by decide +kernel
theorem dX9_watches_35 : decode cX9_watches 35 = .ok (.aload_n 0, 1) := by decide +kernel
theorem dX9_watches_36 : decode cX9_watches 36 = .ok (.getfield 32, 3) := by decide +kernel
theorem dX9_watches_39 : decode cX9_watches 39 = .ok (.iload_n 1, 1) := by decide +kernel
theorem dX9_watches_40 : decode cX9_watches 40 = .ok (.iaload, 1) := by decide +kernel
theorem dX9_watches_41 : decode cX9_watches 41 = .ok (.isub, 1) := by decide +kernel
theorem dX9_watches_42 : decode cX9_watches 42 = .ok (.bipush 15, 2) := by decide +kernel
theorem dX9_watches_44 : decode cX9_watches 44 = .ok (.if_icmp .ne 16, 3) := by decide +kernel
theorem dX9_watches_47 : decode cX9_watches 47 = .ok (.aload_n 0, 1) := by decide +kernel
theorem dX9_watches_48 : decode cX9_watches 48 = .ok (.iload_n 1, 1) := by decide +kernel
theorem dX9_watches_49 : decode cX9_watches 49 = .ok (.iconst 2, 1) := by decide +kernel
theorem dX9_watches_50 : decode cX9_watches 50 = .ok (.iconst 0, 1) := by decide +kernel
theorem dX9_watches_51 : decode cX9_watches 51 = .ok (.iconst 0, 1) := by decide +kernel
theorem dX9_watches_52 : decode cX9_watches 52 = .ok (.iconst 0, 1) := by decide +kernel
theorem dX9_watches_53 : decode cX9_watches 53 = .ok (.iconst 0, 1) := by decide +kernel
theorem dX9_watches_54 : decode cX9_watches 54 = .ok (.invokevirtual 153, 3) := by decide +kernel
theorem dX9_watches_57 : decode cX9_watches 57 = .ok (.iinc 2 1, 3) := by decide +kernel
theorem dX9_watches_60 : decode cX9_watches 60 = .ok (.aload_n 0, 1) := by decide +kernel
theorem dX9_watches_61 : decode cX9_watches 61 = .ok (.getfield 142, 3) := by decide +kernel
theorem dX9_watches_64 : decode cX9_watches 64 = .ok (.aload_n 0, 1) := by decide +kernel
theorem dX9_watches_65 : decode cX9_watches 65 = .ok (.getfield 32, 3) := by decide +kernel
theorem dX9_watches_68 : decode cX9_watches 68 = .ok (.iload_n 1, 1) := by decide +kernel
theorem dX9_watches_69 : decode cX9_watches 69 = .ok (.iaload, 1) := by decide +kernel
theorem dX9_watches_70 : decode cX9_watches 70 = .ok (.isub, 1) := by decide +kernel
theorem dX9_watches_71 : decode cX9_watches 71 = .ok (.bipush 25, 2) := by decide +kernel
theorem dX9_watches_73 : decode cX9_watches 73 = .ok (.if_icmp .lt 8, 3) := by decide +kernel
theorem dX9_watches_76 : decode cX9_watches 76 = .ok (.aload_n 0, 1) := by decide +kernel
theorem dX9_watches_77 : decode cX9_watches 77 = .ok (.invokevirtual 161, 3) := by decide +kernel
theorem dX9_watches_80 : decode cX9_watches 80 = .ok (.pop, 1) := by decide +kernel
theorem dX9_watches_81 : decode cX9_watches 81 = .ok (.iload_n 2, 1) := by decide +kernel
theorem dX9_watches_82 : decode cX9_watches 82 = .ok (.ireturn, 1) := by decide +kernel
theorem dX9_pass_0 : decode cX9_pass 0 = .ok (.aload_n 0, 1) := by decide +kernel
theorem dX9_pass_1 : decode cX9_pass 1 = .ok (.iload_n 1, 1) := by decide +kernel
theorem dX9_pass_2 : decode cX9_pass 2 = .ok (.iconst 1, 1) := by decide +kernel
theorem dX9_pass_3 : decode cX9_pass 3 = .ok (.bipush 50, 2) := by decide +kernel
theorem dX9_pass_5 : decode cX9_pass 5 = .ok (.invokestatic 130, 3) := by decide +kernel
theorem dX9_pass_8 : decode cX9_pass 8 = .ok (.ifCond .eq 7, 3) := by decide +kernel
theorem dX9_pass_11 : decode cX9_pass 11 = .ok (.iconst 0, 1) := by decide +kernel
theorem dX9_pass_12 : decode cX9_pass 12 = .ok (.goto 4, 3) := by decide +kernel
theorem dX9_pass_15 : decode cX9_pass 15 = .ok (.iconst 1, 1) := by decide +kernel
theorem dX9_pass_16 : decode cX9_pass 16 = .ok (.putfield 126, 3) := by decide +kernel
theorem dX9_pass_19 : decode cX9_pass 19 = .ok (.iconst 0, 1) := by decide +kernel
theorem dX9_pass_20 : decode cX9_pass 20 = .ok (.istore_n 2, 1) := by decide +kernel
theorem dX9_pass_21 : decode cX9_pass 21 = .ok (.iconst 0, 1) := by decide +kernel
theorem dX9_pass_22 : decode cX9_pass 22 = .ok (.istore_n 3, 1) := by decide +kernel
theorem dX9_pass_23 : decode cX9_pass 23 = .ok (.iload_n 3, 1) := by decide +kernel
theorem dX9_pass_24 : decode cX9_pass 24 = .ok (.iload_n 1, 1) := by decide +kernel
theorem dX9_pass_25 : decode cX9_pass 25 = .ok (.if_icmp .ge 68, 3) := by decide +kernel
theorem dX9_pass_28 : decode cX9_pass 28 = .ok (.aload_n 0, 1) := by decide +kernel
theorem dX9_pass_29 : decode cX9_pass 29 = .ok (.getfield 126, 3) := by decide +kernel
theorem dX9_pass_32 : decode cX9_pass 32 = .ok (.ifCond .ne 61, 3) := by decide +kernel
theorem dX9_pass_35 : decode cX9_pass 35 = .ok (.aload_n 0, 1) := by decide +kernel
theorem dX9_pass_36 : decode cX9_pass 36 = .ok (.dup, 1) := by decide +kernel
theorem dX9_pass_37 : decode cX9_pass 37 = .ok (.getfield 142, 3) := by decide +kernel
theorem dX9_pass_40 : decode cX9_pass 40 = .ok (.iconst 1, 1) := by decide +kernel
theorem dX9_pass_41 : decode cX9_pass 41 = .ok (.iadd, 1) := by decide +kernel
theorem dX9_pass_42 : decode cX9_pass 42 = .ok (.putfield 142, 3) := by decide +kernel
theorem dX9_pass_45 : decode cX9_pass 45 = .ok (.iload_n 2, 1) := by decide +kernel
theorem dX9_pass_46 : decode cX9_pass 46 = .ok (.aload_n 0, 1) := by decide +kernel
theorem dX9_pass_47 : decode cX9_pass 47 = .ok (.getfield 7, 3) := by decide +kernel
theorem dX9_pass_50 : decode cX9_pass 50 = .ok (.iconst 0, 1) := by decide +kernel
theorem dX9_pass_51 : decode cX9_pass 51 = .ok (.baload, 1) := by decide +kernel
theorem dX9_pass_52 : decode cX9_pass 52 = .ok (.ifCond .eq 11, 3) := by decide +kernel
theorem dX9_pass_55 : decode cX9_pass 55 = .ok (.aload_n 0, 1) := by decide +kernel
theorem dX9_pass_56 : decode cX9_pass 56 = .ok (.iconst 0, 1) := by decide +kernel
theorem dX9_pass_57 : decode cX9_pass 57 = .ok (.invokevirtual 198, 3) := by decide +kernel
theorem dX9_pass_60 : decode cX9_pass 60 = .ok (.goto 4, 3) := by decide +kernel
theorem dX9_pass_63 : decode cX9_pass 63 = .ok (.iconst 0, 1) := by decide +kernel
theorem dX9_pass_64 : decode cX9_pass 64 = .ok (.iadd, 1) := by decide +kernel
theorem dX9_pass_65 : decode cX9_pass 65 = .ok (.istore_n 2, 1) := by decide +kernel
theorem dX9_pass_66 : decode cX9_pass 66 = .ok (.iload_n 2, 1) := by decide +kernel
theorem dX9_pass_67 : decode cX9_pass 67 = .ok (.aload_n 0, 1) := by decide +kernel
theorem dX9_pass_68 : decode cX9_pass 68 = .ok (.getfield 7, 3) := by decide +kernel
theorem dX9_pass_71 : decode cX9_pass 71 = .ok (.iconst 1, 1) := by decide +kernel
theorem dX9_pass_72 : decode cX9_pass 72 = .ok (.baload, 1) := by decide +kernel
theorem dX9_pass_73 : decode cX9_pass 73 = .ok (.ifCond .eq 11, 3) := by decide +kernel
theorem dX9_pass_76 : decode cX9_pass 76 = .ok (.aload_n 0, 1) := by decide +kernel
theorem dX9_pass_77 : decode cX9_pass 77 = .ok (.iconst 1, 1) := by decide +kernel
theorem dX9_pass_78 : decode cX9_pass 78 = .ok (.invokevirtual 198, 3) := by decide +kernel
theorem dX9_pass_81 : decode cX9_pass 81 = .ok (.goto 4, 3) := by decide +kernel
theorem dX9_pass_84 : decode cX9_pass 84 = .ok (.iconst 0, 1) := by decide +kernel
theorem dX9_pass_85 : decode cX9_pass 85 = .ok (.iadd, 1) := by decide +kernel
theorem dX9_pass_86 : decode cX9_pass 86 = .ok (.istore_n 2, 1) := by decide +kernel
theorem dX9_pass_87 : decode cX9_pass 87 = .ok (.iinc 3 1, 3) := by decide +kernel
theorem dX9_pass_90 : decode cX9_pass 90 = .ok (.goto (-67), 3) := by decide +kernel
theorem dX9_pass_93 : decode cX9_pass 93 = .ok (.iload_n 2, 1) := by decide +kernel
theorem dX9_pass_94 : decode cX9_pass 94 = .ok (.ireturn, 1) := by decide +kernel
theorem dX9_isUp_0 : decode cX9_isUp 0 = .ok (.aload_n 0, 1) := by decide +kernel
theorem dX9_isUp_1 : decode cX9_isUp 1 = .ok (.iconst 0, 1) := by decide +kernel
theorem dX9_isUp_2 : decode cX9_isUp 2 = .ok (.putfield 126, 3) := by decide +kernel
theorem dX9_isUp_5 : decode cX9_isUp 5 = .ok (.aload_n 0, 1) := by decide +kernel
theorem dX9_isUp_6 : decode cX9_isUp 6 = .ok (.getfield 145, 3) := by decide +kernel
theorem dX9_isUp_9 : decode cX9_isUp 9 = .ok (.ireturn, 1) := by decide +kernel
theorem dX9_asks_0 : decode cX9_asks 0 = .ok (.aload_n 0, 1) := by decide +kernel
theorem dX9_asks_1 : decode cX9_asks 1 = .ok (.iload_n 1, 1) := by decide +kernel
theorem dX9_asks_2 : decode cX9_asks 2 = .ok (.invokestatic 191, 3) := by decide +kernel
theorem dX9_asks_5 : decode cX9_asks 5 = .ok (.ifCond .eq 7, 3) := by decide +kernel
theorem dX9_asks_8 : decode cX9_asks 8 = .ok (.iconst 0, 1) := by decide +kernel
theorem dX9_asks_9 : decode cX9_asks 9 = .ok (.goto 4, 3) := by decide +kernel
theorem dX9_asks_12 : decode cX9_asks 12 = .ok (.iconst 1, 1) := by decide +kernel
theorem dX9_asks_13 : decode cX9_asks 13 = .ok (.putfield 126, 3) := by decide +kernel
theorem dX9_asks_16 : decode cX9_asks 16 = .ok (.aload_n 0, 1) := by decide +kernel
theorem dX9_asks_17 : decode cX9_asks 17 = .ok (.getfield 126, 3) := by decide +kernel
theorem dX9_asks_20 : decode cX9_asks 20 = .ok (.ifCond .ne 7, 3) := by decide +kernel
theorem dX9_asks_23 : decode cX9_asks 23 = .ok (.iconst 1, 1) := by decide +kernel
theorem dX9_asks_24 : decode cX9_asks 24 = .ok (.goto 4, 3) := by decide +kernel
theorem dX9_asks_27 : decode cX9_asks 27 = .ok (.iconst 0, 1) := by decide +kernel
theorem dX9_asks_28 : decode cX9_asks 28 = .ok (.ireturn, 1) := by decide +kernel
theorem dX9_isOn_0 : decode cX9_isOn 0 = .ok (.aload_n 0, 1) := by decide +kernel
theorem dX9_isOn_1 : decode cX9_isOn 1 = .ok (.iload_n 1, 1) := by decide +kernel
theorem dX9_isOn_2 : decode cX9_isOn 2 = .ok (.invokevirtual 202, 3) := by decide +kernel
theorem dX9_isOn_5 : decode cX9_isOn 5 = .ok (.ifCond .eq 16, 3) := by decide +kernel
theorem dX9_isOn_8 : decode cX9_isOn 8 = .ok (.aload_n 0, 1) := by decide +kernel
theorem dX9_isOn_9 : decode cX9_isOn 9 = .ok (.getfield 7, 3) := by decide +kernel
theorem dX9_isOn_12 : decode cX9_isOn 12 = .ok (.iload_n 1, 1) := by decide +kernel
theorem dX9_isOn_13 : decode cX9_isOn 13 = .ok (.baload, 1) := by decide +kernel
theorem dX9_isOn_14 : decode cX9_isOn 14 = .ok (.ifCond .eq 7, 3) := by decide +kernel
theorem dX9_isOn_17 : decode cX9_isOn 17 = .ok (.iconst 1, 1) := by decide +kernel
theorem dX9_isOn_18 : decode cX9_isOn 18 = .ok (.goto 4, 3) := by decide +kernel
theorem dX9_isOn_21 : decode cX9_isOn 21 = .ok (.iconst 0, 1) := by decide +kernel
theorem dX9_isOn_22 : decode cX9_isOn 22 = .ok (.ireturn, 1) := by decide +kernel
theorem dX9_onWay_0 : decode cX9_onWay 0 = .ok (.aload_n 0, 1) := by decide +kernel
theorem dX9_onWay_1 : decode cX9_onWay 1 = .ok (.iload_n 1, 1) := by decide +kernel
theorem dX9_onWay_2 : decode cX9_onWay 2 = .ok (.invokevirtual 202, 3) := by decide +kernel
theorem dX9_onWay_5 : decode cX9_onWay 5 = .ok (.ifCond .eq 12, 3) := by decide +kernel
theorem dX9_onWay_8 : decode cX9_onWay 8 = .ok (.aload_n 0, 1) := by decide +kernel
theorem dX9_onWay_9 : decode cX9_onWay 9 = .ok (.getfield 62, 3) := by decide +kernel
theorem dX9_onWay_12 : decode cX9_onWay 12 = .ok (.iload_n 1, 1) := by decide +kernel
theorem dX9_onWay_13 : decode cX9_onWay 13 = .ok (.iaload, 1) := by decide +kernel
theorem dX9_onWay_14 : decode cX9_onWay 14 = .ok (.goto 4, 3) := by decide +kernel
theorem dX9_onWay_17 : decode cX9_onWay 17 = .ok (.iconst 0, 1) := by decide +kernel
theorem dX9_onWay_18 : decode cX9_onWay 18 = .ok (.ireturn, 1) := by decide +kernel
theorem dX9_sent_0 : decode cX9_sent 0 = .ok (.aload_n 0, 1) := by decide +kernel
theorem dX9_sent_1 : decode cX9_sent 1 = .ok (.iload_n 1, 1) := by decide +kernel
theorem dX9_sent_2 : decode cX9_sent 2 = .ok (.invokevirtual 202, 3) := by decide +kernel
theorem dX9_sent_5 : decode cX9_sent 5 = .ok (.ifCond .eq 12, 3) := by decide +kernel
theorem dX9_sent_8 : decode cX9_sent 8 = .ok (.aload_n 0, 1) := by decide +kernel
theorem dX9_sent_9 : decode cX9_sent 9 = .ok (.getfield 13, 3) := by decide +kernel
theorem dX9_sent_12 : decode cX9_sent 12 = .ok (.iload_n 1, 1) := by decide +kernel
theorem dX9_sent_13 : decode cX9_sent 13 = .ok (.iaload, 1) := by decide +kernel
theorem dX9_sent_14 : decode cX9_sent 14 = .ok (.goto 4, 3) := by decide +kernel
theorem dX9_sent_17 : decode cX9_sent 17 = .ok (.iconst 0, 1) := by decide +kernel
theorem dX9_sent_18 : decode cX9_sent 18 = .ok (.ireturn, 1) := by decide +kernel
theorem dX9_expected_0 : decode cX9_expected 0 = .ok (.aload_n 0, 1) := by decide +kernel
theorem dX9_expected_1 : decode cX9_expected 1 = .ok (.iload_n 1, 1) := by decide +kernel
theorem dX9_expected_2 : decode cX9_expected 2 = .ok (.invokevirtual 202, 3) := by decide +kernel
theorem dX9_expected_5 : decode cX9_expected 5 = .ok (.ifCond .eq 12, 3) := by decide +kernel
theorem dX9_expected_8 : decode cX9_expected 8 = .ok (.aload_n 0, 1) := by decide +kernel
theorem dX9_expected_9 : decode cX9_expected 9 = .ok (.getfield 17, 3) := by decide +kernel
theorem dX9_expected_12 : decode cX9_expected 12 = .ok (.iload_n 1, 1) := by decide +kernel
theorem dX9_expected_13 : decode cX9_expected 13 = .ok (.iaload, 1) := by decide +kernel
theorem dX9_expected_14 : decode cX9_expected 14 = .ok (.goto 4, 3) := by decide +kernel
theorem dX9_expected_17 : decode cX9_expected 17 = .ok (.iconst 0, 1) := by decide +kernel
theorem dX9_expected_18 : decode cX9_expected 18 = .ok (.ireturn, 1) := by decide +kernel
theorem dX9_held_0 : decode cX9_held 0 = .ok (.aload_n 0, 1) := by decide +kernel
theorem dX9_held_1 : decode cX9_held 1 = .ok (.iload_n 1, 1) := by decide +kernel
theorem dX9_held_2 : decode cX9_held 2 = .ok (.invokevirtual 202, 3) := by decide +kernel
theorem dX9_held_5 : decode cX9_held 5 = .ok (.ifCond .eq 12, 3) := by decide +kernel
theorem dX9_held_8 : decode cX9_held 8 = .ok (.aload_n 0, 1) := by decide +kernel
theorem dX9_held_9 : decode cX9_held 9 = .ok (.getfield 20, 3) := by decide +kernel
theorem dX9_held_12 : decode cX9_held 12 = .ok (.iload_n 1, 1) := by decide +kernel
theorem dX9_held_13 : decode cX9_held 13 = .ok (.iaload, 1) := by decide +kernel
theorem dX9_held_14 : decode cX9_held 14 = .ok (.goto 4, 3) := by decide +kernel
theorem dX9_held_17 : decode cX9_held 17 = .ok (.iconst 0, 1) := by decide +kernel
theorem dX9_held_18 : decode cX9_held 18 = .ok (.ireturn, 1) := by decide +kernel
theorem dX9_manyOwn_0 : decode cX9_manyOwn 0 = .ok (.aload_n 0, 1) := by decide +kernel
theorem dX9_manyOwn_1 : decode cX9_manyOwn 1 = .ok (.getfield 35, 3) := by decide +kernel
theorem dX9_manyOwn_4 : decode cX9_manyOwn 4 = .ok (.iload_n 1, 1) := by decide +kernel
theorem dX9_manyOwn_5 : decode cX9_manyOwn 5 = .ok (.iaload, 1) := by decide +kernel
theorem dX9_manyOwn_6 : decode cX9_manyOwn 6 = .ok (.bipush 8, 2) := by decide +kernel
theorem dX9_manyOwn_8 : decode cX9_manyOwn 8 = .ok (.if_icmp .ne 12, 3) := by decide +kernel
theorem dX9_manyOwn_11 : decode cX9_manyOwn 11 = .ok (.aload_n 0, 1) := by decide +kernel
theorem dX9_manyOwn_12 : decode cX9_manyOwn 12 = .ok (.getfield 44, 3) := by decide +kernel
theorem dX9_manyOwn_15 : decode cX9_manyOwn 15 = .ok (.iload_n 1, 1) := by decide +kernel
theorem dX9_manyOwn_16 : decode cX9_manyOwn 16 = .ok (.iaload, 1) := by decide +kernel
theorem dX9_manyOwn_17 : decode cX9_manyOwn 17 = .ok (.goto 4, 3) := by decide +kernel
theorem dX9_manyOwn_20 : decode cX9_manyOwn 20 = .ok (.iconst (-1), 1) := by decide +kernel
theorem dX9_manyOwn_21 : decode cX9_manyOwn 21 = .ok (.istore_n 2, 1) := by decide +kernel
theorem dX9_manyOwn_22 : decode cX9_manyOwn 22 = .ok (.iload_n 2, 1) := by decide +kernel
theorem dX9_manyOwn_23 : decode cX9_manyOwn 23 = .ok (.iconst 1, 1) := by decide +kernel
theorem dX9_manyOwn_24 : decode cX9_manyOwn 24 = .ok (.if_icmp .ne 16, 3) := by decide +kernel
theorem dX9_manyOwn_27 : decode cX9_manyOwn 27 = .ok (.iconst 1, 1) := by decide +kernel
theorem dX9_manyOwn_28 : decode cX9_manyOwn 28 = .ok (.iconst 4, 1) := by decide +kernel
theorem dX9_manyOwn_29 : decode cX9_manyOwn 29 = .ok (.aload_n 0, 1) := by decide +kernel
theorem dX9_manyOwn_30 : decode cX9_manyOwn 30 = .ok (.getfield 53, 3) := by decide +kernel
theorem dX9_manyOwn_33 : decode cX9_manyOwn 33 = .ok (.iload_n 1, 1) := by decide +kernel
theorem dX9_manyOwn_34 : decode cX9_manyOwn 34 = .ok (.iaload, 1) := by decide +kernel
theorem dX9_manyOwn_35 : decode cX9_manyOwn 35 = .ok (.imul, 1) := by decide +kernel
theorem dX9_manyOwn_36 : decode cX9_manyOwn 36 = .ok (.iadd, 1) := by decide +kernel
theorem dX9_manyOwn_37 : decode cX9_manyOwn 37 = .ok (.goto 33, 3) := by decide +kernel
theorem dX9_manyOwn_40 : decode cX9_manyOwn 40 = .ok (.iload_n 2, 1) := by decide +kernel
theorem dX9_manyOwn_41 : decode cX9_manyOwn 41 = .ok (.iconst 2, 1) := by decide +kernel
theorem dX9_manyOwn_42 : decode cX9_manyOwn 42 = .ok (.if_icmp .eq 8, 3) := by decide +kernel
theorem dX9_manyOwn_45 : decode cX9_manyOwn 45 = .ok (.iload_n 2, 1) := by decide +kernel
theorem dX9_manyOwn_46 : decode cX9_manyOwn 46 = .ok (.iconst 5, 1) := by decide +kernel
theorem dX9_manyOwn_47 : decode cX9_manyOwn 47 = .ok (.if_icmp .ne 7, 3) := by decide +kernel
theorem dX9_manyOwn_50 : decode cX9_manyOwn 50 = .ok (.iconst 1, 1) := by decide +kernel
theorem dX9_manyOwn_51 : decode cX9_manyOwn 51 = .ok (.goto 19, 3) := by decide +kernel
theorem dX9_manyOwn_54 : decode cX9_manyOwn 54 = .ok (.iload_n 2, 1) := by decide +kernel
theorem dX9_manyOwn_55 : decode cX9_manyOwn 55 = .ok (.iconst 3, 1) := by decide +kernel
theorem dX9_manyOwn_56 : decode cX9_manyOwn 56 = .ok (.if_icmp .eq 9, 3) := by decide +kernel
theorem dX9_manyOwn_59 : decode cX9_manyOwn 59 = .ok (.iload_n 2, 1) := by decide +kernel
theorem dX9_manyOwn_60 : decode cX9_manyOwn 60 = .ok (.bipush 6, 2) := by decide +kernel
theorem dX9_manyOwn_62 : decode cX9_manyOwn 62 = .ok (.if_icmp .ne 7, 3) := by decide +kernel
theorem dX9_manyOwn_65 : decode cX9_manyOwn 65 = .ok (.iconst 2, 1) := by decide +kernel
theorem dX9_manyOwn_66 : decode cX9_manyOwn 66 = .ok (.goto 4, 3) := by decide +kernel
theorem dX9_manyOwn_69 : decode cX9_manyOwn 69 = .ok (.iconst 0, 1) := by decide +kernel
theorem dX9_manyOwn_70 : decode cX9_manyOwn 70 = .ok (.istore_n 3, 1) := by decide +kernel
theorem dX9_manyOwn_71 : decode cX9_manyOwn 71 = .ok (.aload_n 0, 1) := by decide +kernel
theorem dX9_manyOwn_72 : decode cX9_manyOwn 72 = .ok (.getfield 35, 3) := by decide +kernel
theorem dX9_manyOwn_75 : decode cX9_manyOwn 75 = .ok (.iload_n 1, 1) := by decide +kernel
theorem dX9_manyOwn_76 : decode cX9_manyOwn 76 = .ok (.iaload, 1) := by decide +kernel
theorem dX9_manyOwn_77 : decode cX9_manyOwn 77 = .ok (.iconst 3, 1) := by decide +kernel
theorem dX9_manyOwn_78 : decode cX9_manyOwn 78 = .ok (.if_icmp .eq 14, 3) := by decide +kernel
theorem dX9_manyOwn_81 : decode cX9_manyOwn 81 = .ok (.aload_n 0, 1) := by decide +kernel
theorem dX9_manyOwn_82 : decode cX9_manyOwn 82 = .ok (.getfield 35, 3) := by decide +kernel
theorem dX9_manyOwn_85 : decode cX9_manyOwn 85 = .ok (.iload_n 1, 1) := by decide +kernel
theorem dX9_manyOwn_86 : decode cX9_manyOwn 86 = .ok (.iaload, 1) := by decide +kernel
theorem dX9_manyOwn_87 : decode cX9_manyOwn 87 = .ok (.bipush 6, 2) := by decide +kernel
theorem dX9_manyOwn_89 : decode cX9_manyOwn 89 = .ok (.if_icmp .ne 7, 3) := by decide +kernel
theorem dX9_manyOwn_92 : decode cX9_manyOwn 92 = .ok (.iconst 1, 1) := by decide +kernel
theorem dX9_manyOwn_93 : decode cX9_manyOwn 93 = .ok (.goto 50, 3) := by decide +kernel
theorem dX9_manyOwn_96 : decode cX9_manyOwn 96 = .ok (.aload_n 0, 1) := by decide +kernel
theorem dX9_manyOwn_97 : decode cX9_manyOwn 97 = .ok (.getfield 35, 3) := by decide +kernel
theorem dX9_manyOwn_100 : decode cX9_manyOwn 100 = .ok (.iload_n 1, 1) := by decide +kernel
theorem dX9_manyOwn_101 : decode cX9_manyOwn 101 = .ok (.iaload, 1) := by decide +kernel
theorem dX9_manyOwn_102 : decode cX9_manyOwn 102 = .ok (.iconst 5, 1) := by decide +kernel
theorem dX9_manyOwn_103 : decode cX9_manyOwn 103 = .ok (.if_icmp .ne 7, 3) := by decide +kernel
theorem dX9_manyOwn_106 : decode cX9_manyOwn 106 = .ok (.iconst 4, 1) := by decide +kernel
theorem dX9_manyOwn_107 : decode cX9_manyOwn 107 = .ok (.goto 36, 3) := by decide +kernel
theorem dX9_manyOwn_110 : decode cX9_manyOwn 110 = .ok (.aload_n 0, 1) := by decide +kernel
theorem dX9_manyOwn_111 : decode cX9_manyOwn 111 = .ok (.getfield 35, 3) := by decide +kernel
theorem dX9_manyOwn_114 : decode cX9_manyOwn 114 = .ok (.iload_n 1, 1) := by decide +kernel
theorem dX9_manyOwn_115 : decode cX9_manyOwn 115 = .ok (.iaload, 1) := by decide +kernel
theorem dX9_manyOwn_116 : decode cX9_manyOwn 116 = .ok (.bipush 7, 2) := by decide +kernel
theorem dX9_manyOwn_118 : decode cX9_manyOwn 118 = .ok (.if_icmp .ne 7, 3) := by decide +kernel
theorem dX9_manyOwn_121 : decode cX9_manyOwn 121 = .ok (.iconst 3, 1) := by decide +kernel
theorem dX9_manyOwn_122 : decode cX9_manyOwn 122 = .ok (.goto 21, 3) := by decide +kernel
theorem dX9_manyOwn_125 : decode cX9_manyOwn 125 = .ok (.aload_n 0, 1) := by decide +kernel
theorem dX9_manyOwn_126 : decode cX9_manyOwn 126 = .ok (.getfield 35, 3) := by decide +kernel
theorem dX9_manyOwn_129 : decode cX9_manyOwn 129 = .ok (.iload_n 1, 1) := by decide +kernel
theorem dX9_manyOwn_130 : decode cX9_manyOwn 130 = .ok (.iaload, 1) := by decide +kernel
theorem dX9_manyOwn_131 : decode cX9_manyOwn 131 = .ok (.bipush 8, 2) := by decide +kernel
theorem dX9_manyOwn_133 : decode cX9_manyOwn 133 = .ok (.if_icmp .ne 9, 3) := by decide +kernel
theorem dX9_manyOwn_136 : decode cX9_manyOwn 136 = .ok (.iconst 2, 1) := by decide +kernel
theorem dX9_manyOwn_137 : decode cX9_manyOwn 137 = .ok (.iload_n 3, 1) := by decide +kernel
theorem dX9_manyOwn_138 : decode cX9_manyOwn 138 = .ok (.iadd, 1) := by decide +kernel
theorem dX9_manyOwn_139 : decode cX9_manyOwn 139 = .ok (.goto 4, 3) := by decide +kernel
theorem dX9_manyOwn_142 : decode cX9_manyOwn 142 = .ok (.iconst 0, 1) := by decide +kernel
theorem dX9_manyOwn_143 : decode cX9_manyOwn 143 = .ok (.ireturn, 1) := by decide +kernel
theorem dX9_tagOfReport_0 : decode cX9_tagOfReport 0 = .ok (.aload_n 0, 1) := by decide +kernel
theorem dX9_tagOfReport_1 : decode cX9_tagOfReport 1 = .ok (.getfield 44, 3) := by decide +kernel
theorem dX9_tagOfReport_4 : decode cX9_tagOfReport 4 = .ok (.iload_n 1, 1) := by decide +kernel
theorem dX9_tagOfReport_5 : decode cX9_tagOfReport 5 = .ok (.iaload, 1) := by decide +kernel
theorem dX9_tagOfReport_6 : decode cX9_tagOfReport 6 = .ok (.istore_n 3, 1) := by decide +kernel
theorem dX9_tagOfReport_7 : decode cX9_tagOfReport 7 = .ok (.iload_n 3, 1) := by decide +kernel
theorem dX9_tagOfReport_8 : decode cX9_tagOfReport 8 = .ok (.iconst 1, 1) := by decide +kernel
theorem dX9_tagOfReport_9 : decode cX9_tagOfReport 9 = .ok (.if_icmp .ne 57, 3) := by decide +kernel
theorem dX9_tagOfReport_12 : decode cX9_tagOfReport 12 = .ok (.iload_n 2, 1) := by decide +kernel
theorem dX9_tagOfReport_13 : decode cX9_tagOfReport 13 = .ok (.ifCond .ne 9, 3) := by decide +kernel
theorem dX9_tagOfReport_16 : decode cX9_tagOfReport 16 = .ok (.sipush 382, 3) := by decide +kernel
theorem dX9_tagOfReport_19 : decode cX9_tagOfReport 19 = .ok (.goto 46, 3) := by decide +kernel
theorem dX9_tagOfReport_22 : decode cX9_tagOfReport 22 = .ok (.iload_n 2, 1) := by decide +kernel
theorem dX9_tagOfReport_23 : decode cX9_tagOfReport 23 = .ok (.iconst 1, 1) := by decide +kernel
theorem dX9_tagOfReport_24 : decode cX9_tagOfReport 24 = .ok (.isub, 1) := by decide +kernel
theorem dX9_tagOfReport_25 : decode cX9_tagOfReport 25 = .ok (.iconst 4, 1) := by decide +kernel
theorem dX9_tagOfReport_26 : decode cX9_tagOfReport 26 = .ok (.irem, 1) := by decide +kernel
theorem dX9_tagOfReport_27 : decode cX9_tagOfReport 27 = .ok (.ifCond .ne 8, 3) := by decide +kernel
theorem dX9_tagOfReport_30 : decode cX9_tagOfReport 30 = .ok (.bipush 17, 2) := by decide +kernel
theorem dX9_tagOfReport_32 : decode cX9_tagOfReport 32 = .ok (.goto 33, 3) := by decide +kernel
theorem dX9_tagOfReport_35 : decode cX9_tagOfReport 35 = .ok (.iload_n 2, 1) := by decide +kernel
theorem dX9_tagOfReport_36 : decode cX9_tagOfReport 36 = .ok (.iconst 1, 1) := by decide +kernel
theorem dX9_tagOfReport_37 : decode cX9_tagOfReport 37 = .ok (.isub, 1) := by decide +kernel
theorem dX9_tagOfReport_38 : decode cX9_tagOfReport 38 = .ok (.iconst 4, 1) := by decide +kernel
theorem dX9_tagOfReport_39 : decode cX9_tagOfReport 39 = .ok (.irem, 1) := by decide +kernel
theorem dX9_tagOfReport_40 : decode cX9_tagOfReport 40 = .ok (.iconst 1, 1) := by decide +kernel
theorem dX9_tagOfReport_41 : decode cX9_tagOfReport 41 = .ok (.if_icmp .ne 8, 3) := by decide +kernel
theorem dX9_tagOfReport_44 : decode cX9_tagOfReport 44 = .ok (.bipush 30, 2) := by decide +kernel
theorem dX9_tagOfReport_46 : decode cX9_tagOfReport 46 = .ok (.goto 19, 3) := by decide +kernel
theorem dX9_tagOfReport_49 : decode cX9_tagOfReport 49 = .ok (.iload_n 2, 1) := by decide +kernel
theorem dX9_tagOfReport_50 : decode cX9_tagOfReport 50 = .ok (.iconst 1, 1) := by decide +kernel
theorem dX9_tagOfReport_51 : decode cX9_tagOfReport 51 = .ok (.isub, 1) := by decide +kernel
theorem dX9_tagOfReport_52 : decode cX9_tagOfReport 52 = .ok (.iconst 4, 1) := by decide +kernel
theorem dX9_tagOfReport_53 : decode cX9_tagOfReport 53 = .ok (.irem, 1) := by decide +kernel
theorem dX9_tagOfReport_54 : decode cX9_tagOfReport 54 = .ok (.iconst 2, 1) := by decide +kernel
theorem dX9_tagOfReport_55 : decode cX9_tagOfReport 55 = .ok (.if_icmp .ne 8, 3) := by decide +kernel
theorem dX9_tagOfReport_58 : decode cX9_tagOfReport 58 = .ok (.bipush 31, 2) := by decide +kernel
theorem dX9_tagOfReport_60 : decode cX9_tagOfReport 60 = .ok (.goto 5, 3) := by decide +kernel
theorem dX9_tagOfReport_63 : decode cX9_tagOfReport 63 = .ok (.bipush 32, 2) := by decide +kernel
theorem dX9_tagOfReport_65 : decode cX9_tagOfReport 65 = .ok (.ireturn, 1) := by decide +kernel
theorem dX9_tagOfReport_66 : decode cX9_tagOfReport 66 = .ok (.iload_n 3, 1) := by decide +kernel
theorem dX9_tagOfReport_67 : decode cX9_tagOfReport 67 = .ok (.iconst 2, 1) := by decide +kernel
theorem dX9_tagOfReport_68 : decode cX9_tagOfReport 68 = .ok (.if_icmp .ne 8, 3) := by decide +kernel
theorem dX9_tagOfReport_71 : decode cX9_tagOfReport 71 = .ok (.bipush 32, 2) := by decide +kernel
theorem dX9_tagOfReport_73 : decode cX9_tagOfReport 73 = .ok (.goto 33, 3) := by decide +kernel
theorem dX9_tagOfReport_76 : decode cX9_tagOfReport 76 = .ok (.iload_n 3, 1) := by decide +kernel
theorem dX9_tagOfReport_77 : decode cX9_tagOfReport 77 = .ok (.iconst 3, 1) := by decide +kernel
theorem dX9_tagOfReport_78 : decode cX9_tagOfReport 78 = .ok (.if_icmp .ne 17, 3) := by decide +kernel
theorem dX9_tagOfReport_81 : decode cX9_tagOfReport 81 = .ok (.iload_n 2, 1) := by decide +kernel
theorem dX9_tagOfReport_82 : decode cX9_tagOfReport 82 = .ok (.ifCond .ne 8, 3) := by decide +kernel
theorem dX9_tagOfReport_85 : decode cX9_tagOfReport 85 = .ok (.bipush 44, 2) := by decide +kernel
theorem dX9_tagOfReport_87 : decode cX9_tagOfReport 87 = .ok (.goto 19, 3) := by decide +kernel
theorem dX9_tagOfReport_90 : decode cX9_tagOfReport 90 = .ok (.bipush 38, 2) := by decide +kernel
theorem dX9_tagOfReport_92 : decode cX9_tagOfReport 92 = .ok (.goto 14, 3) := by decide +kernel
theorem dX9_tagOfReport_95 : decode cX9_tagOfReport 95 = .ok (.iload_n 2, 1) := by decide +kernel
theorem dX9_tagOfReport_96 : decode cX9_tagOfReport 96 = .ok (.ifCond .ne 8, 3) := by decide +kernel
theorem dX9_tagOfReport_99 : decode cX9_tagOfReport 99 = .ok (.bipush 17, 2) := by decide +kernel
theorem dX9_tagOfReport_101 : decode cX9_tagOfReport 101 = .ok (.goto 5, 3) := by decide +kernel
theorem dX9_tagOfReport_104 : decode cX9_tagOfReport 104 = .ok (.bipush 31, 2) := by decide +kernel
theorem dX9_tagOfReport_106 : decode cX9_tagOfReport 106 = .ok (.ireturn, 1) := by decide +kernel
theorem dX9_valueOfReport_0 : decode cX9_valueOfReport 0 = .ok (.aload_n 0, 1) := by decide +kernel
theorem dX9_valueOfReport_1 : decode cX9_valueOfReport 1 = .ok (.getfield 44, 3) := by decide +kernel
theorem dX9_valueOfReport_4 : decode cX9_valueOfReport 4 = .ok (.iload_n 1, 1) := by decide +kernel
theorem dX9_valueOfReport_5 : decode cX9_valueOfReport 5 = .ok (.iaload, 1) := by decide +kernel
theorem dX9_valueOfReport_6 : decode cX9_valueOfReport 6 = .ok (.iconst 1, 1) := by decide +kernel
theorem dX9_valueOfReport_7 : decode cX9_valueOfReport 7 = .ok (.if_icmp .eq 23, 3) := by decide +kernel
theorem dX9_valueOfReport_10 : decode cX9_valueOfReport 10 = .ok (.iload_n 2, 1) := by decide +kernel
theorem dX9_valueOfReport_11 : decode cX9_valueOfReport 11 = .ok (.ifCond .ne 12, 3) := by decide +kernel
theorem dX9_valueOfReport_14 : decode cX9_valueOfReport 14 = .ok (.aload_n 0, 1) := by decide +kernel
theorem dX9_valueOfReport_15 : decode cX9_valueOfReport 15 = .ok (.getfield 50, 3) := by decide +kernel
theorem dX9_valueOfReport_18 : decode cX9_valueOfReport 18 = .ok (.iload_n 1, 1) := by decide +kernel
theorem dX9_valueOfReport_19 : decode cX9_valueOfReport 19 = .ok (.iaload, 1) := by decide +kernel
theorem dX9_valueOfReport_20 : decode cX9_valueOfReport 20 = .ok (.goto 9, 3) := by decide +kernel
theorem dX9_valueOfReport_23 : decode cX9_valueOfReport 23 = .ok (.aload_n 0, 1) := by decide +kernel
theorem dX9_valueOfReport_24 : decode cX9_valueOfReport 24 = .ok (.getfield 53, 3) := by decide +kernel
theorem dX9_valueOfReport_27 : decode cX9_valueOfReport 27 = .ok (.iload_n 1, 1) := by decide +kernel
theorem dX9_valueOfReport_28 : decode cX9_valueOfReport 28 = .ok (.iaload, 1) := by decide +kernel
theorem dX9_valueOfReport_29 : decode cX9_valueOfReport 29 = .ok (.ireturn, 1) := by decide +kernel
theorem dX9_valueOfReport_30 : decode cX9_valueOfReport 30 = .ok (.aload_n 0, 1) := by decide +kernel
theorem dX9_valueOfReport_31 : decode cX9_valueOfReport 31 = .ok (.getfield 50, 3) := by decide +kernel
theorem dX9_valueOfReport_34 : decode cX9_valueOfReport 34 = .ok (.iload_n 1, 1) := by decide +kernel
theorem dX9_valueOfReport_35 : decode cX9_valueOfReport 35 = .ok (.iaload, 1) := by decide +kernel
theorem dX9_valueOfReport_36 : decode cX9_valueOfReport 36 = .ok (.iload_n 2, 1) := by decide +kernel
theorem dX9_valueOfReport_37 : decode cX9_valueOfReport 37 = .ok (.iconst 1, 1) := by decide +kernel
theorem dX9_valueOfReport_38 : decode cX9_valueOfReport 38 = .ok (.isub, 1) := by decide +kernel
theorem dX9_valueOfReport_39 : decode cX9_valueOfReport 39 = .ok (.iconst 4, 1) := by decide +kernel
theorem dX9_valueOfReport_40 : decode cX9_valueOfReport 40 = .ok (.idiv, 1) := by decide +kernel
theorem dX9_valueOfReport_41 : decode cX9_valueOfReport 41 = .ok (.iadd, 1) := by decide +kernel
theorem dX9_valueOfReport_42 : decode cX9_valueOfReport 42 = .ok (.istore_n 3, 1) := by decide +kernel
theorem dX9_valueOfReport_43 : decode cX9_valueOfReport 43 = .ok (.iload_n 2, 1) := by decide +kernel
theorem dX9_valueOfReport_44 : decode cX9_valueOfReport 44 = .ok (.ifCond .ne 12, 3) := by decide +kernel
theorem dX9_valueOfReport_47 : decode cX9_valueOfReport 47 = .ok (.aload_n 0, 1) := by decide +kernel
theorem dX9_valueOfReport_48 : decode cX9_valueOfReport 48 = .ok (.getfield 53, 3) := by decide +kernel
theorem dX9_valueOfReport_51 : decode cX9_valueOfReport 51 = .ok (.iload_n 1, 1) := by decide +kernel
theorem dX9_valueOfReport_52 : decode cX9_valueOfReport 52 = .ok (.iaload, 1) := by decide +kernel
theorem dX9_valueOfReport_53 : decode cX9_valueOfReport 53 = .ok (.goto 57, 3) := by decide +kernel
theorem dX9_valueOfReport_56 : decode cX9_valueOfReport 56 = .ok (.iload_n 2, 1) := by decide +kernel
theorem dX9_valueOfReport_57 : decode cX9_valueOfReport 57 = .ok (.iconst 1, 1) := by decide +kernel
theorem dX9_valueOfReport_58 : decode cX9_valueOfReport 58 = .ok (.isub, 1) := by decide +kernel
theorem dX9_valueOfReport_59 : decode cX9_valueOfReport 59 = .ok (.iconst 4, 1) := by decide +kernel
theorem dX9_valueOfReport_60 : decode cX9_valueOfReport 60 = .ok (.irem, 1) := by decide +kernel
theorem dX9_valueOfReport_61 : decode cX9_valueOfReport 61 = .ok (.ifCond .ne 7, 3) := by decide +kernel
theorem dX9_valueOfReport_64 : decode cX9_valueOfReport 64 = .ok (.iload_n 3, 1) := by decide +kernel
theorem dX9_valueOfReport_65 : decode cX9_valueOfReport 65 = .ok (.goto 45, 3) := by decide +kernel
theorem dX9_valueOfReport_68 : decode cX9_valueOfReport 68 = .ok (.iload_n 2, 1) := by decide +kernel
theorem dX9_valueOfReport_69 : decode cX9_valueOfReport 69 = .ok (.iconst 1, 1) := by decide +kernel
theorem dX9_valueOfReport_70 : decode cX9_valueOfReport 70 = .ok (.isub, 1) := by decide +kernel
theorem dX9_valueOfReport_71 : decode cX9_valueOfReport 71 = .ok (.iconst 4, 1) := by decide +kernel
theorem dX9_valueOfReport_72 : decode cX9_valueOfReport 72 = .ok (.irem, 1) := by decide +kernel
theorem dX9_valueOfReport_73 : decode cX9_valueOfReport 73 = .ok (.iconst 1, 1) := by decide +kernel
theorem dX9_valueOfReport_74 : decode cX9_valueOfReport 74 = .ok (.if_icmp .ne 12, 3) := by decide +kernel
theorem dX9_valueOfReport_77 : decode cX9_valueOfReport 77 = .ok (.aload_n 0, 1) := by decide +kernel
theorem dX9_valueOfReport_78 : decode cX9_valueOfReport 78 = .ok (.getfield 105, 3) := by decide +kernel
theorem dX9_valueOfReport_81 : decode cX9_valueOfReport 81 = .ok (.iload_n 3, 1) := by decide +kernel
theorem dX9_valueOfReport_82 : decode cX9_valueOfReport 82 = .ok (.iaload, 1) := by decide +kernel
theorem dX9_valueOfReport_83 : decode cX9_valueOfReport 83 = .ok (.goto 27, 3) := by decide +kernel
theorem dX9_valueOfReport_86 : decode cX9_valueOfReport 86 = .ok (.iload_n 2, 1) := by decide +kernel
theorem dX9_valueOfReport_87 : decode cX9_valueOfReport 87 = .ok (.iconst 1, 1) := by decide +kernel
theorem dX9_valueOfReport_88 : decode cX9_valueOfReport 88 = .ok (.isub, 1) := by decide +kernel
theorem dX9_valueOfReport_89 : decode cX9_valueOfReport 89 = .ok (.iconst 4, 1) := by decide +kernel
theorem dX9_valueOfReport_90 : decode cX9_valueOfReport 90 = .ok (.irem, 1) := by decide +kernel
theorem dX9_valueOfReport_91 : decode cX9_valueOfReport 91 = .ok (.iconst 2, 1) := by decide +kernel
theorem dX9_valueOfReport_92 : decode cX9_valueOfReport 92 = .ok (.if_icmp .ne 12, 3) := by decide +kernel
theorem dX9_valueOfReport_95 : decode cX9_valueOfReport 95 = .ok (.aload_n 0, 1) := by decide +kernel
theorem dX9_valueOfReport_96 : decode cX9_valueOfReport 96 = .ok (.getfield 114, 3) := by decide +kernel
theorem dX9_valueOfReport_99 : decode cX9_valueOfReport 99 = .ok (.iload_n 3, 1) := by decide +kernel
theorem dX9_valueOfReport_100 : decode cX9_valueOfReport 100 = .ok (.iaload, 1) := by decide +kernel
theorem dX9_valueOfReport_101 : decode cX9_valueOfReport 101 = .ok (.goto 9, 3) := by decide +kernel
theorem dX9_valueOfReport_104 : decode cX9_valueOfReport 104 = .ok (.aload_n 0, 1) := by decide +kernel
theorem dX9_valueOfReport_105 : decode cX9_valueOfReport 105 = .ok (.getfield 111, 3) := by decide +kernel
theorem dX9_valueOfReport_108 : decode cX9_valueOfReport 108 = .ok (.iload_n 3, 1) := by decide +kernel
theorem dX9_valueOfReport_109 : decode cX9_valueOfReport 109 = .ok (.iaload, 1) := by decide +kernel
theorem dX9_valueOfReport_110 : decode cX9_valueOfReport 110 = .ok (.ireturn, 1) := by decide +kernel
theorem dX9_ownTag_0 : decode cX9_ownTag 0 = .ok (.aload_n 0, 1) := by decide +kernel
theorem dX9_ownTag_1 : decode cX9_ownTag 1 = .ok (.getfield 35, 3) := by decide +kernel
theorem dX9_ownTag_4 : decode cX9_ownTag 4 = .ok (.iload_n 1, 1) := by decide +kernel
theorem dX9_ownTag_5 : decode cX9_ownTag 5 = .ok (.iaload, 1) := by decide +kernel
theorem dX9_ownTag_6 : decode cX9_ownTag 6 = .ok (.tableswitch 91 3 7 #[34, 91, 37, 69, 69], 34) := by decide +kernel
theorem dX9_ownTag_40 : decode cX9_ownTag 40 = .ok (.bipush 7, 2) := by decide +kernel
theorem dX9_ownTag_42 : decode cX9_ownTag 42 = .ok (.ireturn, 1) := by decide +kernel
theorem dX9_ownTag_43 : decode cX9_ownTag 43 = .ok (.iload_n 2, 1) := by decide +kernel
theorem dX9_ownTag_44 : decode cX9_ownTag 44 = .ok (.ifCond .ne 8, 3) := by decide +kernel
theorem dX9_ownTag_47 : decode cX9_ownTag 47 = .ok (.bipush 11, 2) := by decide +kernel
theorem dX9_ownTag_49 : decode cX9_ownTag 49 = .ok (.goto 25, 3) := by decide +kernel
theorem dX9_ownTag_52 : decode cX9_ownTag 52 = .ok (.iload_n 2, 1) := by decide +kernel
theorem dX9_ownTag_53 : decode cX9_ownTag 53 = .ok (.iconst 1, 1) := by decide +kernel
theorem dX9_ownTag_54 : decode cX9_ownTag 54 = .ok (.if_icmp .ne 8, 3) := by decide +kernel
theorem dX9_ownTag_57 : decode cX9_ownTag 57 = .ok (.bipush 54, 2) := by decide +kernel
theorem dX9_ownTag_59 : decode cX9_ownTag 59 = .ok (.goto 15, 3) := by decide +kernel
theorem dX9_ownTag_62 : decode cX9_ownTag 62 = .ok (.iload_n 2, 1) := by decide +kernel
theorem dX9_ownTag_63 : decode cX9_ownTag 63 = .ok (.iconst 2, 1) := by decide +kernel
theorem dX9_ownTag_64 : decode cX9_ownTag 64 = .ok (.if_icmp .ne 8, 3) := by decide +kernel
theorem dX9_ownTag_67 : decode cX9_ownTag 67 = .ok (.bipush 44, 2) := by decide +kernel
theorem dX9_ownTag_69 : decode cX9_ownTag 69 = .ok (.goto 5, 3) := by decide +kernel
theorem dX9_ownTag_72 : decode cX9_ownTag 72 = .ok (.bipush 38, 2) := by decide +kernel
theorem dX9_ownTag_74 : decode cX9_ownTag 74 = .ok (.ireturn, 1) := by decide +kernel
theorem dX9_ownTag_75 : decode cX9_ownTag 75 = .ok (.iload_n 2, 1) := by decide +kernel
theorem dX9_ownTag_76 : decode cX9_ownTag 76 = .ok (.ifCond .ne 8, 3) := by decide +kernel
theorem dX9_ownTag_79 : decode cX9_ownTag 79 = .ok (.bipush 41, 2) := by decide +kernel
theorem dX9_ownTag_81 : decode cX9_ownTag 81 = .ok (.goto 15, 3) := by decide +kernel
theorem dX9_ownTag_84 : decode cX9_ownTag 84 = .ok (.iload_n 2, 1) := by decide +kernel
theorem dX9_ownTag_85 : decode cX9_ownTag 85 = .ok (.iconst 1, 1) := by decide +kernel
theorem dX9_ownTag_86 : decode cX9_ownTag 86 = .ok (.if_icmp .ne 8, 3) := by decide +kernel
theorem dX9_ownTag_89 : decode cX9_ownTag 89 = .ok (.bipush 44, 2) := by decide +kernel
theorem dX9_ownTag_91 : decode cX9_ownTag 91 = .ok (.goto 5, 3) := by decide +kernel
theorem dX9_ownTag_94 : decode cX9_ownTag 94 = .ok (.bipush 38, 2) := by decide +kernel
theorem dX9_ownTag_96 : decode cX9_ownTag 96 = .ok (.ireturn, 1) := by decide +kernel
theorem dX9_ownTag_97 : decode cX9_ownTag 97 = .ok (.iload_n 2, 1) := by decide +kernel
theorem dX9_ownTag_98 : decode cX9_ownTag 98 = .ok (.ifCond .ne 9, 3) := by decide +kernel
theorem dX9_ownTag_101 : decode cX9_ownTag 101 = .ok (.sipush 150, 3) := by decide +kernel
theorem dX9_ownTag_104 : decode cX9_ownTag 104 = .ok (.goto 21, 3) := by decide +kernel
theorem dX9_ownTag_107 : decode cX9_ownTag 107 = .ok (.iload_n 2, 1) := by decide +kernel
theorem dX9_ownTag_108 : decode cX9_ownTag 108 = .ok (.iconst 1, 1) := by decide +kernel
theorem dX9_ownTag_109 : decode cX9_ownTag 109 = .ok (.if_icmp .ne 8, 3) := by decide +kernel
theorem dX9_ownTag_112 : decode cX9_ownTag 112 = .ok (.bipush 37, 2) := by decide +kernel
theorem dX9_ownTag_114 : decode cX9_ownTag 114 = .ok (.goto 11, 3) := by decide +kernel
theorem dX9_ownTag_117 : decode cX9_ownTag 117 = .ok (.aload_n 0, 1) := by decide +kernel
theorem dX9_ownTag_118 : decode cX9_ownTag 118 = .ok (.iload_n 1, 1) := by decide +kernel
theorem dX9_ownTag_119 : decode cX9_ownTag 119 = .ok (.iload_n 2, 1) := by decide +kernel
theorem dX9_ownTag_120 : decode cX9_ownTag 120 = .ok (.iconst 2, 1) := by decide +kernel
theorem dX9_ownTag_121 : decode cX9_ownTag 121 = .ok (.isub, 1) := by decide +kernel
theorem dX9_ownTag_122 : decode cX9_ownTag 122 = .ok (.invokevirtual 205, 3) := by decide +kernel
theorem dX9_ownTag_125 : decode cX9_ownTag 125 = .ok (.ireturn, 1) := by decide +kernel
theorem dX9_ownValue_0 : decode cX9_ownValue 0 = .ok (.aload_n 0, 1) := by decide +kernel
theorem dX9_ownValue_1 : decode cX9_ownValue 1 = .ok (.getfield 35, 3) := by decide +kernel
theorem dX9_ownValue_4 : decode cX9_ownValue 4 = .ok (.iload_n 1, 1) := by decide +kernel
theorem dX9_ownValue_5 : decode cX9_ownValue 5 = .ok (.iaload, 1) := by decide +kernel
theorem dX9_ownValue_6 : decode cX9_ownValue 6 = .ok (.bipush 8, 2) := by decide +kernel
theorem dX9_ownValue_8 : decode cX9_ownValue 8 = .ok (.if_icmp .ne 17, 3) := by decide +kernel
theorem dX9_ownValue_11 : decode cX9_ownValue 11 = .ok (.iload_n 2, 1) := by decide +kernel
theorem dX9_ownValue_12 : decode cX9_ownValue 12 = .ok (.iconst 1, 1) := by decide +kernel
theorem dX9_ownValue_13 : decode cX9_ownValue 13 = .ok (.if_icmp .le 12, 3) := by decide +kernel
theorem dX9_ownValue_16 : decode cX9_ownValue 16 = .ok (.aload_n 0, 1) := by decide +kernel
theorem dX9_ownValue_17 : decode cX9_ownValue 17 = .ok (.iload_n 1, 1) := by decide +kernel
theorem dX9_ownValue_18 : decode cX9_ownValue 18 = .ok (.iload_n 2, 1) := by decide +kernel
theorem dX9_ownValue_19 : decode cX9_ownValue 19 = .ok (.iconst 2, 1) := by decide +kernel
theorem dX9_ownValue_20 : decode cX9_ownValue 20 = .ok (.isub, 1) := by decide +kernel
theorem dX9_ownValue_21 : decode cX9_ownValue 21 = .ok (.invokevirtual 208, 3) := by decide +kernel
theorem dX9_ownValue_24 : decode cX9_ownValue 24 = .ok (.ireturn, 1) := by decide +kernel
theorem dX9_ownValue_25 : decode cX9_ownValue 25 = .ok (.iload_n 2, 1) := by decide +kernel
theorem dX9_ownValue_26 : decode cX9_ownValue 26 = .ok (.ifCond .ne 12, 3) := by decide +kernel
theorem dX9_ownValue_29 : decode cX9_ownValue 29 = .ok (.aload_n 0, 1) := by decide +kernel
theorem dX9_ownValue_30 : decode cX9_ownValue 30 = .ok (.getfield 44, 3) := by decide +kernel
theorem dX9_ownValue_33 : decode cX9_ownValue 33 = .ok (.iload_n 1, 1) := by decide +kernel
theorem dX9_ownValue_34 : decode cX9_ownValue 34 = .ok (.iaload, 1) := by decide +kernel
theorem dX9_ownValue_35 : decode cX9_ownValue 35 = .ok (.goto 37, 3) := by decide +kernel
theorem dX9_ownValue_38 : decode cX9_ownValue 38 = .ok (.iload_n 2, 1) := by decide +kernel
theorem dX9_ownValue_39 : decode cX9_ownValue 39 = .ok (.iconst 1, 1) := by decide +kernel
theorem dX9_ownValue_40 : decode cX9_ownValue 40 = .ok (.if_icmp .ne 12, 3) := by decide +kernel
theorem dX9_ownValue_43 : decode cX9_ownValue 43 = .ok (.aload_n 0, 1) := by decide +kernel
theorem dX9_ownValue_44 : decode cX9_ownValue 44 = .ok (.getfield 47, 3) := by decide +kernel
theorem dX9_ownValue_47 : decode cX9_ownValue 47 = .ok (.iload_n 1, 1) := by decide +kernel
theorem dX9_ownValue_48 : decode cX9_ownValue 48 = .ok (.iaload, 1) := by decide +kernel
theorem dX9_ownValue_49 : decode cX9_ownValue 49 = .ok (.goto 23, 3) := by decide +kernel
theorem dX9_ownValue_52 : decode cX9_ownValue 52 = .ok (.iload_n 2, 1) := by decide +kernel
theorem dX9_ownValue_53 : decode cX9_ownValue 53 = .ok (.iconst 2, 1) := by decide +kernel
theorem dX9_ownValue_54 : decode cX9_ownValue 54 = .ok (.if_icmp .ne 12, 3) := by decide +kernel
theorem dX9_ownValue_57 : decode cX9_ownValue 57 = .ok (.aload_n 0, 1) := by decide +kernel
theorem dX9_ownValue_58 : decode cX9_ownValue 58 = .ok (.getfield 50, 3) := by decide +kernel
theorem dX9_ownValue_61 : decode cX9_ownValue 61 = .ok (.iload_n 1, 1) := by decide +kernel
theorem dX9_ownValue_62 : decode cX9_ownValue 62 = .ok (.iaload, 1) := by decide +kernel
theorem dX9_ownValue_63 : decode cX9_ownValue 63 = .ok (.goto 9, 3) := by decide +kernel
theorem dX9_ownValue_66 : decode cX9_ownValue 66 = .ok (.aload_n 0, 1) := by decide +kernel
theorem dX9_ownValue_67 : decode cX9_ownValue 67 = .ok (.getfield 53, 3) := by decide +kernel
theorem dX9_ownValue_70 : decode cX9_ownValue 70 = .ok (.iload_n 1, 1) := by decide +kernel
theorem dX9_ownValue_71 : decode cX9_ownValue 71 = .ok (.iaload, 1) := by decide +kernel
theorem dX9_ownValue_72 : decode cX9_ownValue 72 = .ok (.ireturn, 1) := by decide +kernel
theorem dX9_tagOf_0 : decode cX9_tagOf 0 = .ok (.iload_n 2, 1) := by decide +kernel
theorem dX9_tagOf_1 : decode cX9_tagOf 1 = .ok (.ifCond .ne 8, 3) := by decide +kernel
theorem dX9_tagOf_4 : decode cX9_tagOf 4 = .ok (.bipush 35, 2) := by decide +kernel
theorem dX9_tagOf_6 : decode cX9_tagOf 6 = .ok (.goto 37, 3) := by decide +kernel
theorem dX9_tagOf_9 : decode cX9_tagOf 9 = .ok (.iload_n 2, 1) := by decide +kernel
theorem dX9_tagOf_10 : decode cX9_tagOf 10 = .ok (.iconst 1, 1) := by decide +kernel
theorem dX9_tagOf_11 : decode cX9_tagOf 11 = .ok (.if_icmp .ne 8, 3) := by decide +kernel
theorem dX9_tagOf_14 : decode cX9_tagOf 14 = .ok (.bipush 34, 2) := by decide +kernel
theorem dX9_tagOf_16 : decode cX9_tagOf 16 = .ok (.goto 27, 3) := by decide +kernel
theorem dX9_tagOf_19 : decode cX9_tagOf 19 = .ok (.iload_n 2, 1) := by decide +kernel
theorem dX9_tagOf_20 : decode cX9_tagOf 20 = .ok (.aload_n 0, 1) := by decide +kernel
theorem dX9_tagOf_21 : decode cX9_tagOf 21 = .ok (.iload_n 1, 1) := by decide +kernel
theorem dX9_tagOf_22 : decode cX9_tagOf 22 = .ok (.invokevirtual 211, 3) := by decide +kernel
theorem dX9_tagOf_25 : decode cX9_tagOf 25 = .ok (.iconst 2, 1) := by decide +kernel
theorem dX9_tagOf_26 : decode cX9_tagOf 26 = .ok (.iadd, 1) := by decide +kernel
theorem dX9_tagOf_27 : decode cX9_tagOf 27 = .ok (.if_icmp .ne 8, 3) := by decide +kernel
theorem dX9_tagOf_30 : decode cX9_tagOf 30 = .ok (.bipush 10, 2) := by decide +kernel
theorem dX9_tagOf_32 : decode cX9_tagOf 32 = .ok (.goto 11, 3) := by decide +kernel
theorem dX9_tagOf_35 : decode cX9_tagOf 35 = .ok (.aload_n 0, 1) := by decide +kernel
theorem dX9_tagOf_36 : decode cX9_tagOf 36 = .ok (.iload_n 1, 1) := by decide +kernel
theorem dX9_tagOf_37 : decode cX9_tagOf 37 = .ok (.iload_n 2, 1) := by decide +kernel
theorem dX9_tagOf_38 : decode cX9_tagOf 38 = .ok (.iconst 2, 1) := by decide +kernel
theorem dX9_tagOf_39 : decode cX9_tagOf 39 = .ok (.isub, 1) := by decide +kernel
theorem dX9_tagOf_40 : decode cX9_tagOf 40 = .ok (.invokevirtual 214, 3) := by decide +kernel
theorem dX9_tagOf_43 : decode cX9_tagOf 43 = .ok (.ireturn, 1) := by decide +kernel
theorem dX9_valueOf_0 : decode cX9_valueOf 0 = .ok (.iload_n 3, 1) := by decide +kernel
theorem dX9_valueOf_1 : decode cX9_valueOf 1 = .ok (.ifCond .ne 12, 3) := by decide +kernel
theorem dX9_valueOf_4 : decode cX9_valueOf 4 = .ok (.aload_n 0, 1) := by decide +kernel
theorem dX9_valueOf_5 : decode cX9_valueOf 5 = .ok (.getfield 35, 3) := by decide +kernel
theorem dX9_valueOf_8 : decode cX9_valueOf 8 = .ok (.iload_n 1, 1) := by decide +kernel
theorem dX9_valueOf_9 : decode cX9_valueOf 9 = .ok (.iaload, 1) := by decide +kernel
theorem dX9_valueOf_10 : decode cX9_valueOf 10 = .ok (.goto 20, 3) := by decide +kernel
theorem dX9_valueOf_13 : decode cX9_valueOf 13 = .ok (.iload_n 3, 1) := by decide +kernel
theorem dX9_valueOf_14 : decode cX9_valueOf 14 = .ok (.iconst 1, 1) := by decide +kernel
theorem dX9_valueOf_15 : decode cX9_valueOf 15 = .ok (.if_icmp .ne 7, 3) := by decide +kernel
theorem dX9_valueOf_18 : decode cX9_valueOf 18 = .ok (.iload_n 2, 1) := by decide +kernel
theorem dX9_valueOf_19 : decode cX9_valueOf 19 = .ok (.goto 11, 3) := by decide +kernel
theorem dX9_valueOf_22 : decode cX9_valueOf 22 = .ok (.aload_n 0, 1) := by decide +kernel
theorem dX9_valueOf_23 : decode cX9_valueOf 23 = .ok (.iload_n 1, 1) := by decide +kernel
theorem dX9_valueOf_24 : decode cX9_valueOf 24 = .ok (.iload_n 3, 1) := by decide +kernel
theorem dX9_valueOf_25 : decode cX9_valueOf 25 = .ok (.iconst 2, 1) := by decide +kernel
theorem dX9_valueOf_26 : decode cX9_valueOf 26 = .ok (.isub, 1) := by decide +kernel
theorem dX9_valueOf_27 : decode cX9_valueOf 27 = .ok (.invokevirtual 217, 3) := by decide +kernel
theorem dX9_valueOf_30 : decode cX9_valueOf 30 = .ok (.ireturn, 1) := by decide +kernel
theorem dX9_isMessage_0 : decode cX9_isMessage 0 = .ok (.iload_n 1, 1) := by decide +kernel
theorem dX9_isMessage_1 : decode cX9_isMessage 1 = .ok (.invokestatic 191, 3) := by decide +kernel
theorem dX9_isMessage_4 : decode cX9_isMessage 4 = .ok (.ifCond .eq 21, 3) := by decide +kernel
theorem dX9_isMessage_7 : decode cX9_isMessage 7 = .ok (.iload_n 2, 1) := by decide +kernel
theorem dX9_isMessage_8 : decode cX9_isMessage 8 = .ok (.iconst 1, 1) := by decide +kernel
theorem dX9_isMessage_9 : decode cX9_isMessage 9 = .ok (.aload_n 0, 1) := by decide +kernel
theorem dX9_isMessage_10 : decode cX9_isMessage 10 = .ok (.getfield 13, 3) := by decide +kernel
theorem dX9_isMessage_13 : decode cX9_isMessage 13 = .ok (.iload_n 1, 1) := by decide +kernel
theorem dX9_isMessage_14 : decode cX9_isMessage 14 = .ok (.iaload, 1) := by decide +kernel
theorem dX9_isMessage_15 : decode cX9_isMessage 15 = .ok (.invokestatic 130, 3) := by decide +kernel
theorem dX9_isMessage_18 : decode cX9_isMessage 18 = .ok (.ifCond .eq 7, 3) := by decide +kernel
theorem dX9_isMessage_21 : decode cX9_isMessage 21 = .ok (.iconst 1, 1) := by decide +kernel
theorem dX9_isMessage_22 : decode cX9_isMessage 22 = .ok (.goto 4, 3) := by decide +kernel
theorem dX9_isMessage_25 : decode cX9_isMessage 25 = .ok (.iconst 0, 1) := by decide +kernel
theorem dX9_isMessage_26 : decode cX9_isMessage 26 = .ok (.ireturn, 1) := by decide +kernel
theorem dX9_fields_0 : decode cX9_fields 0 = .ok (.aload_n 0, 1) := by decide +kernel
theorem dX9_fields_1 : decode cX9_fields 1 = .ok (.aload_n 0, 1) := by decide +kernel
theorem dX9_fields_2 : decode cX9_fields 2 = .ok (.iload_n 1, 1) := by decide +kernel
theorem dX9_fields_3 : decode cX9_fields 3 = .ok (.iload_n 2, 1) := by decide +kernel
theorem dX9_fields_4 : decode cX9_fields 4 = .ok (.invokevirtual 220, 3) := by decide +kernel
theorem dX9_fields_7 : decode cX9_fields 7 = .ok (.ifCond .eq 7, 3) := by decide +kernel
theorem dX9_fields_10 : decode cX9_fields 10 = .ok (.iconst 0, 1) := by decide +kernel
theorem dX9_fields_11 : decode cX9_fields 11 = .ok (.goto 4, 3) := by decide +kernel
theorem dX9_fields_14 : decode cX9_fields 14 = .ok (.iconst 1, 1) := by decide +kernel
theorem dX9_fields_15 : decode cX9_fields 15 = .ok (.putfield 126, 3) := by decide +kernel
theorem dX9_fields_18 : decode cX9_fields 18 = .ok (.aload_n 0, 1) := by decide +kernel
theorem dX9_fields_19 : decode cX9_fields 19 = .ok (.getfield 126, 3) := by decide +kernel
theorem dX9_fields_22 : decode cX9_fields 22 = .ok (.ifCond .le 7, 3) := by decide +kernel
theorem dX9_fields_25 : decode cX9_fields 25 = .ok (.iconst 0, 1) := by decide +kernel
theorem dX9_fields_26 : decode cX9_fields 26 = .ok (.goto 16, 3) := by decide +kernel
theorem dX9_fields_29 : decode cX9_fields 29 = .ok (.aload_n 0, 1) := by decide +kernel
theorem dX9_fields_30 : decode cX9_fields 30 = .ok (.sipush 8192, 3) := by decide +kernel
theorem dX9_fields_33 : decode cX9_fields 33 = .ok (.iload_n 1, 1) := by decide +kernel
theorem dX9_fields_34 : decode cX9_fields 34 = .ok (.imul, 1) := by decide +kernel
theorem dX9_fields_35 : decode cX9_fields 35 = .ok (.iload_n 2, 1) := by decide +kernel
theorem dX9_fields_36 : decode cX9_fields 36 = .ok (.iadd, 1) := by decide +kernel
theorem dX9_fields_37 : decode cX9_fields 37 = .ok (.invokevirtual 211, 3) := by decide +kernel
theorem dX9_fields_40 : decode cX9_fields 40 = .ok (.iconst 3, 1) := by decide +kernel
theorem dX9_fields_41 : decode cX9_fields 41 = .ok (.iadd, 1) := by decide +kernel
theorem dX9_fields_42 : decode cX9_fields 42 = .ok (.ireturn, 1) := by decide +kernel
theorem dX9_asksField_0 : decode cX9_asksField 0 = .ok (.aload_n 0, 1) := by decide +kernel
theorem dX9_asksField_1 : decode cX9_asksField 1 = .ok (.aload_n 0, 1) := by decide +kernel
theorem dX9_asksField_2 : decode cX9_asksField 2 = .ok (.iload_n 1, 1) := by decide +kernel
theorem dX9_asksField_3 : decode cX9_asksField 3 = .ok (.iload_n 2, 1) := by decide +kernel
theorem dX9_asksField_4 : decode cX9_asksField 4 = .ok (.invokevirtual 220, 3) := by decide +kernel
theorem dX9_asksField_7 : decode cX9_asksField 7 = .ok (.ifCond .eq 28, 3) := by decide +kernel
theorem dX9_asksField_10 : decode cX9_asksField 10 = .ok (.iload_n 3, 1) := by decide +kernel
theorem dX9_asksField_11 : decode cX9_asksField 11 = .ok (.iconst 0, 1) := by decide +kernel
theorem dX9_asksField_12 : decode cX9_asksField 12 = .ok (.aload_n 0, 1) := by decide +kernel
theorem dX9_asksField_13 : decode cX9_asksField 13 = .ok (.sipush 8192, 3) := by decide +kernel
theorem dX9_asksField_16 : decode cX9_asksField 16 = .ok (.iload_n 1, 1) := by decide +kernel
theorem dX9_asksField_17 : decode cX9_asksField 17 = .ok (.imul, 1) := by decide +kernel
theorem dX9_asksField_18 : decode cX9_asksField 18 = .ok (.iload_n 2, 1) := by decide +kernel
theorem dX9_asksField_19 : decode cX9_asksField 19 = .ok (.iadd, 1) := by decide +kernel
theorem dX9_asksField_20 : decode cX9_asksField 20 = .ok (.invokevirtual 211, 3) := by decide +kernel
theorem dX9_asksField_23 : decode cX9_asksField 23 = .ok (.iconst 2, 1) := by decide +kernel
theorem dX9_asksField_24 : decode cX9_asksField 24 = .ok (.iadd, 1) := by decide +kernel
theorem dX9_asksField_25 : decode cX9_asksField 25 = .ok (.invokestatic 130, 3) := by decide +kernel
theorem dX9_asksField_28 : decode cX9_asksField 28 = .ok (.ifCond .eq 7, 3) := by decide +kernel
theorem dX9_asksField_31 : decode cX9_asksField 31 = .ok (.iconst 0, 1) := by decide +kernel
theorem dX9_asksField_32 : decode cX9_asksField 32 = .ok (.goto 4, 3) := by decide +kernel
theorem dX9_asksField_35 : decode cX9_asksField 35 = .ok (.iconst 1, 1) := by decide +kernel
theorem dX9_asksField_36 : decode cX9_asksField 36 = .ok (.putfield 126, 3) := by decide +kernel
theorem dX9_asksField_39 : decode cX9_asksField 39 = .ok (.aload_n 0, 1) := by decide +kernel
theorem dX9_asksField_40 : decode cX9_asksField 40 = .ok (.getfield 126, 3) := by decide +kernel
theorem dX9_asksField_43 : decode cX9_asksField 43 = .ok (.ifCond .ne 7, 3) := by decide +kernel
theorem dX9_asksField_46 : decode cX9_asksField 46 = .ok (.iconst 1, 1) := by decide +kernel
theorem dX9_asksField_47 : decode cX9_asksField 47 = .ok (.goto 4, 3) := by decide +kernel
theorem dX9_asksField_50 : decode cX9_asksField 50 = .ok (.iconst 0, 1) := by decide +kernel
theorem dX9_asksField_51 : decode cX9_asksField 51 = .ok (.ireturn, 1) := by decide +kernel
theorem dX9_tagAt_0 : decode cX9_tagAt 0 = .ok (.aload_n 0, 1) := by decide +kernel
theorem dX9_tagAt_1 : decode cX9_tagAt 1 = .ok (.iload_n 1, 1) := by decide +kernel
theorem dX9_tagAt_2 : decode cX9_tagAt 2 = .ok (.iload_n 2, 1) := by decide +kernel
theorem dX9_tagAt_3 : decode cX9_tagAt 3 = .ok (.iload_n 3, 1) := by decide +kernel
theorem dX9_tagAt_4 : decode cX9_tagAt 4 = .ok (.invokevirtual 223, 3) := by decide +kernel
theorem dX9_tagAt_7 : decode cX9_tagAt 7 = .ok (.ifCond .eq 18, 3) := by decide +kernel
theorem dX9_tagAt_10 : decode cX9_tagAt 10 = .ok (.aload_n 0, 1) := by decide +kernel
theorem dX9_tagAt_11 : decode cX9_tagAt 11 = .ok (.sipush 8192, 3) := by decide +kernel
theorem dX9_tagAt_14 : decode cX9_tagAt 14 = .ok (.iload_n 1, 1) := by decide +kernel
theorem dX9_tagAt_15 : decode cX9_tagAt 15 = .ok (.imul, 1) := by decide +kernel
theorem dX9_tagAt_16 : decode cX9_tagAt 16 = .ok (.iload_n 2, 1) := by decide +kernel
theorem dX9_tagAt_17 : decode cX9_tagAt 17 = .ok (.iadd, 1) := by decide +kernel
theorem dX9_tagAt_18 : decode cX9_tagAt 18 = .ok (.iload_n 3, 1) := by decide +kernel
theorem dX9_tagAt_19 : decode cX9_tagAt 19 = .ok (.invokevirtual 226, 3) := by decide +kernel
theorem dX9_tagAt_22 : decode cX9_tagAt 22 = .ok (.goto 4, 3) := by decide +kernel
theorem dX9_tagAt_25 : decode cX9_tagAt 25 = .ok (.iconst 0, 1) := by decide +kernel
theorem dX9_tagAt_26 : decode cX9_tagAt 26 = .ok (.ireturn, 1) := by decide +kernel
theorem dX9_valueAt_0 : decode cX9_valueAt 0 = .ok (.aload_n 0, 1) := by decide +kernel
theorem dX9_valueAt_1 : decode cX9_valueAt 1 = .ok (.iload_n 1, 1) := by decide +kernel
theorem dX9_valueAt_2 : decode cX9_valueAt 2 = .ok (.iload_n 2, 1) := by decide +kernel
theorem dX9_valueAt_3 : decode cX9_valueAt 3 = .ok (.iload_n 3, 1) := by decide +kernel
theorem dX9_valueAt_4 : decode cX9_valueAt 4 = .ok (.invokevirtual 223, 3) := by decide +kernel
theorem dX9_valueAt_7 : decode cX9_valueAt 7 = .ok (.ifCond .ne 5, 3) := by decide +kernel
theorem dX9_valueAt_10 : decode cX9_valueAt 10 = .ok (.iconst 0, 1) := by decide +kernel
theorem dX9_valueAt_11 : decode cX9_valueAt 11 = .ok (.ireturn, 1) := by decide +kernel
theorem dX9_valueAt_12 : decode cX9_valueAt 12 = .ok (.sipush 8192, 3) := by decide +kernel
theorem dX9_valueAt_15 : decode cX9_valueAt 15 = .ok (.iload_n 1, 1) := by decide +kernel
theorem dX9_valueAt_16 : decode cX9_valueAt 16 = .ok (.imul, 1) := by decide +kernel
theorem dX9_valueAt_17 : decode cX9_valueAt 17 = .ok (.iload_n 2, 1) := by decide +kernel
theorem dX9_valueAt_18 : decode cX9_valueAt 18 = .ok (.iadd, 1) := by decide +kernel
theorem dX9_valueAt_19 : decode cX9_valueAt 19 = .ok (.istore 4, 2) := by decide +kernel
theorem dX9_valueAt_21 : decode cX9_valueAt 21 = .ok (.iload_n 3, 1) := by decide +kernel
theorem dX9_valueAt_22 : decode cX9_valueAt 22 = .ok (.aload_n 0, 1) := by decide +kernel
theorem dX9_valueAt_23 : decode cX9_valueAt 23 = .ok (.iload 4, 2) := by decide +kernel
theorem dX9_valueAt_25 : decode cX9_valueAt 25 = .ok (.invokevirtual 211, 3) := by decide +kernel
theorem dX9_valueAt_28 : decode cX9_valueAt 28 = .ok (.iconst 2, 1) := by decide +kernel
theorem dX9_valueAt_29 : decode cX9_valueAt 29 = .ok (.iadd, 1) := by decide +kernel
theorem dX9_valueAt_30 : decode cX9_valueAt 30 = .ok (.if_icmp .ge 12, 3) := by decide +kernel
theorem dX9_valueAt_33 : decode cX9_valueAt 33 = .ok (.aload_n 0, 1) := by decide +kernel
theorem dX9_valueAt_34 : decode cX9_valueAt 34 = .ok (.iload 4, 2) := by decide +kernel
theorem dX9_valueAt_36 : decode cX9_valueAt 36 = .ok (.iload_n 2, 1) := by decide +kernel
theorem dX9_valueAt_37 : decode cX9_valueAt 37 = .ok (.iload_n 3, 1) := by decide +kernel
theorem dX9_valueAt_38 : decode cX9_valueAt 38 = .ok (.invokevirtual 229, 3) := by decide +kernel
theorem dX9_valueAt_41 : decode cX9_valueAt 41 = .ok (.ireturn, 1) := by decide +kernel
theorem dX9_valueAt_42 : decode cX9_valueAt 42 = .ok (.iconst 0, 1) := by decide +kernel
theorem dX9_valueAt_43 : decode cX9_valueAt 43 = .ok (.istore 5, 2) := by decide +kernel
theorem dX9_valueAt_45 : decode cX9_valueAt 45 = .ok (.iconst 0, 1) := by decide +kernel
theorem dX9_valueAt_46 : decode cX9_valueAt 46 = .ok (.istore 6, 2) := by decide +kernel
theorem dX9_valueAt_48 : decode cX9_valueAt 48 = .ok (.iload 6, 2) := by decide +kernel
theorem dX9_valueAt_50 : decode cX9_valueAt 50 = .ok (.iload_n 3, 1) := by decide +kernel
theorem dX9_valueAt_51 : decode cX9_valueAt 51 = .ok (.if_icmp .ge 32, 3) := by decide +kernel
theorem dX9_valueAt_54 : decode cX9_valueAt 54 = .ok (.iload 5, 2) := by decide +kernel
theorem dX9_valueAt_56 : decode cX9_valueAt 56 = .ok (.aload_n 0, 1) := by decide +kernel
theorem dX9_valueAt_57 : decode cX9_valueAt 57 = .ok (.iload 4, 2) := by decide +kernel
theorem dX9_valueAt_59 : decode cX9_valueAt 59 = .ok (.iload 6, 2) := by decide +kernel
theorem dX9_valueAt_61 : decode cX9_valueAt 61 = .ok (.invokevirtual 226, 3) := by decide +kernel
theorem dX9_valueAt_64 : decode cX9_valueAt 64 = .ok (.aload_n 0, 1) := by decide +kernel
theorem dX9_valueAt_65 : decode cX9_valueAt 65 = .ok (.iload 4, 2) := by decide +kernel
theorem dX9_valueAt_67 : decode cX9_valueAt 67 = .ok (.iload_n 2, 1) := by decide +kernel
theorem dX9_valueAt_68 : decode cX9_valueAt 68 = .ok (.iload 6, 2) := by decide +kernel
theorem dX9_valueAt_70 : decode cX9_valueAt 70 = .ok (.invokevirtual 229, 3) := by decide +kernel
theorem dX9_valueAt_73 : decode cX9_valueAt 73 = .ok (.iadd, 1) := by decide +kernel
theorem dX9_valueAt_74 : decode cX9_valueAt 74 = .ok (.iadd, 1) := by decide +kernel
theorem dX9_valueAt_75 : decode cX9_valueAt 75 = .ok (.istore 5, 2) := by decide +kernel
theorem dX9_valueAt_77 : decode cX9_valueAt 77 = .ok (.iinc 6 1, 3) := by decide +kernel
theorem dX9_valueAt_80 : decode cX9_valueAt 80 = .ok (.goto (-32), 3) := by decide +kernel
theorem dX9_valueAt_83 : decode cX9_valueAt 83 = .ok (.iload 5, 2) := by decide +kernel
theorem dX9_valueAt_85 : decode cX9_valueAt 85 = .ok (.sipush 256, 3) := by decide +kernel
theorem dX9_valueAt_88 : decode cX9_valueAt 88 = .ok (.irem, 1) := by decide +kernel
theorem dX9_valueAt_89 : decode cX9_valueAt 89 = .ok (.ireturn, 1) := by decide +kernel
theorem dX9_leftIn_0 : decode cX9_leftIn 0 = .ok (.aload_n 0, 1) := by decide +kernel
theorem dX9_leftIn_1 : decode cX9_leftIn 1 = .ok (.getfield 78, 3) := by decide +kernel
theorem dX9_leftIn_4 : decode cX9_leftIn 4 = .ok (.iload_n 1, 1) := by decide +kernel
theorem dX9_leftIn_5 : decode cX9_leftIn 5 = .ok (.iaload, 1) := by decide +kernel
theorem dX9_leftIn_6 : decode cX9_leftIn 6 = .ok (.aload_n 0, 1) := by decide +kernel
theorem dX9_leftIn_7 : decode cX9_leftIn 7 = .ok (.getfield 81, 3) := by decide +kernel
theorem dX9_leftIn_10 : decode cX9_leftIn 10 = .ok (.iload_n 1, 1) := by decide +kernel
theorem dX9_leftIn_11 : decode cX9_leftIn 11 = .ok (.iaload, 1) := by decide +kernel
theorem dX9_leftIn_12 : decode cX9_leftIn 12 = .ok (.isub, 1) := by decide +kernel
theorem dX9_leftIn_13 : decode cX9_leftIn 13 = .ok (.aload_n 0, 1) := by decide +kernel
theorem dX9_leftIn_14 : decode cX9_leftIn 14 = .ok (.getfield 84, 3) := by decide +kernel
theorem dX9_leftIn_17 : decode cX9_leftIn 17 = .ok (.iload_n 1, 1) := by decide +kernel
theorem dX9_leftIn_18 : decode cX9_leftIn 18 = .ok (.iaload, 1) := by decide +kernel
theorem dX9_leftIn_19 : decode cX9_leftIn 19 = .ok (.isub, 1) := by decide +kernel
theorem dX9_leftIn_20 : decode cX9_leftIn 20 = .ok (.ireturn, 1) := by decide +kernel
theorem dX9_isPending_0 : decode cX9_isPending 0 = .ok (.aload_n 0, 1) := by decide +kernel
theorem dX9_isPending_1 : decode cX9_isPending 1 = .ok (.getfield 72, 3) := by decide +kernel
theorem dX9_isPending_4 : decode cX9_isPending 4 = .ok (.iload_n 1, 1) := by decide +kernel
theorem dX9_isPending_5 : decode cX9_isPending 5 = .ok (.baload, 1) := by decide +kernel
theorem dX9_isPending_6 : decode cX9_isPending 6 = .ok (.ifCond .ne 7, 3) := by decide +kernel
theorem dX9_isPending_9 : decode cX9_isPending 9 = .ok (.iconst 1, 1) := by decide +kernel
theorem dX9_isPending_10 : decode cX9_isPending 10 = .ok (.goto 4, 3) := by decide +kernel
theorem dX9_isPending_13 : decode cX9_isPending 13 = .ok (.iconst 0, 1) := by decide +kernel
theorem dX9_isPending_14 : decode cX9_isPending 14 = .ok (.ireturn, 1) := by decide +kernel
theorem dX9_stateIn_0 : decode cX9_stateIn 0 = .ok (.aload_n 0, 1) := by decide +kernel
theorem dX9_stateIn_1 : decode cX9_stateIn 1 = .ok (.iload_n 1, 1) := by decide +kernel
theorem dX9_stateIn_2 : decode cX9_stateIn 2 = .ok (.invokevirtual 233, 3) := by decide +kernel
theorem dX9_stateIn_5 : decode cX9_stateIn 5 = .ok (.ifCond .eq 7, 3) := by decide +kernel
theorem dX9_stateIn_8 : decode cX9_stateIn 8 = .ok (.iconst 0, 1) := by decide +kernel
theorem dX9_stateIn_9 : decode cX9_stateIn 9 = .ok (.goto 16, 3) := by decide +kernel
theorem dX9_stateIn_12 : decode cX9_stateIn 12 = .ok (.aload_n 0, 1) := by decide +kernel
theorem dX9_stateIn_13 : decode cX9_stateIn 13 = .ok (.iload_n 1, 1) := by decide +kernel
theorem dX9_stateIn_14 : decode cX9_stateIn 14 = .ok (.invokevirtual 236, 3) := by decide +kernel
theorem dX9_stateIn_17 : decode cX9_stateIn 17 = .ok (.ifCond .le 7, 3) := by decide +kernel
theorem dX9_stateIn_20 : decode cX9_stateIn 20 = .ok (.iconst 1, 1) := by decide +kernel
theorem dX9_stateIn_21 : decode cX9_stateIn 21 = .ok (.goto 4, 3) := by decide +kernel
theorem dX9_stateIn_24 : decode cX9_stateIn 24 = .ok (.iconst 2, 1) := by decide +kernel
theorem dX9_stateIn_25 : decode cX9_stateIn 25 = .ok (.ireturn, 1) := by decide +kernel
theorem dX9_order_0 : decode cX9_order 0 = .ok (.aload_n 0, 1) := by decide +kernel
theorem dX9_order_1 : decode cX9_order 1 = .ok (.iload_n 2, 1) := by decide +kernel
theorem dX9_order_2 : decode cX9_order 2 = .ok (.iconst 1, 1) := by decide +kernel
theorem dX9_order_3 : decode cX9_order 3 = .ok (.bipush 100, 2) := by decide +kernel
theorem dX9_order_5 : decode cX9_order 5 = .ok (.invokestatic 130, 3) := by decide +kernel
theorem dX9_order_8 : decode cX9_order 8 = .ok (.ifCond .eq 13, 3) := by decide +kernel
theorem dX9_order_11 : decode cX9_order 11 = .ok (.iload_n 3, 1) := by decide +kernel
theorem dX9_order_12 : decode cX9_order 12 = .ok (.iconst 1, 1) := by decide +kernel
theorem dX9_order_13 : decode cX9_order 13 = .ok (.bipush 100, 2) := by decide +kernel
theorem dX9_order_15 : decode cX9_order 15 = .ok (.invokestatic 130, 3) := by decide +kernel
theorem dX9_order_18 : decode cX9_order 18 = .ok (.ifCond .ne 7, 3) := by decide +kernel
theorem dX9_order_21 : decode cX9_order 21 = .ok (.iconst 1, 1) := by decide +kernel
theorem dX9_order_22 : decode cX9_order 22 = .ok (.goto 26, 3) := by decide +kernel
theorem dX9_order_25 : decode cX9_order 25 = .ok (.aload_n 0, 1) := by decide +kernel
theorem dX9_order_26 : decode cX9_order 26 = .ok (.getfield 7, 3) := by decide +kernel
theorem dX9_order_29 : decode cX9_order 29 = .ok (.iconst 0, 1) := by decide +kernel
theorem dX9_order_30 : decode cX9_order 30 = .ok (.baload, 1) := by decide +kernel
theorem dX9_order_31 : decode cX9_order 31 = .ok (.ifCond .eq 12, 3) := by decide +kernel
theorem dX9_order_34 : decode cX9_order 34 = .ok (.aload_n 0, 1) := by decide +kernel
theorem dX9_order_35 : decode cX9_order 35 = .ok (.getfield 134, 3) := by decide +kernel
theorem dX9_order_38 : decode cX9_order 38 = .ok (.bipush 40, 2) := by decide +kernel
theorem dX9_order_40 : decode cX9_order 40 = .ok (.if_icmp .ne 7, 3) := by decide +kernel
theorem dX9_order_43 : decode cX9_order 43 = .ok (.iconst 2, 1) := by decide +kernel
theorem dX9_order_44 : decode cX9_order 44 = .ok (.goto 4, 3) := by decide +kernel
theorem dX9_order_47 : decode cX9_order 47 = .ok (.iconst 0, 1) := by decide +kernel
theorem dX9_order_48 : decode cX9_order 48 = .ok (.putfield 126, 3) := by decide +kernel
theorem dX9_order_51 : decode cX9_order 51 = .ok (.aload_n 0, 1) := by decide +kernel
theorem dX9_order_52 : decode cX9_order 52 = .ok (.getfield 126, 3) := by decide +kernel
theorem dX9_order_55 : decode cX9_order 55 = .ok (.ifCond .le 5, 3) := by decide +kernel
theorem dX9_order_58 : decode cX9_order 58 = .ok (.iconst 0, 1) := by decide +kernel
theorem dX9_order_59 : decode cX9_order 59 = .ok (.ireturn, 1) := by decide +kernel
theorem dX9_order_60 : decode cX9_order 60 = .ok (.aload_n 0, 1) := by decide +kernel
theorem dX9_order_61 : decode cX9_order 61 = .ok (.getfield 69, 3) := by decide +kernel
theorem dX9_order_64 : decode cX9_order 64 = .ok (.aload_n 0, 1) := by decide +kernel
theorem dX9_order_65 : decode cX9_order 65 = .ok (.getfield 134, 3) := by decide +kernel
theorem dX9_order_68 : decode cX9_order 68 = .ok (.iload_n 1, 1) := by decide +kernel
theorem dX9_order_69 : decode cX9_order 69 = .ok (.bastore, 1) := by decide +kernel
theorem dX9_order_70 : decode cX9_order 70 = .ok (.aload_n 0, 1) := by decide +kernel
theorem dX9_order_71 : decode cX9_order 71 = .ok (.getfield 75, 3) := by decide +kernel
theorem dX9_order_74 : decode cX9_order 74 = .ok (.aload_n 0, 1) := by decide +kernel
theorem dX9_order_75 : decode cX9_order 75 = .ok (.getfield 134, 3) := by decide +kernel
theorem dX9_order_78 : decode cX9_order 78 = .ok (.iload_n 2, 1) := by decide +kernel
theorem dX9_order_79 : decode cX9_order 79 = .ok (.iastore, 1) := by decide +kernel
theorem dX9_order_80 : decode cX9_order 80 = .ok (.aload_n 0, 1) := by decide +kernel
theorem dX9_order_81 : decode cX9_order 81 = .ok (.getfield 78, 3) := by decide +kernel
theorem dX9_order_84 : decode cX9_order 84 = .ok (.aload_n 0, 1) := by decide +kernel
theorem dX9_order_85 : decode cX9_order 85 = .ok (.getfield 134, 3) := by decide +kernel
theorem dX9_order_88 : decode cX9_order 88 = .ok (.iload_n 3, 1) := by decide +kernel
theorem dX9_order_89 : decode cX9_order 89 = .ok (.iastore, 1) := by decide +kernel
theorem dX9_order_90 : decode cX9_order 90 = .ok (.aload_n 0, 1) := by decide +kernel
theorem dX9_order_91 : decode cX9_order 91 = .ok (.dup, 1) := by decide +kernel
theorem dX9_order_92 : decode cX9_order 92 = .ok (.getfield 134, 3) := by decide +kernel
theorem dX9_order_95 : decode cX9_order 95 = .ok (.iconst 1, 1) := by decide +kernel
theorem dX9_order_96 : decode cX9_order 96 = .ok (.iadd, 1) := by decide +kernel
theorem dX9_order_97 : decode cX9_order 97 = .ok (.putfield 134, 3) := by decide +kernel
theorem dX9_order_100 : decode cX9_order 100 = .ok (.aload_n 0, 1) := by decide +kernel
theorem dX9_order_101 : decode cX9_order 101 = .ok (.iconst 0, 1) := by decide +kernel
theorem dX9_order_102 : decode cX9_order 102 = .ok (.iconst 5, 1) := by decide +kernel
theorem dX9_order_103 : decode cX9_order 103 = .ok (.aload_n 0, 1) := by decide +kernel
theorem dX9_order_104 : decode cX9_order 104 = .ok (.getfield 134, 3) := by decide +kernel
theorem dX9_order_107 : decode cX9_order 107 = .ok (.iconst 1, 1) := by decide +kernel
theorem dX9_order_108 : decode cX9_order 108 = .ok (.isub, 1) := by decide +kernel
theorem dX9_order_109 : decode cX9_order 109 = .ok (.iload_n 1, 1) := by decide +kernel
theorem dX9_order_110 : decode cX9_order 110 = .ok (.ifCond .eq 7, 3) := by decide +kernel
theorem dX9_order_113 : decode cX9_order 113 = .ok (.iconst 1, 1) := by decide +kernel
theorem dX9_order_114 : decode cX9_order 114 = .ok (.goto 4, 3) := by decide +kernel
theorem dX9_order_117 : decode cX9_order 117 = .ok (.iconst 0, 1) := by decide +kernel
theorem dX9_order_118 : decode cX9_order 118 = .ok (.iload_n 2, 1) := by decide +kernel
theorem dX9_order_119 : decode cX9_order 119 = .ok (.iload_n 3, 1) := by decide +kernel
theorem dX9_order_120 : decode cX9_order 120 = .ok (.invokevirtual 153, 3) := by decide +kernel
theorem dX9_order_123 : decode cX9_order 123 = .ok (.aload_n 0, 1) := by decide +kernel
theorem dX9_order_124 : decode cX9_order 124 = .ok (.getfield 134, 3) := by decide +kernel
theorem dX9_order_127 : decode cX9_order 127 = .ok (.iconst 1, 1) := by decide +kernel
theorem dX9_order_128 : decode cX9_order 128 = .ok (.isub, 1) := by decide +kernel
theorem dX9_order_129 : decode cX9_order 129 = .ok (.ireturn, 1) := by decide +kernel
theorem dX9_canAsk_0 : decode cX9_canAsk 0 = .ok (.aload_n 0, 1) := by decide +kernel
theorem dX9_canAsk_1 : decode cX9_canAsk 1 = .ok (.getfield 7, 3) := by decide +kernel
theorem dX9_canAsk_4 : decode cX9_canAsk 4 = .ok (.iconst 0, 1) := by decide +kernel
theorem dX9_canAsk_5 : decode cX9_canAsk 5 = .ok (.baload, 1) := by decide +kernel
theorem dX9_canAsk_6 : decode cX9_canAsk 6 = .ok (.ifCond .eq 26, 3) := by decide +kernel
theorem dX9_canAsk_9 : decode cX9_canAsk 9 = .ok (.aload_n 0, 1) := by decide +kernel
theorem dX9_canAsk_10 : decode cX9_canAsk 10 = .ok (.iload_n 1, 1) := by decide +kernel
theorem dX9_canAsk_11 : decode cX9_canAsk 11 = .ok (.invokevirtual 239, 3) := by decide +kernel
theorem dX9_canAsk_14 : decode cX9_canAsk 14 = .ok (.iconst 2, 1) := by decide +kernel
theorem dX9_canAsk_15 : decode cX9_canAsk 15 = .ok (.if_icmp .eq 17, 3) := by decide +kernel
theorem dX9_canAsk_18 : decode cX9_canAsk 18 = .ok (.aload_n 0, 1) := by decide +kernel
theorem dX9_canAsk_19 : decode cX9_canAsk 19 = .ok (.getfield 90, 3) := by decide +kernel
theorem dX9_canAsk_22 : decode cX9_canAsk 22 = .ok (.iload_n 1, 1) := by decide +kernel
theorem dX9_canAsk_23 : decode cX9_canAsk 23 = .ok (.iaload, 1) := by decide +kernel
theorem dX9_canAsk_24 : decode cX9_canAsk 24 = .ok (.iconst 5, 1) := by decide +kernel
theorem dX9_canAsk_25 : decode cX9_canAsk 25 = .ok (.if_icmp .ge 7, 3) := by decide +kernel
theorem dX9_canAsk_28 : decode cX9_canAsk 28 = .ok (.iconst 1, 1) := by decide +kernel
theorem dX9_canAsk_29 : decode cX9_canAsk 29 = .ok (.goto 4, 3) := by decide +kernel
theorem dX9_canAsk_32 : decode cX9_canAsk 32 = .ok (.iconst 0, 1) := by decide +kernel
theorem dX9_canAsk_33 : decode cX9_canAsk 33 = .ok (.ireturn, 1) := by decide +kernel
theorem dX9_cancel_0 : decode cX9_cancel 0 = .ok (.aload_n 0, 1) := by decide +kernel
theorem dX9_cancel_1 : decode cX9_cancel 1 = .ok (.aload_n 0, 1) := by decide +kernel
theorem dX9_cancel_2 : decode cX9_cancel 2 = .ok (.iload_n 1, 1) := by decide +kernel
theorem dX9_cancel_3 : decode cX9_cancel 3 = .ok (.invokevirtual 242, 3) := by decide +kernel
theorem dX9_cancel_6 : decode cX9_cancel 6 = .ok (.ifCond .ne 7, 3) := by decide +kernel
theorem dX9_cancel_9 : decode cX9_cancel 9 = .ok (.iconst 1, 1) := by decide +kernel
theorem dX9_cancel_10 : decode cX9_cancel 10 = .ok (.goto 16, 3) := by decide +kernel
theorem dX9_cancel_13 : decode cX9_cancel 13 = .ok (.aload_n 0, 1) := by decide +kernel
theorem dX9_cancel_14 : decode cX9_cancel 14 = .ok (.iload_n 1, 1) := by decide +kernel
theorem dX9_cancel_15 : decode cX9_cancel 15 = .ok (.invokevirtual 245, 3) := by decide +kernel
theorem dX9_cancel_18 : decode cX9_cancel 18 = .ok (.ifCond .eq 7, 3) := by decide +kernel
theorem dX9_cancel_21 : decode cX9_cancel 21 = .ok (.iconst 0, 1) := by decide +kernel
theorem dX9_cancel_22 : decode cX9_cancel 22 = .ok (.goto 4, 3) := by decide +kernel
theorem dX9_cancel_25 : decode cX9_cancel 25 = .ok (.iconst 2, 1) := by decide +kernel
theorem dX9_cancel_26 : decode cX9_cancel 26 = .ok (.putfield 126, 3) := by decide +kernel
theorem dX9_cancel_29 : decode cX9_cancel 29 = .ok (.aload_n 0, 1) := by decide +kernel
theorem dX9_cancel_30 : decode cX9_cancel 30 = .ok (.getfield 126, 3) := by decide +kernel
theorem dX9_cancel_33 : decode cX9_cancel 33 = .ok (.ifCond .le 5, 3) := by decide +kernel
theorem dX9_cancel_36 : decode cX9_cancel 36 = .ok (.iconst 0, 1) := by decide +kernel
theorem dX9_cancel_37 : decode cX9_cancel 37 = .ok (.ireturn, 1) := by decide +kernel
theorem dX9_cancel_38 : decode cX9_cancel 38 = .ok (.aload_n 0, 1) := by decide +kernel
theorem dX9_cancel_39 : decode cX9_cancel 39 = .ok (.getfield 90, 3) := by decide +kernel
theorem dX9_cancel_42 : decode cX9_cancel 42 = .ok (.iload_n 1, 1) := by decide +kernel
theorem dX9_cancel_43 : decode cX9_cancel 43 = .ok (.dup2, 1) := by decide +kernel
theorem dX9_cancel_44 : decode cX9_cancel 44 = .ok (.iaload, 1) := by decide +kernel
theorem dX9_cancel_45 : decode cX9_cancel 45 = .ok (.iconst 1, 1) := by decide +kernel
theorem dX9_cancel_46 : decode cX9_cancel 46 = .ok (.iadd, 1) := by decide +kernel
theorem dX9_cancel_47 : decode cX9_cancel 47 = .ok (.iastore, 1) := by decide +kernel
theorem dX9_cancel_48 : decode cX9_cancel 48 = .ok (.aload_n 0, 1) := by decide +kernel
theorem dX9_cancel_49 : decode cX9_cancel 49 = .ok (.iconst 0, 1) := by decide +kernel
theorem dX9_cancel_50 : decode cX9_cancel 50 = .ok (.bipush 6, 2) := by decide +kernel
theorem dX9_cancel_52 : decode cX9_cancel 52 = .ok (.iload_n 1, 1) := by decide +kernel
theorem dX9_cancel_53 : decode cX9_cancel 53 = .ok (.iconst 0, 1) := by decide +kernel
theorem dX9_cancel_54 : decode cX9_cancel 54 = .ok (.iconst 0, 1) := by decide +kernel
theorem dX9_cancel_55 : decode cX9_cancel 55 = .ok (.iconst 0, 1) := by decide +kernel
theorem dX9_cancel_56 : decode cX9_cancel 56 = .ok (.invokevirtual 153, 3) := by decide +kernel
theorem dX9_cancel_59 : decode cX9_cancel 59 = .ok (.aload_n 0, 1) := by decide +kernel
theorem dX9_cancel_60 : decode cX9_cancel 60 = .ok (.getfield 90, 3) := by decide +kernel
theorem dX9_cancel_63 : decode cX9_cancel 63 = .ok (.iload_n 1, 1) := by decide +kernel
theorem dX9_cancel_64 : decode cX9_cancel 64 = .ok (.iaload, 1) := by decide +kernel
theorem dX9_cancel_65 : decode cX9_cancel 65 = .ok (.ireturn, 1) := by decide +kernel
theorem dX9_replace_0 : decode cX9_replace 0 = .ok (.aload_n 0, 1) := by decide +kernel
theorem dX9_replace_1 : decode cX9_replace 1 = .ok (.aload_n 0, 1) := by decide +kernel
theorem dX9_replace_2 : decode cX9_replace 2 = .ok (.iload_n 1, 1) := by decide +kernel
theorem dX9_replace_3 : decode cX9_replace 3 = .ok (.invokevirtual 242, 3) := by decide +kernel
theorem dX9_replace_6 : decode cX9_replace 6 = .ok (.ifCond .ne 7, 3) := by decide +kernel
theorem dX9_replace_9 : decode cX9_replace 9 = .ok (.iconst 1, 1) := by decide +kernel
theorem dX9_replace_10 : decode cX9_replace 10 = .ok (.goto 40, 3) := by decide +kernel
theorem dX9_replace_13 : decode cX9_replace 13 = .ok (.iload_n 2, 1) := by decide +kernel
theorem dX9_replace_14 : decode cX9_replace 14 = .ok (.iconst 1, 1) := by decide +kernel
theorem dX9_replace_15 : decode cX9_replace 15 = .ok (.bipush 100, 2) := by decide +kernel
theorem dX9_replace_17 : decode cX9_replace 17 = .ok (.invokestatic 130, 3) := by decide +kernel
theorem dX9_replace_20 : decode cX9_replace 20 = .ok (.ifCond .eq 13, 3) := by decide +kernel
theorem dX9_replace_23 : decode cX9_replace 23 = .ok (.iload_n 3, 1) := by decide +kernel
theorem dX9_replace_24 : decode cX9_replace 24 = .ok (.iconst 1, 1) := by decide +kernel
theorem dX9_replace_25 : decode cX9_replace 25 = .ok (.bipush 100, 2) := by decide +kernel
theorem dX9_replace_27 : decode cX9_replace 27 = .ok (.invokestatic 130, 3) := by decide +kernel
theorem dX9_replace_30 : decode cX9_replace 30 = .ok (.ifCond .ne 7, 3) := by decide +kernel
theorem dX9_replace_33 : decode cX9_replace 33 = .ok (.iconst 2, 1) := by decide +kernel
theorem dX9_replace_34 : decode cX9_replace 34 = .ok (.goto 16, 3) := by decide +kernel
theorem dX9_replace_37 : decode cX9_replace 37 = .ok (.aload_n 0, 1) := by decide +kernel
theorem dX9_replace_38 : decode cX9_replace 38 = .ok (.iload_n 1, 1) := by decide +kernel
theorem dX9_replace_39 : decode cX9_replace 39 = .ok (.invokevirtual 245, 3) := by decide +kernel
theorem dX9_replace_42 : decode cX9_replace 42 = .ok (.ifCond .eq 7, 3) := by decide +kernel
theorem dX9_replace_45 : decode cX9_replace 45 = .ok (.iconst 0, 1) := by decide +kernel
theorem dX9_replace_46 : decode cX9_replace 46 = .ok (.goto 4, 3) := by decide +kernel
theorem dX9_replace_49 : decode cX9_replace 49 = .ok (.iconst 3, 1) := by decide +kernel
theorem dX9_replace_50 : decode cX9_replace 50 = .ok (.putfield 126, 3) := by decide +kernel
theorem dX9_replace_53 : decode cX9_replace 53 = .ok (.aload_n 0, 1) := by decide +kernel
theorem dX9_replace_54 : decode cX9_replace 54 = .ok (.getfield 126, 3) := by decide +kernel
theorem dX9_replace_57 : decode cX9_replace 57 = .ok (.ifCond .le 5, 3) := by decide +kernel
theorem dX9_replace_60 : decode cX9_replace 60 = .ok (.iconst 0, 1) := by decide +kernel
theorem dX9_replace_61 : decode cX9_replace 61 = .ok (.ireturn, 1) := by decide +kernel
theorem dX9_replace_62 : decode cX9_replace 62 = .ok (.aload_n 0, 1) := by decide +kernel
theorem dX9_replace_63 : decode cX9_replace 63 = .ok (.getfield 90, 3) := by decide +kernel
theorem dX9_replace_66 : decode cX9_replace 66 = .ok (.iload_n 1, 1) := by decide +kernel
theorem dX9_replace_67 : decode cX9_replace 67 = .ok (.dup2, 1) := by decide +kernel
theorem dX9_replace_68 : decode cX9_replace 68 = .ok (.iaload, 1) := by decide +kernel
theorem dX9_replace_69 : decode cX9_replace 69 = .ok (.iconst 1, 1) := by decide +kernel
theorem dX9_replace_70 : decode cX9_replace 70 = .ok (.iadd, 1) := by decide +kernel
theorem dX9_replace_71 : decode cX9_replace 71 = .ok (.iastore, 1) := by decide +kernel
theorem dX9_replace_72 : decode cX9_replace 72 = .ok (.aload_n 0, 1) := by decide +kernel
theorem dX9_replace_73 : decode cX9_replace 73 = .ok (.iconst 0, 1) := by decide +kernel
theorem dX9_replace_74 : decode cX9_replace 74 = .ok (.bipush 7, 2) := by decide +kernel
theorem dX9_replace_76 : decode cX9_replace 76 = .ok (.iload_n 1, 1) := by decide +kernel
theorem dX9_replace_77 : decode cX9_replace 77 = .ok (.iload_n 2, 1) := by decide +kernel
theorem dX9_replace_78 : decode cX9_replace 78 = .ok (.iload_n 3, 1) := by decide +kernel
theorem dX9_replace_79 : decode cX9_replace 79 = .ok (.iconst 0, 1) := by decide +kernel
theorem dX9_replace_80 : decode cX9_replace 80 = .ok (.invokevirtual 153, 3) := by decide +kernel
theorem dX9_replace_83 : decode cX9_replace 83 = .ok (.aload_n 0, 1) := by decide +kernel
theorem dX9_replace_84 : decode cX9_replace 84 = .ok (.getfield 90, 3) := by decide +kernel
theorem dX9_replace_87 : decode cX9_replace 87 = .ok (.iload_n 1, 1) := by decide +kernel
theorem dX9_replace_88 : decode cX9_replace 88 = .ok (.iaload, 1) := by decide +kernel
theorem dX9_replace_89 : decode cX9_replace 89 = .ok (.ireturn, 1) := by decide +kernel
theorem dX9_asksOrder_0 : decode cX9_asksOrder 0 = .ok (.aload_n 0, 1) := by decide +kernel
theorem dX9_asksOrder_1 : decode cX9_asksOrder 1 = .ok (.aload_n 0, 1) := by decide +kernel
theorem dX9_asksOrder_2 : decode cX9_asksOrder 2 = .ok (.iload_n 1, 1) := by decide +kernel
theorem dX9_asksOrder_3 : decode cX9_asksOrder 3 = .ok (.invokevirtual 242, 3) := by decide +kernel
theorem dX9_asksOrder_6 : decode cX9_asksOrder 6 = .ok (.ifCond .eq 7, 3) := by decide +kernel
theorem dX9_asksOrder_9 : decode cX9_asksOrder 9 = .ok (.iconst 0, 1) := by decide +kernel
theorem dX9_asksOrder_10 : decode cX9_asksOrder 10 = .ok (.goto 4, 3) := by decide +kernel
theorem dX9_asksOrder_13 : decode cX9_asksOrder 13 = .ok (.iconst 1, 1) := by decide +kernel
theorem dX9_asksOrder_14 : decode cX9_asksOrder 14 = .ok (.putfield 126, 3) := by decide +kernel
theorem dX9_asksOrder_17 : decode cX9_asksOrder 17 = .ok (.aload_n 0, 1) := by decide +kernel
theorem dX9_asksOrder_18 : decode cX9_asksOrder 18 = .ok (.getfield 126, 3) := by decide +kernel
theorem dX9_asksOrder_21 : decode cX9_asksOrder 21 = .ok (.ifCond .ne 7, 3) := by decide +kernel
theorem dX9_asksOrder_24 : decode cX9_asksOrder 24 = .ok (.iconst 1, 1) := by decide +kernel
theorem dX9_asksOrder_25 : decode cX9_asksOrder 25 = .ok (.goto 4, 3) := by decide +kernel
theorem dX9_asksOrder_28 : decode cX9_asksOrder 28 = .ok (.iconst 0, 1) := by decide +kernel
theorem dX9_asksOrder_29 : decode cX9_asksOrder 29 = .ok (.ireturn, 1) := by decide +kernel
theorem dX9_stateOf_0 : decode cX9_stateOf 0 = .ok (.aload_n 0, 1) := by decide +kernel
theorem dX9_stateOf_1 : decode cX9_stateOf 1 = .ok (.iload_n 1, 1) := by decide +kernel
theorem dX9_stateOf_2 : decode cX9_stateOf 2 = .ok (.invokevirtual 248, 3) := by decide +kernel
theorem dX9_stateOf_5 : decode cX9_stateOf 5 = .ok (.ifCond .eq 11, 3) := by decide +kernel
theorem dX9_stateOf_8 : decode cX9_stateOf 8 = .ok (.aload_n 0, 1) := by decide +kernel
theorem dX9_stateOf_9 : decode cX9_stateOf 9 = .ok (.iload_n 1, 1) := by decide +kernel
theorem dX9_stateOf_10 : decode cX9_stateOf 10 = .ok (.invokevirtual 239, 3) := by decide +kernel
theorem dX9_stateOf_13 : decode cX9_stateOf 13 = .ok (.goto 4, 3) := by decide +kernel
theorem dX9_stateOf_16 : decode cX9_stateOf 16 = .ok (.iconst 0, 1) := by decide +kernel
theorem dX9_stateOf_17 : decode cX9_stateOf 17 = .ok (.ireturn, 1) := by decide +kernel
theorem dX9_isLeftOut_0 : decode cX9_isLeftOut 0 = .ok (.aload_n 0, 1) := by decide +kernel
theorem dX9_isLeftOut_1 : decode cX9_isLeftOut 1 = .ok (.iload_n 1, 1) := by decide +kernel
theorem dX9_isLeftOut_2 : decode cX9_isLeftOut 2 = .ok (.invokevirtual 248, 3) := by decide +kernel
theorem dX9_isLeftOut_5 : decode cX9_isLeftOut 5 = .ok (.ifCond .eq 24, 3) := by decide +kernel
theorem dX9_isLeftOut_8 : decode cX9_isLeftOut 8 = .ok (.aload_n 0, 1) := by decide +kernel
theorem dX9_isLeftOut_9 : decode cX9_isLeftOut 9 = .ok (.getfield 87, 3) := by decide +kernel
theorem dX9_isLeftOut_12 : decode cX9_isLeftOut 12 = .ok (.iload_n 1, 1) := by decide +kernel
theorem dX9_isLeftOut_13 : decode cX9_isLeftOut 13 = .ok (.baload, 1) := by decide +kernel
theorem dX9_isLeftOut_14 : decode cX9_isLeftOut 14 = .ok (.ifCond .eq 15, 3) := by decide +kernel
theorem dX9_isLeftOut_17 : decode cX9_isLeftOut 17 = .ok (.aload_n 0, 1) := by decide +kernel
theorem dX9_isLeftOut_18 : decode cX9_isLeftOut 18 = .ok (.iload_n 1, 1) := by decide +kernel
theorem dX9_isLeftOut_19 : decode cX9_isLeftOut 19 = .ok (.invokevirtual 233, 3) := by decide +kernel
theorem dX9_isLeftOut_22 : decode cX9_isLeftOut 22 = .ok (.ifCond .eq 7, 3) := by decide +kernel
theorem dX9_isLeftOut_25 : decode cX9_isLeftOut 25 = .ok (.iconst 1, 1) := by decide +kernel
theorem dX9_isLeftOut_26 : decode cX9_isLeftOut 26 = .ok (.goto 4, 3) := by decide +kernel
theorem dX9_isLeftOut_29 : decode cX9_isLeftOut 29 = .ok (.iconst 0, 1) := by decide +kernel
theorem dX9_isLeftOut_30 : decode cX9_isLeftOut 30 = .ok (.ireturn, 1) := by decide +kernel
theorem dX9_underWay_0 : decode cX9_underWay 0 = .ok (.aload_n 0, 1) := by decide +kernel
theorem dX9_underWay_1 : decode cX9_underWay 1 = .ok (.iload_n 1, 1) := by decide +kernel
theorem dX9_underWay_2 : decode cX9_underWay 2 = .ok (.invokevirtual 248, 3) := by decide +kernel
theorem dX9_underWay_5 : decode cX9_underWay 5 = .ok (.ifCond .eq 12, 3) := by decide +kernel
theorem dX9_underWay_8 : decode cX9_underWay 8 = .ok (.aload_n 0, 1) := by decide +kernel
theorem dX9_underWay_9 : decode cX9_underWay 9 = .ok (.getfield 90, 3) := by decide +kernel
theorem dX9_underWay_12 : decode cX9_underWay 12 = .ok (.iload_n 1, 1) := by decide +kernel
theorem dX9_underWay_13 : decode cX9_underWay 13 = .ok (.iaload, 1) := by decide +kernel
theorem dX9_underWay_14 : decode cX9_underWay 14 = .ok (.goto 4, 3) := by decide +kernel
theorem dX9_underWay_17 : decode cX9_underWay 17 = .ok (.iconst 0, 1) := by decide +kernel
theorem dX9_underWay_18 : decode cX9_underWay 18 = .ok (.ireturn, 1) := by decide +kernel
theorem dX9_knows_0 : decode cX9_knows 0 = .ok (.iload_n 2, 1) := by decide +kernel
theorem dX9_knows_1 : decode cX9_knows 1 = .ok (.istore 4, 2) := by decide +kernel
theorem dX9_knows_3 : decode cX9_knows 3 = .ok (.iload 4, 2) := by decide +kernel
theorem dX9_knows_5 : decode cX9_knows 5 = .ok (.iload_n 2, 1) := by decide +kernel
theorem dX9_knows_6 : decode cX9_knows 6 = .ok (.iload_n 3, 1) := by decide +kernel
theorem dX9_knows_7 : decode cX9_knows 7 = .ok (.iadd, 1) := by decide +kernel
theorem dX9_knows_8 : decode cX9_knows 8 = .ok (.if_icmp .ge 47, 3) := by decide +kernel
theorem dX9_knows_11 : decode cX9_knows 11 = .ok (.aload_n 0, 1) := by decide +kernel
theorem dX9_knows_12 : decode cX9_knows 12 = .ok (.getfield 120, 3) := by decide +kernel
theorem dX9_knows_15 : decode cX9_knows 15 = .ok (.iload 4, 2) := by decide +kernel
theorem dX9_knows_17 : decode cX9_knows 17 = .ok (.iconst 1, 1) := by decide +kernel
theorem dX9_knows_18 : decode cX9_knows 18 = .ok (.bastore, 1) := by decide +kernel
theorem dX9_knows_19 : decode cX9_knows 19 = .ok (.aload_n 0, 1) := by decide +kernel
theorem dX9_knows_20 : decode cX9_knows 20 = .ok (.getfield 117, 3) := by decide +kernel
theorem dX9_knows_23 : decode cX9_knows 23 = .ok (.iload 4, 2) := by decide +kernel
theorem dX9_knows_25 : decode cX9_knows 25 = .ok (.aload_n 0, 1) := by decide +kernel
theorem dX9_knows_26 : decode cX9_knows 26 = .ok (.getfield 114, 3) := by decide +kernel
theorem dX9_knows_29 : decode cX9_knows 29 = .ok (.iload 4, 2) := by decide +kernel
theorem dX9_knows_31 : decode cX9_knows 31 = .ok (.iaload, 1) := by decide +kernel
theorem dX9_knows_32 : decode cX9_knows 32 = .ok (.iastore, 1) := by decide +kernel
theorem dX9_knows_33 : decode cX9_knows 33 = .ok (.aload_n 0, 1) := by decide +kernel
theorem dX9_knows_34 : decode cX9_knows 34 = .ok (.getfield 81, 3) := by decide +kernel
theorem dX9_knows_37 : decode cX9_knows 37 = .ok (.iload_n 1, 1) := by decide +kernel
theorem dX9_knows_38 : decode cX9_knows 38 = .ok (.dup2, 1) := by decide +kernel
theorem dX9_knows_39 : decode cX9_knows 39 = .ok (.iaload, 1) := by decide +kernel
theorem dX9_knows_40 : decode cX9_knows 40 = .ok (.aload_n 0, 1) := by decide +kernel
theorem dX9_knows_41 : decode cX9_knows 41 = .ok (.getfield 111, 3) := by decide +kernel
theorem dX9_knows_44 : decode cX9_knows 44 = .ok (.iload 4, 2) := by decide +kernel
theorem dX9_knows_46 : decode cX9_knows 46 = .ok (.iaload, 1) := by decide +kernel
theorem dX9_knows_47 : decode cX9_knows 47 = .ok (.iadd, 1) := by decide +kernel
theorem dX9_knows_48 : decode cX9_knows 48 = .ok (.iastore, 1) := by decide +kernel
theorem dX9_knows_49 : decode cX9_knows 49 = .ok (.iinc 4 1, 3) := by decide +kernel
theorem dX9_knows_52 : decode cX9_knows 52 = .ok (.goto (-49), 3) := by decide +kernel
theorem dX9_knows_55 : decode cX9_knows 55 = .ok (.return_, 1) := by decide +kernel
theorem dX9_learns_0 : decode cX9_learns 0 = .ok (.aload_n 0, 1) := by decide +kernel
theorem dX9_learns_1 : decode cX9_learns 1 = .ok (.getfield 44, 3) := by decide +kernel
theorem dX9_learns_4 : decode cX9_learns 4 = .ok (.iload_n 1, 1) := by decide +kernel
theorem dX9_learns_5 : decode cX9_learns 5 = .ok (.iaload, 1) := by decide +kernel
theorem dX9_learns_6 : decode cX9_learns 6 = .ok (.istore_n 2, 1) := by decide +kernel
theorem dX9_learns_7 : decode cX9_learns 7 = .ok (.aload_n 0, 1) := by decide +kernel
theorem dX9_learns_8 : decode cX9_learns 8 = .ok (.getfield 47, 3) := by decide +kernel
theorem dX9_learns_11 : decode cX9_learns 11 = .ok (.iload_n 1, 1) := by decide +kernel
theorem dX9_learns_12 : decode cX9_learns 12 = .ok (.iaload, 1) := by decide +kernel
theorem dX9_learns_13 : decode cX9_learns 13 = .ok (.istore_n 3, 1) := by decide +kernel
theorem dX9_learns_14 : decode cX9_learns 14 = .ok (.iload_n 2, 1) := by decide +kernel
theorem dX9_learns_15 : decode cX9_learns 15 = .ok (.ifCond .ne 13, 3) := by decide +kernel
theorem dX9_learns_18 : decode cX9_learns 18 = .ok (.aload_n 0, 1) := by decide +kernel
theorem dX9_learns_19 : decode cX9_learns 19 = .ok (.getfield 72, 3) := by decide +kernel
theorem dX9_learns_22 : decode cX9_learns 22 = .ok (.iload_n 3, 1) := by decide +kernel
theorem dX9_learns_23 : decode cX9_learns 23 = .ok (.iconst 1, 1) := by decide +kernel
theorem dX9_learns_24 : decode cX9_learns 24 = .ok (.bastore, 1) := by decide +kernel
theorem dX9_learns_25 : decode cX9_learns 25 = .ok (.goto 194, 3) := by decide +kernel
theorem dX9_learns_28 : decode cX9_learns 28 = .ok (.iload_n 2, 1) := by decide +kernel
theorem dX9_learns_29 : decode cX9_learns 29 = .ok (.iconst 1, 1) := by decide +kernel
theorem dX9_learns_30 : decode cX9_learns 30 = .ok (.if_icmp .ne 23, 3) := by decide +kernel
theorem dX9_learns_33 : decode cX9_learns 33 = .ok (.aload_n 0, 1) := by decide +kernel
theorem dX9_learns_34 : decode cX9_learns 34 = .ok (.iload_n 3, 1) := by decide +kernel
theorem dX9_learns_35 : decode cX9_learns 35 = .ok (.aload_n 0, 1) := by decide +kernel
theorem dX9_learns_36 : decode cX9_learns 36 = .ok (.getfield 50, 3) := by decide +kernel
theorem dX9_learns_39 : decode cX9_learns 39 = .ok (.iload_n 1, 1) := by decide +kernel
theorem dX9_learns_40 : decode cX9_learns 40 = .ok (.iaload, 1) := by decide +kernel
theorem dX9_learns_41 : decode cX9_learns 41 = .ok (.aload_n 0, 1) := by decide +kernel
theorem dX9_learns_42 : decode cX9_learns 42 = .ok (.getfield 53, 3) := by decide +kernel
theorem dX9_learns_45 : decode cX9_learns 45 = .ok (.iload_n 1, 1) := by decide +kernel
theorem dX9_learns_46 : decode cX9_learns 46 = .ok (.iaload, 1) := by decide +kernel
theorem dX9_learns_47 : decode cX9_learns 47 = .ok (.invokevirtual 251, 3) := by decide +kernel
theorem dX9_learns_50 : decode cX9_learns 50 = .ok (.goto 169, 3) := by decide +kernel
theorem dX9_learns_53 : decode cX9_learns 53 = .ok (.iload_n 2, 1) := by decide +kernel
theorem dX9_learns_54 : decode cX9_learns 54 = .ok (.iconst 2, 1) := by decide +kernel
theorem dX9_learns_55 : decode cX9_learns 55 = .ok (.if_icmp .ne 21, 3) := by decide +kernel
theorem dX9_learns_58 : decode cX9_learns 58 = .ok (.aload_n 0, 1) := by decide +kernel
theorem dX9_learns_59 : decode cX9_learns 59 = .ok (.getfield 84, 3) := by decide +kernel
theorem dX9_learns_62 : decode cX9_learns 62 = .ok (.iload_n 3, 1) := by decide +kernel
theorem dX9_learns_63 : decode cX9_learns 63 = .ok (.dup2, 1) := by decide +kernel
theorem dX9_learns_64 : decode cX9_learns 64 = .ok (.iaload, 1) := by decide +kernel
theorem dX9_learns_65 : decode cX9_learns 65 = .ok (.aload_n 0, 1) := by decide +kernel
theorem dX9_learns_66 : decode cX9_learns 66 = .ok (.getfield 50, 3) := by decide +kernel
theorem dX9_learns_69 : decode cX9_learns 69 = .ok (.iload_n 1, 1) := by decide +kernel
theorem dX9_learns_70 : decode cX9_learns 70 = .ok (.iaload, 1) := by decide +kernel
theorem dX9_learns_71 : decode cX9_learns 71 = .ok (.iadd, 1) := by decide +kernel
theorem dX9_learns_72 : decode cX9_learns 72 = .ok (.iastore, 1) := by decide +kernel
theorem dX9_learns_73 : decode cX9_learns 73 = .ok (.goto 146, 3) := by decide +kernel
theorem dX9_learns_76 : decode cX9_learns 76 = .ok (.iload_n 2, 1) := by decide +kernel
theorem dX9_learns_77 : decode cX9_learns 77 = .ok (.iconst 3, 1) := by decide +kernel
theorem dX9_learns_78 : decode cX9_learns 78 = .ok (.if_icmp .ne 30, 3) := by decide +kernel
theorem dX9_learns_81 : decode cX9_learns 81 = .ok (.aload_n 0, 1) := by decide +kernel
theorem dX9_learns_82 : decode cX9_learns 82 = .ok (.getfield 75, 3) := by decide +kernel
theorem dX9_learns_85 : decode cX9_learns 85 = .ok (.iload_n 3, 1) := by decide +kernel
theorem dX9_learns_86 : decode cX9_learns 86 = .ok (.aload_n 0, 1) := by decide +kernel
theorem dX9_learns_87 : decode cX9_learns 87 = .ok (.getfield 50, 3) := by decide +kernel
theorem dX9_learns_90 : decode cX9_learns 90 = .ok (.iload_n 1, 1) := by decide +kernel
theorem dX9_learns_91 : decode cX9_learns 91 = .ok (.iaload, 1) := by decide +kernel
theorem dX9_learns_92 : decode cX9_learns 92 = .ok (.iastore, 1) := by decide +kernel
theorem dX9_learns_93 : decode cX9_learns 93 = .ok (.aload_n 0, 1) := by decide +kernel
theorem dX9_learns_94 : decode cX9_learns 94 = .ok (.getfield 78, 3) := by decide +kernel
theorem dX9_learns_97 : decode cX9_learns 97 = .ok (.iload_n 3, 1) := by decide +kernel
theorem dX9_learns_98 : decode cX9_learns 98 = .ok (.aload_n 0, 1) := by decide +kernel
theorem dX9_learns_99 : decode cX9_learns 99 = .ok (.getfield 53, 3) := by decide +kernel
theorem dX9_learns_102 : decode cX9_learns 102 = .ok (.iload_n 1, 1) := by decide +kernel
theorem dX9_learns_103 : decode cX9_learns 103 = .ok (.iaload, 1) := by decide +kernel
theorem dX9_learns_104 : decode cX9_learns 104 = .ok (.iastore, 1) := by decide +kernel
theorem dX9_learns_105 : decode cX9_learns 105 = .ok (.goto 114, 3) := by decide +kernel
theorem dX9_learns_108 : decode cX9_learns 108 = .ok (.iload_n 2, 1) := by decide +kernel
theorem dX9_learns_109 : decode cX9_learns 109 = .ok (.iconst 5, 1) := by decide +kernel
theorem dX9_learns_110 : decode cX9_learns 110 = .ok (.if_icmp .ne 72, 3) := by decide +kernel
theorem dX9_learns_113 : decode cX9_learns 113 = .ok (.aload_n 0, 1) := by decide +kernel
theorem dX9_learns_114 : decode cX9_learns 114 = .ok (.getfield 120, 3) := by decide +kernel
theorem dX9_learns_117 : decode cX9_learns 117 = .ok (.aload_n 0, 1) := by decide +kernel
theorem dX9_learns_118 : decode cX9_learns 118 = .ok (.getfield 50, 3) := by decide +kernel
theorem dX9_learns_121 : decode cX9_learns 121 = .ok (.iload_n 1, 1) := by decide +kernel
theorem dX9_learns_122 : decode cX9_learns 122 = .ok (.iaload, 1) := by decide +kernel
theorem dX9_learns_123 : decode cX9_learns 123 = .ok (.baload, 1) := by decide +kernel
theorem dX9_learns_124 : decode cX9_learns 124 = .ok (.ifCond .eq 58, 3) := by decide +kernel
theorem dX9_learns_127 : decode cX9_learns 127 = .ok (.aload_n 0, 1) := by decide +kernel
theorem dX9_learns_128 : decode cX9_learns 128 = .ok (.getfield 123, 3) := by decide +kernel
theorem dX9_learns_131 : decode cX9_learns 131 = .ok (.aload_n 0, 1) := by decide +kernel
theorem dX9_learns_132 : decode cX9_learns 132 = .ok (.getfield 50, 3) := by decide +kernel
theorem dX9_learns_135 : decode cX9_learns 135 = .ok (.iload_n 1, 1) := by decide +kernel
theorem dX9_learns_136 : decode cX9_learns 136 = .ok (.iaload, 1) := by decide +kernel
theorem dX9_learns_137 : decode cX9_learns 137 = .ok (.iconst 1, 1) := by decide +kernel
theorem dX9_learns_138 : decode cX9_learns 138 = .ok (.bastore, 1) := by decide +kernel
theorem dX9_learns_139 : decode cX9_learns 139 = .ok (.aload_n 0, 1) := by decide +kernel
theorem dX9_learns_140 : decode cX9_learns 140 = .ok (.getfield 81, 3) := by decide +kernel
theorem dX9_learns_143 : decode cX9_learns 143 = .ok (.iload_n 3, 1) := by decide +kernel
theorem dX9_learns_144 : decode cX9_learns 144 = .ok (.dup2, 1) := by decide +kernel
theorem dX9_learns_145 : decode cX9_learns 145 = .ok (.iaload, 1) := by decide +kernel
theorem dX9_learns_146 : decode cX9_learns 146 = .ok (.aload_n 0, 1) := by decide +kernel
theorem dX9_learns_147 : decode cX9_learns 147 = .ok (.getfield 111, 3) := by decide +kernel
theorem dX9_learns_150 : decode cX9_learns 150 = .ok (.aload_n 0, 1) := by decide +kernel
theorem dX9_learns_151 : decode cX9_learns 151 = .ok (.getfield 50, 3) := by decide +kernel
theorem dX9_learns_154 : decode cX9_learns 154 = .ok (.iload_n 1, 1) := by decide +kernel
theorem dX9_learns_155 : decode cX9_learns 155 = .ok (.iaload, 1) := by decide +kernel
theorem dX9_learns_156 : decode cX9_learns 156 = .ok (.iaload, 1) := by decide +kernel
theorem dX9_learns_157 : decode cX9_learns 157 = .ok (.isub, 1) := by decide +kernel
theorem dX9_learns_158 : decode cX9_learns 158 = .ok (.iastore, 1) := by decide +kernel
theorem dX9_learns_159 : decode cX9_learns 159 = .ok (.aload_n 0, 1) := by decide +kernel
theorem dX9_learns_160 : decode cX9_learns 160 = .ok (.getfield 84, 3) := by decide +kernel
theorem dX9_learns_163 : decode cX9_learns 163 = .ok (.iload_n 3, 1) := by decide +kernel
theorem dX9_learns_164 : decode cX9_learns 164 = .ok (.dup2, 1) := by decide +kernel
theorem dX9_learns_165 : decode cX9_learns 165 = .ok (.iaload, 1) := by decide +kernel
theorem dX9_learns_166 : decode cX9_learns 166 = .ok (.aload_n 0, 1) := by decide +kernel
theorem dX9_learns_167 : decode cX9_learns 167 = .ok (.getfield 111, 3) := by decide +kernel
theorem dX9_learns_170 : decode cX9_learns 170 = .ok (.aload_n 0, 1) := by decide +kernel
theorem dX9_learns_171 : decode cX9_learns 171 = .ok (.getfield 50, 3) := by decide +kernel
theorem dX9_learns_174 : decode cX9_learns 174 = .ok (.iload_n 1, 1) := by decide +kernel
theorem dX9_learns_175 : decode cX9_learns 175 = .ok (.iaload, 1) := by decide +kernel
theorem dX9_learns_176 : decode cX9_learns 176 = .ok (.iaload, 1) := by decide +kernel
theorem dX9_learns_177 : decode cX9_learns 177 = .ok (.iadd, 1) := by decide +kernel
theorem dX9_learns_178 : decode cX9_learns 178 = .ok (.iastore, 1) := by decide +kernel
theorem dX9_learns_179 : decode cX9_learns 179 = .ok (.goto 40, 3) := by decide +kernel
theorem dX9_learns_182 : decode cX9_learns 182 = .ok (.iload_n 2, 1) := by decide +kernel
theorem dX9_learns_183 : decode cX9_learns 183 = .ok (.bipush 6, 2) := by decide +kernel
theorem dX9_learns_185 : decode cX9_learns 185 = .ok (.if_icmp .ne 34, 3) := by decide +kernel
theorem dX9_learns_188 : decode cX9_learns 188 = .ok (.aload_n 0, 1) := by decide +kernel
theorem dX9_learns_189 : decode cX9_learns 189 = .ok (.getfield 120, 3) := by decide +kernel
theorem dX9_learns_192 : decode cX9_learns 192 = .ok (.aload_n 0, 1) := by decide +kernel
theorem dX9_learns_193 : decode cX9_learns 193 = .ok (.getfield 50, 3) := by decide +kernel
theorem dX9_learns_196 : decode cX9_learns 196 = .ok (.iload_n 1, 1) := by decide +kernel
theorem dX9_learns_197 : decode cX9_learns 197 = .ok (.iaload, 1) := by decide +kernel
theorem dX9_learns_198 : decode cX9_learns 198 = .ok (.baload, 1) := by decide +kernel
theorem dX9_learns_199 : decode cX9_learns 199 = .ok (.ifCond .eq 20, 3) := by decide +kernel
theorem dX9_learns_202 : decode cX9_learns 202 = .ok (.aload_n 0, 1) := by decide +kernel
theorem dX9_learns_203 : decode cX9_learns 203 = .ok (.getfield 117, 3) := by decide +kernel
theorem dX9_learns_206 : decode cX9_learns 206 = .ok (.aload_n 0, 1) := by decide +kernel
theorem dX9_learns_207 : decode cX9_learns 207 = .ok (.getfield 50, 3) := by decide +kernel
theorem dX9_learns_210 : decode cX9_learns 210 = .ok (.iload_n 1, 1) := by decide +kernel
theorem dX9_learns_211 : decode cX9_learns 211 = .ok (.iaload, 1) := by decide +kernel
theorem dX9_learns_212 : decode cX9_learns 212 = .ok (.aload_n 0, 1) := by decide +kernel
theorem dX9_learns_213 : decode cX9_learns 213 = .ok (.getfield 53, 3) := by decide +kernel
theorem dX9_learns_216 : decode cX9_learns 216 = .ok (.iload_n 1, 1) := by decide +kernel
theorem dX9_learns_217 : decode cX9_learns 217 = .ok (.iaload, 1) := by decide +kernel
theorem dX9_learns_218 : decode cX9_learns 218 = .ok (.iastore, 1) := by decide +kernel
theorem dX9_learns_219 : decode cX9_learns 219 = .ok (.iload_n 2, 1) := by decide +kernel
theorem dX9_learns_220 : decode cX9_learns 220 = .ok (.iconst 2, 1) := by decide +kernel
theorem dX9_learns_221 : decode cX9_learns 221 = .ok (.if_icmp .eq 13, 3) := by decide +kernel
theorem dX9_learns_224 : decode cX9_learns 224 = .ok (.iload_n 2, 1) := by decide +kernel
theorem dX9_learns_225 : decode cX9_learns 225 = .ok (.iconst 3, 1) := by decide +kernel
theorem dX9_learns_226 : decode cX9_learns 226 = .ok (.if_icmp .eq 8, 3) := by decide +kernel
theorem dX9_learns_229 : decode cX9_learns 229 = .ok (.iload_n 2, 1) := by decide +kernel
theorem dX9_learns_230 : decode cX9_learns 230 = .ok (.iconst 4, 1) := by decide +kernel
theorem dX9_learns_231 : decode cX9_learns 231 = .ok (.if_icmp .ne 7, 3) := by decide +kernel
theorem dX9_learns_234 : decode cX9_learns 234 = .ok (.iconst 1, 1) := by decide +kernel
theorem dX9_learns_235 : decode cX9_learns 235 = .ok (.goto 4, 3) := by decide +kernel
theorem dX9_learns_238 : decode cX9_learns 238 = .ok (.iconst 0, 1) := by decide +kernel
theorem dX9_learns_239 : decode cX9_learns 239 = .ok (.istore 4, 2) := by decide +kernel
theorem dX9_learns_241 : decode cX9_learns 241 = .ok (.aload_n 0, 1) := by decide +kernel
theorem dX9_learns_242 : decode cX9_learns 242 = .ok (.getfield 90, 3) := by decide +kernel
theorem dX9_learns_245 : decode cX9_learns 245 = .ok (.iload_n 3, 1) := by decide +kernel
theorem dX9_learns_246 : decode cX9_learns 246 = .ok (.dup2, 1) := by decide +kernel
theorem dX9_learns_247 : decode cX9_learns 247 = .ok (.iaload, 1) := by decide +kernel
theorem dX9_learns_248 : decode cX9_learns 248 = .ok (.iload 4, 2) := by decide +kernel
theorem dX9_learns_250 : decode cX9_learns 250 = .ok (.ifCond .eq 16, 3) := by decide +kernel
theorem dX9_learns_253 : decode cX9_learns 253 = .ok (.aload_n 0, 1) := by decide +kernel
theorem dX9_learns_254 : decode cX9_learns 254 = .ok (.getfield 90, 3) := by decide +kernel
theorem dX9_learns_257 : decode cX9_learns 257 = .ok (.iload_n 3, 1) := by decide +kernel
theorem dX9_learns_258 : decode cX9_learns 258 = .ok (.iaload, 1) := by decide +kernel
theorem dX9_learns_259 : decode cX9_learns 259 = .ok (.ifCond .le 7, 3) := by decide +kernel
theorem dX9_learns_262 : decode cX9_learns 262 = .ok (.iconst 1, 1) := by decide +kernel
theorem dX9_learns_263 : decode cX9_learns 263 = .ok (.goto 4, 3) := by decide +kernel
theorem dX9_learns_266 : decode cX9_learns 266 = .ok (.iconst 0, 1) := by decide +kernel
theorem dX9_learns_267 : decode cX9_learns 267 = .ok (.isub, 1) := by decide +kernel
theorem dX9_learns_268 : decode cX9_learns 268 = .ok (.iastore, 1) := by decide +kernel
theorem dX9_learns_269 : decode cX9_learns 269 = .ok (.return_, 1) := by decide +kernel
theorem dX9_worksOff_0 : decode cX9_worksOff 0 = .ok (.aload_n 0, 1) := by decide +kernel
theorem dX9_worksOff_1 : decode cX9_worksOff 1 = .ok (.getfield 44, 3) := by decide +kernel
theorem dX9_worksOff_4 : decode cX9_worksOff 4 = .ok (.iload_n 1, 1) := by decide +kernel
theorem dX9_worksOff_5 : decode cX9_worksOff 5 = .ok (.iaload, 1) := by decide +kernel
theorem dX9_worksOff_6 : decode cX9_worksOff 6 = .ok (.istore_n 2, 1) := by decide +kernel
theorem dX9_worksOff_7 : decode cX9_worksOff 7 = .ok (.bipush 40, 2) := by decide +kernel
theorem dX9_worksOff_9 : decode cX9_worksOff 9 = .ok (.iload_n 2, 1) := by decide +kernel
theorem dX9_worksOff_10 : decode cX9_worksOff 10 = .ok (.iadd, 1) := by decide +kernel
theorem dX9_worksOff_11 : decode cX9_worksOff 11 = .ok (.istore_n 3, 1) := by decide +kernel
theorem dX9_worksOff_12 : decode cX9_worksOff 12 = .ok (.aload_n 0, 1) := by decide +kernel
theorem dX9_worksOff_13 : decode cX9_worksOff 13 = .ok (.getfield 35, 3) := by decide +kernel
theorem dX9_worksOff_16 : decode cX9_worksOff 16 = .ok (.iload_n 1, 1) := by decide +kernel
theorem dX9_worksOff_17 : decode cX9_worksOff 17 = .ok (.iaload, 1) := by decide +kernel
theorem dX9_worksOff_18 : decode cX9_worksOff 18 = .ok (.iconst 5, 1) := by decide +kernel
theorem dX9_worksOff_19 : decode cX9_worksOff 19 = .ok (.if_icmp .ne 64, 3) := by decide +kernel
theorem dX9_worksOff_22 : decode cX9_worksOff 22 = .ok (.aload_n 0, 1) := by decide +kernel
theorem dX9_worksOff_23 : decode cX9_worksOff 23 = .ok (.getfield 72, 3) := by decide +kernel
theorem dX9_worksOff_26 : decode cX9_worksOff 26 = .ok (.iload_n 3, 1) := by decide +kernel
theorem dX9_worksOff_27 : decode cX9_worksOff 27 = .ok (.baload, 1) := by decide +kernel
theorem dX9_worksOff_28 : decode cX9_worksOff 28 = .ok (.ifCond .ne 209, 3) := by decide +kernel
theorem dX9_worksOff_31 : decode cX9_worksOff 31 = .ok (.aload_n 0, 1) := by decide +kernel
theorem dX9_worksOff_32 : decode cX9_worksOff 32 = .ok (.getfield 72, 3) := by decide +kernel
theorem dX9_worksOff_35 : decode cX9_worksOff 35 = .ok (.iload_n 3, 1) := by decide +kernel
theorem dX9_worksOff_36 : decode cX9_worksOff 36 = .ok (.iconst 1, 1) := by decide +kernel
theorem dX9_worksOff_37 : decode cX9_worksOff 37 = .ok (.bastore, 1) := by decide +kernel
theorem dX9_worksOff_38 : decode cX9_worksOff 38 = .ok (.aload_n 0, 1) := by decide +kernel
theorem dX9_worksOff_39 : decode cX9_worksOff 39 = .ok (.getfield 75, 3) := by decide +kernel
theorem dX9_worksOff_42 : decode cX9_worksOff 42 = .ok (.iload_n 3, 1) := by decide +kernel
theorem dX9_worksOff_43 : decode cX9_worksOff 43 = .ok (.aload_n 0, 1) := by decide +kernel
theorem dX9_worksOff_44 : decode cX9_worksOff 44 = .ok (.getfield 50, 3) := by decide +kernel
theorem dX9_worksOff_47 : decode cX9_worksOff 47 = .ok (.iload_n 1, 1) := by decide +kernel
theorem dX9_worksOff_48 : decode cX9_worksOff 48 = .ok (.iaload, 1) := by decide +kernel
theorem dX9_worksOff_49 : decode cX9_worksOff 49 = .ok (.iastore, 1) := by decide +kernel
theorem dX9_worksOff_50 : decode cX9_worksOff 50 = .ok (.aload_n 0, 1) := by decide +kernel
theorem dX9_worksOff_51 : decode cX9_worksOff 51 = .ok (.getfield 78, 3) := by decide +kernel
theorem dX9_worksOff_54 : decode cX9_worksOff 54 = .ok (.iload_n 3, 1) := by decide +kernel
theorem dX9_worksOff_55 : decode cX9_worksOff 55 = .ok (.aload_n 0, 1) := by decide +kernel
theorem dX9_worksOff_56 : decode cX9_worksOff 56 = .ok (.getfield 53, 3) := by decide +kernel
theorem dX9_worksOff_59 : decode cX9_worksOff 59 = .ok (.iload_n 1, 1) := by decide +kernel
theorem dX9_worksOff_60 : decode cX9_worksOff 60 = .ok (.iaload, 1) := by decide +kernel
theorem dX9_worksOff_61 : decode cX9_worksOff 61 = .ok (.iastore, 1) := by decide +kernel
theorem dX9_worksOff_62 : decode cX9_worksOff 62 = .ok (.aload_n 0, 1) := by decide +kernel
theorem dX9_worksOff_63 : decode cX9_worksOff 63 = .ok (.iload_n 2, 1) := by decide +kernel
theorem dX9_worksOff_64 : decode cX9_worksOff 64 = .ok (.invokevirtual 254, 3) := by decide +kernel
theorem dX9_worksOff_67 : decode cX9_worksOff 67 = .ok (.aload_n 0, 1) := by decide +kernel
theorem dX9_worksOff_68 : decode cX9_worksOff 68 = .ok (.iconst 0, 1) := by decide +kernel
theorem dX9_worksOff_69 : decode cX9_worksOff 69 = .ok (.iload_n 2, 1) := by decide +kernel
theorem dX9_worksOff_70 : decode cX9_worksOff 70 = .ok (.iconst 0, 1) := by decide +kernel
theorem dX9_worksOff_71 : decode cX9_worksOff 71 = .ok (.iconst 0, 1) := by decide +kernel
theorem dX9_worksOff_72 : decode cX9_worksOff 72 = .ok (.invokevirtual 257, 3) := by decide +kernel
theorem dX9_worksOff_75 : decode cX9_worksOff 75 = .ok (.aload_n 0, 1) := by decide +kernel
theorem dX9_worksOff_76 : decode cX9_worksOff 76 = .ok (.iload_n 2, 1) := by decide +kernel
theorem dX9_worksOff_77 : decode cX9_worksOff 77 = .ok (.invokevirtual 261, 3) := by decide +kernel
theorem dX9_worksOff_80 : decode cX9_worksOff 80 = .ok (.goto 157, 3) := by decide +kernel
theorem dX9_worksOff_83 : decode cX9_worksOff 83 = .ok (.aload_n 0, 1) := by decide +kernel
theorem dX9_worksOff_84 : decode cX9_worksOff 84 = .ok (.getfield 72, 3) := by decide +kernel
theorem dX9_worksOff_87 : decode cX9_worksOff 87 = .ok (.iload_n 3, 1) := by decide +kernel
theorem dX9_worksOff_88 : decode cX9_worksOff 88 = .ok (.baload, 1) := by decide +kernel
theorem dX9_worksOff_89 : decode cX9_worksOff 89 = .ok (.ifCond .eq 44, 3) := by decide +kernel
theorem dX9_worksOff_92 : decode cX9_worksOff 92 = .ok (.aload_n 0, 1) := by decide +kernel
theorem dX9_worksOff_93 : decode cX9_worksOff 93 = .ok (.iload_n 3, 1) := by decide +kernel
theorem dX9_worksOff_94 : decode cX9_worksOff 94 = .ok (.invokevirtual 236, 3) := by decide +kernel
theorem dX9_worksOff_97 : decode cX9_worksOff 97 = .ok (.ifCond .eq 36, 3) := by decide +kernel
theorem dX9_worksOff_100 : decode cX9_worksOff 100 = .ok (.aload_n 0, 1) := by decide +kernel
theorem dX9_worksOff_101 : decode cX9_worksOff 101 = .ok (.getfield 35, 3) := by decide +kernel
theorem dX9_worksOff_104 : decode cX9_worksOff 104 = .ok (.iload_n 1, 1) := by decide +kernel
theorem dX9_worksOff_105 : decode cX9_worksOff 105 = .ok (.iaload, 1) := by decide +kernel
theorem dX9_worksOff_106 : decode cX9_worksOff 106 = .ok (.bipush 7, 2) := by decide +kernel
theorem dX9_worksOff_108 : decode cX9_worksOff 108 = .ok (.if_icmp .ne 36, 3) := by decide +kernel
theorem dX9_worksOff_111 : decode cX9_worksOff 111 = .ok (.aload_n 0, 1) := by decide +kernel
theorem dX9_worksOff_112 : decode cX9_worksOff 112 = .ok (.getfield 50, 3) := by decide +kernel
theorem dX9_worksOff_115 : decode cX9_worksOff 115 = .ok (.iload_n 1, 1) := by decide +kernel
theorem dX9_worksOff_116 : decode cX9_worksOff 116 = .ok (.iaload, 1) := by decide +kernel
theorem dX9_worksOff_117 : decode cX9_worksOff 117 = .ok (.aload_n 0, 1) := by decide +kernel
theorem dX9_worksOff_118 : decode cX9_worksOff 118 = .ok (.getfield 81, 3) := by decide +kernel
theorem dX9_worksOff_121 : decode cX9_worksOff 121 = .ok (.iload_n 3, 1) := by decide +kernel
theorem dX9_worksOff_122 : decode cX9_worksOff 122 = .ok (.iaload, 1) := by decide +kernel
theorem dX9_worksOff_123 : decode cX9_worksOff 123 = .ok (.aload_n 0, 1) := by decide +kernel
theorem dX9_worksOff_124 : decode cX9_worksOff 124 = .ok (.getfield 84, 3) := by decide +kernel
theorem dX9_worksOff_127 : decode cX9_worksOff 127 = .ok (.iload_n 3, 1) := by decide +kernel
theorem dX9_worksOff_128 : decode cX9_worksOff 128 = .ok (.iaload, 1) := by decide +kernel
theorem dX9_worksOff_129 : decode cX9_worksOff 129 = .ok (.iadd, 1) := by decide +kernel
theorem dX9_worksOff_130 : decode cX9_worksOff 130 = .ok (.if_icmp .gt 14, 3) := by decide +kernel
theorem dX9_worksOff_133 : decode cX9_worksOff 133 = .ok (.aload_n 0, 1) := by decide +kernel
theorem dX9_worksOff_134 : decode cX9_worksOff 134 = .ok (.iconst 4, 1) := by decide +kernel
theorem dX9_worksOff_135 : decode cX9_worksOff 135 = .ok (.iload_n 2, 1) := by decide +kernel
theorem dX9_worksOff_136 : decode cX9_worksOff 136 = .ok (.iconst 0, 1) := by decide +kernel
theorem dX9_worksOff_137 : decode cX9_worksOff 137 = .ok (.iconst 0, 1) := by decide +kernel
theorem dX9_worksOff_138 : decode cX9_worksOff 138 = .ok (.invokevirtual 257, 3) := by decide +kernel
theorem dX9_worksOff_141 : decode cX9_worksOff 141 = .ok (.goto 96, 3) := by decide +kernel
theorem dX9_worksOff_144 : decode cX9_worksOff 144 = .ok (.aload_n 0, 1) := by decide +kernel
theorem dX9_worksOff_145 : decode cX9_worksOff 145 = .ok (.getfield 35, 3) := by decide +kernel
theorem dX9_worksOff_148 : decode cX9_worksOff 148 = .ok (.iload_n 1, 1) := by decide +kernel
theorem dX9_worksOff_149 : decode cX9_worksOff 149 = .ok (.iaload, 1) := by decide +kernel
theorem dX9_worksOff_150 : decode cX9_worksOff 150 = .ok (.bipush 6, 2) := by decide +kernel
theorem dX9_worksOff_152 : decode cX9_worksOff 152 = .ok (.if_icmp .ne 33, 3) := by decide +kernel
theorem dX9_worksOff_155 : decode cX9_worksOff 155 = .ok (.aload_n 0, 1) := by decide +kernel
theorem dX9_worksOff_156 : decode cX9_worksOff 156 = .ok (.iload_n 3, 1) := by decide +kernel
theorem dX9_worksOff_157 : decode cX9_worksOff 157 = .ok (.invokevirtual 236, 3) := by decide +kernel
theorem dX9_worksOff_160 : decode cX9_worksOff 160 = .ok (.istore 4, 2) := by decide +kernel
theorem dX9_worksOff_162 : decode cX9_worksOff 162 = .ok (.aload_n 0, 1) := by decide +kernel
theorem dX9_worksOff_163 : decode cX9_worksOff 163 = .ok (.getfield 84, 3) := by decide +kernel
theorem dX9_worksOff_166 : decode cX9_worksOff 166 = .ok (.iload_n 3, 1) := by decide +kernel
theorem dX9_worksOff_167 : decode cX9_worksOff 167 = .ok (.dup2, 1) := by decide +kernel
theorem dX9_worksOff_168 : decode cX9_worksOff 168 = .ok (.iaload, 1) := by decide +kernel
theorem dX9_worksOff_169 : decode cX9_worksOff 169 = .ok (.iload 4, 2) := by decide +kernel
theorem dX9_worksOff_171 : decode cX9_worksOff 171 = .ok (.iadd, 1) := by decide +kernel
theorem dX9_worksOff_172 : decode cX9_worksOff 172 = .ok (.iastore, 1) := by decide +kernel
theorem dX9_worksOff_173 : decode cX9_worksOff 173 = .ok (.aload_n 0, 1) := by decide +kernel
theorem dX9_worksOff_174 : decode cX9_worksOff 174 = .ok (.iconst 2, 1) := by decide +kernel
theorem dX9_worksOff_175 : decode cX9_worksOff 175 = .ok (.iload_n 2, 1) := by decide +kernel
theorem dX9_worksOff_176 : decode cX9_worksOff 176 = .ok (.iload 4, 2) := by decide +kernel
theorem dX9_worksOff_178 : decode cX9_worksOff 178 = .ok (.iconst 0, 1) := by decide +kernel
theorem dX9_worksOff_179 : decode cX9_worksOff 179 = .ok (.invokevirtual 257, 3) := by decide +kernel
theorem dX9_worksOff_182 : decode cX9_worksOff 182 = .ok (.goto 55, 3) := by decide +kernel
theorem dX9_worksOff_185 : decode cX9_worksOff 185 = .ok (.aload_n 0, 1) := by decide +kernel
theorem dX9_worksOff_186 : decode cX9_worksOff 186 = .ok (.getfield 75, 3) := by decide +kernel
theorem dX9_worksOff_189 : decode cX9_worksOff 189 = .ok (.iload_n 3, 1) := by decide +kernel
theorem dX9_worksOff_190 : decode cX9_worksOff 190 = .ok (.aload_n 0, 1) := by decide +kernel
theorem dX9_worksOff_191 : decode cX9_worksOff 191 = .ok (.getfield 47, 3) := by decide +kernel
theorem dX9_worksOff_194 : decode cX9_worksOff 194 = .ok (.iload_n 1, 1) := by decide +kernel
theorem dX9_worksOff_195 : decode cX9_worksOff 195 = .ok (.iaload, 1) := by decide +kernel
theorem dX9_worksOff_196 : decode cX9_worksOff 196 = .ok (.iastore, 1) := by decide +kernel
theorem dX9_worksOff_197 : decode cX9_worksOff 197 = .ok (.aload_n 0, 1) := by decide +kernel
theorem dX9_worksOff_198 : decode cX9_worksOff 198 = .ok (.getfield 78, 3) := by decide +kernel
theorem dX9_worksOff_201 : decode cX9_worksOff 201 = .ok (.iload_n 3, 1) := by decide +kernel
theorem dX9_worksOff_202 : decode cX9_worksOff 202 = .ok (.aload_n 0, 1) := by decide +kernel
theorem dX9_worksOff_203 : decode cX9_worksOff 203 = .ok (.getfield 50, 3) := by decide +kernel
theorem dX9_worksOff_206 : decode cX9_worksOff 206 = .ok (.iload_n 1, 1) := by decide +kernel
theorem dX9_worksOff_207 : decode cX9_worksOff 207 = .ok (.iaload, 1) := by decide +kernel
theorem dX9_worksOff_208 : decode cX9_worksOff 208 = .ok (.iastore, 1) := by decide +kernel
theorem dX9_worksOff_209 : decode cX9_worksOff 209 = .ok (.aload_n 0, 1) := by decide +kernel
theorem dX9_worksOff_210 : decode cX9_worksOff 210 = .ok (.iload_n 2, 1) := by decide +kernel
theorem dX9_worksOff_211 : decode cX9_worksOff 211 = .ok (.invokevirtual 254, 3) := by decide +kernel
theorem dX9_worksOff_214 : decode cX9_worksOff 214 = .ok (.aload_n 0, 1) := by decide +kernel
theorem dX9_worksOff_215 : decode cX9_worksOff 215 = .ok (.iconst 3, 1) := by decide +kernel
theorem dX9_worksOff_216 : decode cX9_worksOff 216 = .ok (.iload_n 2, 1) := by decide +kernel
theorem dX9_worksOff_217 : decode cX9_worksOff 217 = .ok (.aload_n 0, 1) := by decide +kernel
theorem dX9_worksOff_218 : decode cX9_worksOff 218 = .ok (.getfield 47, 3) := by decide +kernel
theorem dX9_worksOff_221 : decode cX9_worksOff 221 = .ok (.iload_n 1, 1) := by decide +kernel
theorem dX9_worksOff_222 : decode cX9_worksOff 222 = .ok (.iaload, 1) := by decide +kernel
theorem dX9_worksOff_223 : decode cX9_worksOff 223 = .ok (.aload_n 0, 1) := by decide +kernel
theorem dX9_worksOff_224 : decode cX9_worksOff 224 = .ok (.getfield 50, 3) := by decide +kernel
theorem dX9_worksOff_227 : decode cX9_worksOff 227 = .ok (.iload_n 1, 1) := by decide +kernel
theorem dX9_worksOff_228 : decode cX9_worksOff 228 = .ok (.iaload, 1) := by decide +kernel
theorem dX9_worksOff_229 : decode cX9_worksOff 229 = .ok (.invokevirtual 257, 3) := by decide +kernel
theorem dX9_worksOff_232 : decode cX9_worksOff 232 = .ok (.aload_n 0, 1) := by decide +kernel
theorem dX9_worksOff_233 : decode cX9_worksOff 233 = .ok (.iload_n 2, 1) := by decide +kernel
theorem dX9_worksOff_234 : decode cX9_worksOff 234 = .ok (.invokevirtual 261, 3) := by decide +kernel
theorem dX9_worksOff_237 : decode cX9_worksOff 237 = .ok (.return_, 1) := by decide +kernel
theorem dX9_comesBehind_0 : decode cX9_comesBehind 0 = .ok (.aload_n 0, 1) := by decide +kernel
theorem dX9_comesBehind_1 : decode cX9_comesBehind 1 = .ok (.getfield 93, 3) := by decide +kernel
theorem dX9_comesBehind_4 : decode cX9_comesBehind 4 = .ok (.iload_n 1, 1) := by decide +kernel
theorem dX9_comesBehind_5 : decode cX9_comesBehind 5 = .ok (.aload_n 0, 1) := by decide +kernel
theorem dX9_comesBehind_6 : decode cX9_comesBehind 6 = .ok (.getfield 264, 3) := by decide +kernel
theorem dX9_comesBehind_9 : decode cX9_comesBehind 9 = .ok (.iastore, 1) := by decide +kernel
theorem dX9_comesBehind_10 : decode cX9_comesBehind 10 = .ok (.aload_n 0, 1) := by decide +kernel
theorem dX9_comesBehind_11 : decode cX9_comesBehind 11 = .ok (.dup, 1) := by decide +kernel
theorem dX9_comesBehind_12 : decode cX9_comesBehind 12 = .ok (.getfield 264, 3) := by decide +kernel
theorem dX9_comesBehind_15 : decode cX9_comesBehind 15 = .ok (.iconst 1, 1) := by decide +kernel
theorem dX9_comesBehind_16 : decode cX9_comesBehind 16 = .ok (.iadd, 1) := by decide +kernel
theorem dX9_comesBehind_17 : decode cX9_comesBehind 17 = .ok (.putfield 264, 3) := by decide +kernel
theorem dX9_comesBehind_20 : decode cX9_comesBehind 20 = .ok (.return_, 1) := by decide +kernel
theorem dX9_isBetter_0 : decode cX9_isBetter 0 = .ok (.iload_n 2, 1) := by decide +kernel
theorem dX9_isBetter_1 : decode cX9_isBetter 1 = .ok (.iconst (-1), 1) := by decide +kernel
theorem dX9_isBetter_2 : decode cX9_isBetter 2 = .ok (.if_icmp .eq 18, 3) := by decide +kernel
theorem dX9_isBetter_5 : decode cX9_isBetter 5 = .ok (.aload_n 0, 1) := by decide +kernel
theorem dX9_isBetter_6 : decode cX9_isBetter 6 = .ok (.getfield 96, 3) := by decide +kernel
theorem dX9_isBetter_9 : decode cX9_isBetter 9 = .ok (.iload_n 1, 1) := by decide +kernel
theorem dX9_isBetter_10 : decode cX9_isBetter 10 = .ok (.iaload, 1) := by decide +kernel
theorem dX9_isBetter_11 : decode cX9_isBetter 11 = .ok (.aload_n 0, 1) := by decide +kernel
theorem dX9_isBetter_12 : decode cX9_isBetter 12 = .ok (.getfield 96, 3) := by decide +kernel
theorem dX9_isBetter_15 : decode cX9_isBetter 15 = .ok (.iload_n 2, 1) := by decide +kernel
theorem dX9_isBetter_16 : decode cX9_isBetter 16 = .ok (.iaload, 1) := by decide +kernel
theorem dX9_isBetter_17 : decode cX9_isBetter 17 = .ok (.if_icmp .eq 38, 3) := by decide +kernel
theorem dX9_isBetter_20 : decode cX9_isBetter 20 = .ok (.iload_n 2, 1) := by decide +kernel
theorem dX9_isBetter_21 : decode cX9_isBetter 21 = .ok (.iconst (-1), 1) := by decide +kernel
theorem dX9_isBetter_22 : decode cX9_isBetter 22 = .ok (.if_icmp .eq 27, 3) := by decide +kernel
theorem dX9_isBetter_25 : decode cX9_isBetter 25 = .ok (.aload_n 0, 1) := by decide +kernel
theorem dX9_isBetter_26 : decode cX9_isBetter 26 = .ok (.getfield 96, 3) := by decide +kernel
theorem dX9_isBetter_29 : decode cX9_isBetter 29 = .ok (.iload_n 1, 1) := by decide +kernel
theorem dX9_isBetter_30 : decode cX9_isBetter 30 = .ok (.iaload, 1) := by decide +kernel
theorem dX9_isBetter_31 : decode cX9_isBetter 31 = .ok (.aload_n 0, 1) := by decide +kernel
theorem dX9_isBetter_32 : decode cX9_isBetter 32 = .ok (.getfield 96, 3) := by decide +kernel
theorem dX9_isBetter_35 : decode cX9_isBetter 35 = .ok (.iload_n 2, 1) := by decide +kernel
theorem dX9_isBetter_36 : decode cX9_isBetter 36 = .ok (.iaload, 1) := by decide +kernel
theorem dX9_isBetter_37 : decode cX9_isBetter 37 = .ok (.if_icmp .ge 7, 3) := by decide +kernel
theorem dX9_isBetter_40 : decode cX9_isBetter 40 = .ok (.iconst 1, 1) := by decide +kernel
theorem dX9_isBetter_41 : decode cX9_isBetter 41 = .ok (.goto 4, 3) := by decide +kernel
theorem dX9_isBetter_44 : decode cX9_isBetter 44 = .ok (.iconst 0, 1) := by decide +kernel
theorem dX9_isBetter_45 : decode cX9_isBetter 45 = .ok (.iload_n 3, 1) := by decide +kernel
theorem dX9_isBetter_46 : decode cX9_isBetter 46 = .ok (.if_icmp .eq 7, 3) := by decide +kernel
theorem dX9_isBetter_49 : decode cX9_isBetter 49 = .ok (.iconst 1, 1) := by decide +kernel
theorem dX9_isBetter_50 : decode cX9_isBetter 50 = .ok (.goto 4, 3) := by decide +kernel
theorem dX9_isBetter_53 : decode cX9_isBetter 53 = .ok (.iconst 0, 1) := by decide +kernel
theorem dX9_isBetter_54 : decode cX9_isBetter 54 = .ok (.ireturn, 1) := by decide +kernel
theorem dX9_isBetter_55 : decode cX9_isBetter 55 = .ok (.aload_n 0, 1) := by decide +kernel
theorem dX9_isBetter_56 : decode cX9_isBetter 56 = .ok (.getfield 99, 3) := by decide +kernel
theorem dX9_isBetter_59 : decode cX9_isBetter 59 = .ok (.iload_n 1, 1) := by decide +kernel
theorem dX9_isBetter_60 : decode cX9_isBetter 60 = .ok (.iaload, 1) := by decide +kernel
theorem dX9_isBetter_61 : decode cX9_isBetter 61 = .ok (.aload_n 0, 1) := by decide +kernel
theorem dX9_isBetter_62 : decode cX9_isBetter 62 = .ok (.getfield 99, 3) := by decide +kernel
theorem dX9_isBetter_65 : decode cX9_isBetter 65 = .ok (.iload_n 2, 1) := by decide +kernel
theorem dX9_isBetter_66 : decode cX9_isBetter 66 = .ok (.iaload, 1) := by decide +kernel
theorem dX9_isBetter_67 : decode cX9_isBetter 67 = .ok (.if_icmp .le 7, 3) := by decide +kernel
theorem dX9_isBetter_70 : decode cX9_isBetter 70 = .ok (.iconst 1, 1) := by decide +kernel
theorem dX9_isBetter_71 : decode cX9_isBetter 71 = .ok (.goto 4, 3) := by decide +kernel
theorem dX9_isBetter_74 : decode cX9_isBetter 74 = .ok (.iconst 0, 1) := by decide +kernel
theorem dX9_isBetter_75 : decode cX9_isBetter 75 = .ok (.ireturn, 1) := by decide +kernel
theorem dX9_quoteFor_0 : decode cX9_quoteFor 0 = .ok (.bipush 40, 2) := by decide +kernel
theorem dX9_quoteFor_2 : decode cX9_quoteFor 2 = .ok (.iload_n 1, 1) := by decide +kernel
theorem dX9_quoteFor_3 : decode cX9_quoteFor 3 = .ok (.iadd, 1) := by decide +kernel
theorem dX9_quoteFor_4 : decode cX9_quoteFor 4 = .ok (.istore_n 2, 1) := by decide +kernel
theorem dX9_quoteFor_5 : decode cX9_quoteFor 5 = .ok (.iconst (-1), 1) := by decide +kernel
theorem dX9_quoteFor_6 : decode cX9_quoteFor 6 = .ok (.istore_n 3, 1) := by decide +kernel
theorem dX9_quoteFor_7 : decode cX9_quoteFor 7 = .ok (.iconst 0, 1) := by decide +kernel
theorem dX9_quoteFor_8 : decode cX9_quoteFor 8 = .ok (.istore 4, 2) := by decide +kernel
theorem dX9_quoteFor_10 : decode cX9_quoteFor 10 = .ok (.iload 4, 2) := by decide +kernel
theorem dX9_quoteFor_12 : decode cX9_quoteFor 12 = .ok (.iconst 3, 1) := by decide +kernel
theorem dX9_quoteFor_13 : decode cX9_quoteFor 13 = .ok (.if_icmp .ge 124, 3) := by decide +kernel
theorem dX9_quoteFor_16 : decode cX9_quoteFor 16 = .ok (.iconst 2, 1) := by decide +kernel
theorem dX9_quoteFor_17 : decode cX9_quoteFor 17 = .ok (.iload 4, 2) := by decide +kernel
theorem dX9_quoteFor_19 : decode cX9_quoteFor 19 = .ok (.imul, 1) := by decide +kernel
theorem dX9_quoteFor_20 : decode cX9_quoteFor 20 = .ok (.aload_n 0, 1) := by decide +kernel
theorem dX9_quoteFor_21 : decode cX9_quoteFor 21 = .ok (.getfield 69, 3) := by decide +kernel
theorem dX9_quoteFor_24 : decode cX9_quoteFor 24 = .ok (.iload_n 1, 1) := by decide +kernel
theorem dX9_quoteFor_25 : decode cX9_quoteFor 25 = .ok (.baload, 1) := by decide +kernel
theorem dX9_quoteFor_26 : decode cX9_quoteFor 26 = .ok (.ifCond .eq 7, 3) := by decide +kernel
theorem dX9_quoteFor_29 : decode cX9_quoteFor 29 = .ok (.iconst 1, 1) := by decide +kernel
theorem dX9_quoteFor_30 : decode cX9_quoteFor 30 = .ok (.goto 4, 3) := by decide +kernel
theorem dX9_quoteFor_33 : decode cX9_quoteFor 33 = .ok (.iconst 0, 1) := by decide +kernel
theorem dX9_quoteFor_34 : decode cX9_quoteFor 34 = .ok (.iadd, 1) := by decide +kernel
theorem dX9_quoteFor_35 : decode cX9_quoteFor 35 = .ok (.istore 5, 2) := by decide +kernel
theorem dX9_quoteFor_37 : decode cX9_quoteFor 37 = .ok (.aload_n 0, 1) := by decide +kernel
theorem dX9_quoteFor_38 : decode cX9_quoteFor 38 = .ok (.getfield 69, 3) := by decide +kernel
theorem dX9_quoteFor_41 : decode cX9_quoteFor 41 = .ok (.iload_n 1, 1) := by decide +kernel
theorem dX9_quoteFor_42 : decode cX9_quoteFor 42 = .ok (.baload, 1) := by decide +kernel
theorem dX9_quoteFor_43 : decode cX9_quoteFor 43 = .ok (.ifCond .eq 27, 3) := by decide +kernel
theorem dX9_quoteFor_46 : decode cX9_quoteFor 46 = .ok (.aload_n 0, 1) := by decide +kernel
theorem dX9_quoteFor_47 : decode cX9_quoteFor 47 = .ok (.getfield 96, 3) := by decide +kernel
theorem dX9_quoteFor_50 : decode cX9_quoteFor 50 = .ok (.iload 5, 2) := by decide +kernel
theorem dX9_quoteFor_52 : decode cX9_quoteFor 52 = .ok (.iaload, 1) := by decide +kernel
theorem dX9_quoteFor_53 : decode cX9_quoteFor 53 = .ok (.aload_n 0, 1) := by decide +kernel
theorem dX9_quoteFor_54 : decode cX9_quoteFor 54 = .ok (.getfield 75, 3) := by decide +kernel
theorem dX9_quoteFor_57 : decode cX9_quoteFor 57 = .ok (.iload_n 2, 1) := by decide +kernel
theorem dX9_quoteFor_58 : decode cX9_quoteFor 58 = .ok (.iaload, 1) := by decide +kernel
theorem dX9_quoteFor_59 : decode cX9_quoteFor 59 = .ok (.if_icmp .lt 7, 3) := by decide +kernel
theorem dX9_quoteFor_62 : decode cX9_quoteFor 62 = .ok (.iconst 1, 1) := by decide +kernel
theorem dX9_quoteFor_63 : decode cX9_quoteFor 63 = .ok (.goto 28, 3) := by decide +kernel
theorem dX9_quoteFor_66 : decode cX9_quoteFor 66 = .ok (.iconst 0, 1) := by decide +kernel
theorem dX9_quoteFor_67 : decode cX9_quoteFor 67 = .ok (.goto 24, 3) := by decide +kernel
theorem dX9_quoteFor_70 : decode cX9_quoteFor 70 = .ok (.aload_n 0, 1) := by decide +kernel
theorem dX9_quoteFor_71 : decode cX9_quoteFor 71 = .ok (.getfield 96, 3) := by decide +kernel
theorem dX9_quoteFor_74 : decode cX9_quoteFor 74 = .ok (.iload 5, 2) := by decide +kernel
theorem dX9_quoteFor_76 : decode cX9_quoteFor 76 = .ok (.iaload, 1) := by decide +kernel
theorem dX9_quoteFor_77 : decode cX9_quoteFor 77 = .ok (.aload_n 0, 1) := by decide +kernel
theorem dX9_quoteFor_78 : decode cX9_quoteFor 78 = .ok (.getfield 75, 3) := by decide +kernel
theorem dX9_quoteFor_81 : decode cX9_quoteFor 81 = .ok (.iload_n 2, 1) := by decide +kernel
theorem dX9_quoteFor_82 : decode cX9_quoteFor 82 = .ok (.iaload, 1) := by decide +kernel
theorem dX9_quoteFor_83 : decode cX9_quoteFor 83 = .ok (.if_icmp .gt 7, 3) := by decide +kernel
theorem dX9_quoteFor_86 : decode cX9_quoteFor 86 = .ok (.iconst 1, 1) := by decide +kernel
theorem dX9_quoteFor_87 : decode cX9_quoteFor 87 = .ok (.goto 4, 3) := by decide +kernel
theorem dX9_quoteFor_90 : decode cX9_quoteFor 90 = .ok (.iconst 0, 1) := by decide +kernel
theorem dX9_quoteFor_91 : decode cX9_quoteFor 91 = .ok (.istore 6, 2) := by decide +kernel
theorem dX9_quoteFor_93 : decode cX9_quoteFor 93 = .ok (.aload_n 0, 1) := by decide +kernel
theorem dX9_quoteFor_94 : decode cX9_quoteFor 94 = .ok (.getfield 99, 3) := by decide +kernel
theorem dX9_quoteFor_97 : decode cX9_quoteFor 97 = .ok (.iload 5, 2) := by decide +kernel
theorem dX9_quoteFor_99 : decode cX9_quoteFor 99 = .ok (.iaload, 1) := by decide +kernel
theorem dX9_quoteFor_100 : decode cX9_quoteFor 100 = .ok (.ifCond .le 29, 3) := by decide +kernel
theorem dX9_quoteFor_103 : decode cX9_quoteFor 103 = .ok (.iload 6, 2) := by decide +kernel
theorem dX9_quoteFor_105 : decode cX9_quoteFor 105 = .ok (.ifCond .eq 24, 3) := by decide +kernel
theorem dX9_quoteFor_108 : decode cX9_quoteFor 108 = .ok (.aload_n 0, 1) := by decide +kernel
theorem dX9_quoteFor_109 : decode cX9_quoteFor 109 = .ok (.iload 5, 2) := by decide +kernel
theorem dX9_quoteFor_111 : decode cX9_quoteFor 111 = .ok (.iload_n 3, 1) := by decide +kernel
theorem dX9_quoteFor_112 : decode cX9_quoteFor 112 = .ok (.aload_n 0, 1) := by decide +kernel
theorem dX9_quoteFor_113 : decode cX9_quoteFor 113 = .ok (.getfield 69, 3) := by decide +kernel
theorem dX9_quoteFor_116 : decode cX9_quoteFor 116 = .ok (.iload_n 1, 1) := by decide +kernel
theorem dX9_quoteFor_117 : decode cX9_quoteFor 117 = .ok (.baload, 1) := by decide +kernel
theorem dX9_quoteFor_118 : decode cX9_quoteFor 118 = .ok (.invokevirtual 267, 3) := by decide +kernel
theorem dX9_quoteFor_121 : decode cX9_quoteFor 121 = .ok (.ifCond .eq 8, 3) := by decide +kernel
theorem dX9_quoteFor_124 : decode cX9_quoteFor 124 = .ok (.iload 5, 2) := by decide +kernel
theorem dX9_quoteFor_126 : decode cX9_quoteFor 126 = .ok (.goto 4, 3) := by decide +kernel
theorem dX9_quoteFor_129 : decode cX9_quoteFor 129 = .ok (.iload_n 3, 1) := by decide +kernel
theorem dX9_quoteFor_130 : decode cX9_quoteFor 130 = .ok (.istore_n 3, 1) := by decide +kernel
theorem dX9_quoteFor_131 : decode cX9_quoteFor 131 = .ok (.iinc 4 1, 3) := by decide +kernel
theorem dX9_quoteFor_134 : decode cX9_quoteFor 134 = .ok (.goto (-124), 3) := by decide +kernel
theorem dX9_quoteFor_137 : decode cX9_quoteFor 137 = .ok (.iload_n 3, 1) := by decide +kernel
theorem dX9_quoteFor_138 : decode cX9_quoteFor 138 = .ok (.ireturn, 1) := by decide +kernel
theorem dX9_trades_0 : decode cX9_trades 0 = .ok (.bipush 40, 2) := by decide +kernel
theorem dX9_trades_2 : decode cX9_trades 2 = .ok (.iload_n 1, 1) := by decide +kernel
theorem dX9_trades_3 : decode cX9_trades 3 = .ok (.iadd, 1) := by decide +kernel
theorem dX9_trades_4 : decode cX9_trades 4 = .ok (.istore_n 3, 1) := by decide +kernel
theorem dX9_trades_5 : decode cX9_trades 5 = .ok (.aload_n 0, 1) := by decide +kernel
theorem dX9_trades_6 : decode cX9_trades 6 = .ok (.iload_n 3, 1) := by decide +kernel
theorem dX9_trades_7 : decode cX9_trades 7 = .ok (.invokevirtual 236, 3) := by decide +kernel
theorem dX9_trades_10 : decode cX9_trades 10 = .ok (.aload_n 0, 1) := by decide +kernel
theorem dX9_trades_11 : decode cX9_trades 11 = .ok (.getfield 99, 3) := by decide +kernel
theorem dX9_trades_14 : decode cX9_trades 14 = .ok (.iload_n 2, 1) := by decide +kernel
theorem dX9_trades_15 : decode cX9_trades 15 = .ok (.iaload, 1) := by decide +kernel
theorem dX9_trades_16 : decode cX9_trades 16 = .ok (.if_icmp .ge 11, 3) := by decide +kernel
theorem dX9_trades_19 : decode cX9_trades 19 = .ok (.aload_n 0, 1) := by decide +kernel
theorem dX9_trades_20 : decode cX9_trades 20 = .ok (.iload_n 3, 1) := by decide +kernel
theorem dX9_trades_21 : decode cX9_trades 21 = .ok (.invokevirtual 236, 3) := by decide +kernel
theorem dX9_trades_24 : decode cX9_trades 24 = .ok (.goto 9, 3) := by decide +kernel
theorem dX9_trades_27 : decode cX9_trades 27 = .ok (.aload_n 0, 1) := by decide +kernel
theorem dX9_trades_28 : decode cX9_trades 28 = .ok (.getfield 99, 3) := by decide +kernel
theorem dX9_trades_31 : decode cX9_trades 31 = .ok (.iload_n 2, 1) := by decide +kernel
theorem dX9_trades_32 : decode cX9_trades 32 = .ok (.iaload, 1) := by decide +kernel
theorem dX9_trades_33 : decode cX9_trades 33 = .ok (.istore 4, 2) := by decide +kernel
theorem dX9_trades_35 : decode cX9_trades 35 = .ok (.aload_n 0, 1) := by decide +kernel
theorem dX9_trades_36 : decode cX9_trades 36 = .ok (.getfield 271, 3) := by decide +kernel
theorem dX9_trades_39 : decode cX9_trades 39 = .ok (.istore 5, 2) := by decide +kernel
theorem dX9_trades_41 : decode cX9_trades 41 = .ok (.aload_n 0, 1) := by decide +kernel
theorem dX9_trades_42 : decode cX9_trades 42 = .ok (.getfield 102, 3) := by decide +kernel
theorem dX9_trades_45 : decode cX9_trades 45 = .ok (.iload 5, 2) := by decide +kernel
theorem dX9_trades_47 : decode cX9_trades 47 = .ok (.iload_n 1, 1) := by decide +kernel
theorem dX9_trades_48 : decode cX9_trades 48 = .ok (.iastore, 1) := by decide +kernel
theorem dX9_trades_49 : decode cX9_trades 49 = .ok (.aload_n 0, 1) := by decide +kernel
theorem dX9_trades_50 : decode cX9_trades 50 = .ok (.getfield 105, 3) := by decide +kernel
theorem dX9_trades_53 : decode cX9_trades 53 = .ok (.iload 5, 2) := by decide +kernel
theorem dX9_trades_55 : decode cX9_trades 55 = .ok (.iload_n 2, 1) := by decide +kernel
theorem dX9_trades_56 : decode cX9_trades 56 = .ok (.iconst 2, 1) := by decide +kernel
theorem dX9_trades_57 : decode cX9_trades 57 = .ok (.idiv, 1) := by decide +kernel
theorem dX9_trades_58 : decode cX9_trades 58 = .ok (.iastore, 1) := by decide +kernel
theorem dX9_trades_59 : decode cX9_trades 59 = .ok (.aload_n 0, 1) := by decide +kernel
theorem dX9_trades_60 : decode cX9_trades 60 = .ok (.getfield 108, 3) := by decide +kernel
theorem dX9_trades_63 : decode cX9_trades 63 = .ok (.iload 5, 2) := by decide +kernel
theorem dX9_trades_65 : decode cX9_trades 65 = .ok (.aload_n 0, 1) := by decide +kernel
theorem dX9_trades_66 : decode cX9_trades 66 = .ok (.getfield 274, 3) := by decide +kernel
theorem dX9_trades_69 : decode cX9_trades 69 = .ok (.iastore, 1) := by decide +kernel
theorem dX9_trades_70 : decode cX9_trades 70 = .ok (.aload_n 0, 1) := by decide +kernel
theorem dX9_trades_71 : decode cX9_trades 71 = .ok (.getfield 111, 3) := by decide +kernel
theorem dX9_trades_74 : decode cX9_trades 74 = .ok (.iload 5, 2) := by decide +kernel
theorem dX9_trades_76 : decode cX9_trades 76 = .ok (.iload 4, 2) := by decide +kernel
theorem dX9_trades_78 : decode cX9_trades 78 = .ok (.iastore, 1) := by decide +kernel
theorem dX9_trades_79 : decode cX9_trades 79 = .ok (.aload_n 0, 1) := by decide +kernel
theorem dX9_trades_80 : decode cX9_trades 80 = .ok (.getfield 114, 3) := by decide +kernel
theorem dX9_trades_83 : decode cX9_trades 83 = .ok (.iload 5, 2) := by decide +kernel
theorem dX9_trades_85 : decode cX9_trades 85 = .ok (.aload_n 0, 1) := by decide +kernel
theorem dX9_trades_86 : decode cX9_trades 86 = .ok (.getfield 96, 3) := by decide +kernel
theorem dX9_trades_89 : decode cX9_trades 89 = .ok (.iload_n 2, 1) := by decide +kernel
theorem dX9_trades_90 : decode cX9_trades 90 = .ok (.iaload, 1) := by decide +kernel
theorem dX9_trades_91 : decode cX9_trades 91 = .ok (.iastore, 1) := by decide +kernel
theorem dX9_trades_92 : decode cX9_trades 92 = .ok (.aload_n 0, 1) := by decide +kernel
theorem dX9_trades_93 : decode cX9_trades 93 = .ok (.getfield 117, 3) := by decide +kernel
theorem dX9_trades_96 : decode cX9_trades 96 = .ok (.bipush 100, 2) := by decide +kernel
theorem dX9_trades_98 : decode cX9_trades 98 = .ok (.iload 5, 2) := by decide +kernel
theorem dX9_trades_100 : decode cX9_trades 100 = .ok (.iadd, 1) := by decide +kernel
theorem dX9_trades_101 : decode cX9_trades 101 = .ok (.aload_n 0, 1) := by decide +kernel
theorem dX9_trades_102 : decode cX9_trades 102 = .ok (.getfield 96, 3) := by decide +kernel
theorem dX9_trades_105 : decode cX9_trades 105 = .ok (.iload_n 2, 1) := by decide +kernel
theorem dX9_trades_106 : decode cX9_trades 106 = .ok (.iaload, 1) := by decide +kernel
theorem dX9_trades_107 : decode cX9_trades 107 = .ok (.iastore, 1) := by decide +kernel
theorem dX9_trades_108 : decode cX9_trades 108 = .ok (.aload_n 0, 1) := by decide +kernel
theorem dX9_trades_109 : decode cX9_trades 109 = .ok (.getfield 120, 3) := by decide +kernel
theorem dX9_trades_112 : decode cX9_trades 112 = .ok (.bipush 100, 2) := by decide +kernel
theorem dX9_trades_114 : decode cX9_trades 114 = .ok (.iload 5, 2) := by decide +kernel
theorem dX9_trades_116 : decode cX9_trades 116 = .ok (.iadd, 1) := by decide +kernel
theorem dX9_trades_117 : decode cX9_trades 117 = .ok (.iconst 1, 1) := by decide +kernel
theorem dX9_trades_118 : decode cX9_trades 118 = .ok (.bastore, 1) := by decide +kernel
theorem dX9_trades_119 : decode cX9_trades 119 = .ok (.aload_n 0, 1) := by decide +kernel
theorem dX9_trades_120 : decode cX9_trades 120 = .ok (.dup, 1) := by decide +kernel
theorem dX9_trades_121 : decode cX9_trades 121 = .ok (.getfield 271, 3) := by decide +kernel
theorem dX9_trades_124 : decode cX9_trades 124 = .ok (.iconst 1, 1) := by decide +kernel
theorem dX9_trades_125 : decode cX9_trades 125 = .ok (.iadd, 1) := by decide +kernel
theorem dX9_trades_126 : decode cX9_trades 126 = .ok (.putfield 271, 3) := by decide +kernel
theorem dX9_trades_129 : decode cX9_trades 129 = .ok (.aload_n 0, 1) := by decide +kernel
theorem dX9_trades_130 : decode cX9_trades 130 = .ok (.getfield 81, 3) := by decide +kernel
theorem dX9_trades_133 : decode cX9_trades 133 = .ok (.iload_n 3, 1) := by decide +kernel
theorem dX9_trades_134 : decode cX9_trades 134 = .ok (.dup2, 1) := by decide +kernel
theorem dX9_trades_135 : decode cX9_trades 135 = .ok (.iaload, 1) := by decide +kernel
theorem dX9_trades_136 : decode cX9_trades 136 = .ok (.iload 4, 2) := by decide +kernel
theorem dX9_trades_138 : decode cX9_trades 138 = .ok (.iadd, 1) := by decide +kernel
theorem dX9_trades_139 : decode cX9_trades 139 = .ok (.iastore, 1) := by decide +kernel
theorem dX9_trades_140 : decode cX9_trades 140 = .ok (.aload_n 0, 1) := by decide +kernel
theorem dX9_trades_141 : decode cX9_trades 141 = .ok (.getfield 99, 3) := by decide +kernel
theorem dX9_trades_144 : decode cX9_trades 144 = .ok (.iload_n 2, 1) := by decide +kernel
theorem dX9_trades_145 : decode cX9_trades 145 = .ok (.dup2, 1) := by decide +kernel
theorem dX9_trades_146 : decode cX9_trades 146 = .ok (.iaload, 1) := by decide +kernel
theorem dX9_trades_147 : decode cX9_trades 147 = .ok (.iload 4, 2) := by decide +kernel
theorem dX9_trades_149 : decode cX9_trades 149 = .ok (.isub, 1) := by decide +kernel
theorem dX9_trades_150 : decode cX9_trades 150 = .ok (.iastore, 1) := by decide +kernel
theorem dX9_trades_151 : decode cX9_trades 151 = .ok (.return_, 1) := by decide +kernel
theorem dX9_routes_0 : decode cX9_routes 0 = .ok (.aload_n 0, 1) := by decide +kernel
theorem dX9_routes_1 : decode cX9_routes 1 = .ok (.getfield 271, 3) := by decide +kernel
theorem dX9_routes_4 : decode cX9_routes 4 = .ok (.istore_n 2, 1) := by decide +kernel
theorem dX9_routes_5 : decode cX9_routes 5 = .ok (.aload_n 0, 1) := by decide +kernel
theorem dX9_routes_6 : decode cX9_routes 6 = .ok (.iload_n 1, 1) := by decide +kernel
theorem dX9_routes_7 : decode cX9_routes 7 = .ok (.invokevirtual 277, 3) := by decide +kernel
theorem dX9_routes_10 : decode cX9_routes 10 = .ok (.istore_n 3, 1) := by decide +kernel
theorem dX9_routes_11 : decode cX9_routes 11 = .ok (.iload_n 3, 1) := by decide +kernel
theorem dX9_routes_12 : decode cX9_routes 12 = .ok (.iconst (-1), 1) := by decide +kernel
theorem dX9_routes_13 : decode cX9_routes 13 = .ok (.if_icmp .eq 38, 3) := by decide +kernel
theorem dX9_routes_16 : decode cX9_routes 16 = .ok (.aload_n 0, 1) := by decide +kernel
theorem dX9_routes_17 : decode cX9_routes 17 = .ok (.bipush 40, 2) := by decide +kernel
theorem dX9_routes_19 : decode cX9_routes 19 = .ok (.iload_n 1, 1) := by decide +kernel
theorem dX9_routes_20 : decode cX9_routes 20 = .ok (.iadd, 1) := by decide +kernel
theorem dX9_routes_21 : decode cX9_routes 21 = .ok (.invokevirtual 236, 3) := by decide +kernel
theorem dX9_routes_24 : decode cX9_routes 24 = .ok (.ifCond .le 27, 3) := by decide +kernel
theorem dX9_routes_27 : decode cX9_routes 27 = .ok (.aload_n 0, 1) := by decide +kernel
theorem dX9_routes_28 : decode cX9_routes 28 = .ok (.getfield 271, 3) := by decide +kernel
theorem dX9_routes_31 : decode cX9_routes 31 = .ok (.bipush 100, 2) := by decide +kernel
theorem dX9_routes_33 : decode cX9_routes 33 = .ok (.if_icmp .ge 18, 3) := by decide +kernel
theorem dX9_routes_36 : decode cX9_routes 36 = .ok (.aload_n 0, 1) := by decide +kernel
theorem dX9_routes_37 : decode cX9_routes 37 = .ok (.iload_n 1, 1) := by decide +kernel
theorem dX9_routes_38 : decode cX9_routes 38 = .ok (.iload_n 3, 1) := by decide +kernel
theorem dX9_routes_39 : decode cX9_routes 39 = .ok (.invokevirtual 280, 3) := by decide +kernel
theorem dX9_routes_42 : decode cX9_routes 42 = .ok (.aload_n 0, 1) := by decide +kernel
theorem dX9_routes_43 : decode cX9_routes 43 = .ok (.iload_n 1, 1) := by decide +kernel
theorem dX9_routes_44 : decode cX9_routes 44 = .ok (.invokevirtual 277, 3) := by decide +kernel
theorem dX9_routes_47 : decode cX9_routes 47 = .ok (.istore_n 3, 1) := by decide +kernel
theorem dX9_routes_48 : decode cX9_routes 48 = .ok (.goto (-37), 3) := by decide +kernel
theorem dX9_routes_51 : decode cX9_routes 51 = .ok (.aload_n 0, 1) := by decide +kernel
theorem dX9_routes_52 : decode cX9_routes 52 = .ok (.getfield 271, 3) := by decide +kernel
theorem dX9_routes_55 : decode cX9_routes 55 = .ok (.iload_n 2, 1) := by decide +kernel
theorem dX9_routes_56 : decode cX9_routes 56 = .ok (.if_icmp .le 16, 3) := by decide +kernel
theorem dX9_routes_59 : decode cX9_routes 59 = .ok (.aload_n 0, 1) := by decide +kernel
theorem dX9_routes_60 : decode cX9_routes 60 = .ok (.iconst 1, 1) := by decide +kernel
theorem dX9_routes_61 : decode cX9_routes 61 = .ok (.iload_n 1, 1) := by decide +kernel
theorem dX9_routes_62 : decode cX9_routes 62 = .ok (.iload_n 2, 1) := by decide +kernel
theorem dX9_routes_63 : decode cX9_routes 63 = .ok (.aload_n 0, 1) := by decide +kernel
theorem dX9_routes_64 : decode cX9_routes 64 = .ok (.getfield 271, 3) := by decide +kernel
theorem dX9_routes_67 : decode cX9_routes 67 = .ok (.iload_n 2, 1) := by decide +kernel
theorem dX9_routes_68 : decode cX9_routes 68 = .ok (.isub, 1) := by decide +kernel
theorem dX9_routes_69 : decode cX9_routes 69 = .ok (.invokevirtual 257, 3) := by decide +kernel
theorem dX9_routes_72 : decode cX9_routes 72 = .ok (.return_, 1) := by decide +kernel
theorem dX9_isAhead_0 : decode cX9_isAhead 0 = .ok (.aload_n 0, 1) := by decide +kernel
theorem dX9_isAhead_1 : decode cX9_isAhead 1 = .ok (.getfield 75, 3) := by decide +kernel
theorem dX9_isAhead_4 : decode cX9_isAhead 4 = .ok (.bipush 40, 2) := by decide +kernel
theorem dX9_isAhead_6 : decode cX9_isAhead 6 = .ok (.iload_n 1, 1) := by decide +kernel
theorem dX9_isAhead_7 : decode cX9_isAhead 7 = .ok (.iadd, 1) := by decide +kernel
theorem dX9_isAhead_8 : decode cX9_isAhead 8 = .ok (.iaload, 1) := by decide +kernel
theorem dX9_isAhead_9 : decode cX9_isAhead 9 = .ok (.istore_n 3, 1) := by decide +kernel
theorem dX9_isAhead_10 : decode cX9_isAhead 10 = .ok (.aload_n 0, 1) := by decide +kernel
theorem dX9_isAhead_11 : decode cX9_isAhead 11 = .ok (.getfield 75, 3) := by decide +kernel
theorem dX9_isAhead_14 : decode cX9_isAhead 14 = .ok (.bipush 40, 2) := by decide +kernel
theorem dX9_isAhead_16 : decode cX9_isAhead 16 = .ok (.iload_n 2, 1) := by decide +kernel
theorem dX9_isAhead_17 : decode cX9_isAhead 17 = .ok (.iadd, 1) := by decide +kernel
theorem dX9_isAhead_18 : decode cX9_isAhead 18 = .ok (.iaload, 1) := by decide +kernel
theorem dX9_isAhead_19 : decode cX9_isAhead 19 = .ok (.istore 4, 2) := by decide +kernel
theorem dX9_isAhead_21 : decode cX9_isAhead 21 = .ok (.iload_n 3, 1) := by decide +kernel
theorem dX9_isAhead_22 : decode cX9_isAhead 22 = .ok (.iload 4, 2) := by decide +kernel
theorem dX9_isAhead_24 : decode cX9_isAhead 24 = .ok (.if_icmp .ne 26, 3) := by decide +kernel
theorem dX9_isAhead_27 : decode cX9_isAhead 27 = .ok (.aload_n 0, 1) := by decide +kernel
theorem dX9_isAhead_28 : decode cX9_isAhead 28 = .ok (.getfield 93, 3) := by decide +kernel
theorem dX9_isAhead_31 : decode cX9_isAhead 31 = .ok (.iload_n 1, 1) := by decide +kernel
theorem dX9_isAhead_32 : decode cX9_isAhead 32 = .ok (.iaload, 1) := by decide +kernel
theorem dX9_isAhead_33 : decode cX9_isAhead 33 = .ok (.aload_n 0, 1) := by decide +kernel
theorem dX9_isAhead_34 : decode cX9_isAhead 34 = .ok (.getfield 93, 3) := by decide +kernel
theorem dX9_isAhead_37 : decode cX9_isAhead 37 = .ok (.iload_n 2, 1) := by decide +kernel
theorem dX9_isAhead_38 : decode cX9_isAhead 38 = .ok (.iaload, 1) := by decide +kernel
theorem dX9_isAhead_39 : decode cX9_isAhead 39 = .ok (.if_icmp .ge 7, 3) := by decide +kernel
theorem dX9_isAhead_42 : decode cX9_isAhead 42 = .ok (.iconst 1, 1) := by decide +kernel
theorem dX9_isAhead_43 : decode cX9_isAhead 43 = .ok (.goto 32, 3) := by decide +kernel
theorem dX9_isAhead_46 : decode cX9_isAhead 46 = .ok (.iconst 0, 1) := by decide +kernel
theorem dX9_isAhead_47 : decode cX9_isAhead 47 = .ok (.goto 28, 3) := by decide +kernel
theorem dX9_isAhead_50 : decode cX9_isAhead 50 = .ok (.iload_n 3, 1) := by decide +kernel
theorem dX9_isAhead_51 : decode cX9_isAhead 51 = .ok (.iload 4, 2) := by decide +kernel
theorem dX9_isAhead_53 : decode cX9_isAhead 53 = .ok (.if_icmp .ge 7, 3) := by decide +kernel
theorem dX9_isAhead_56 : decode cX9_isAhead 56 = .ok (.iconst 1, 1) := by decide +kernel
theorem dX9_isAhead_57 : decode cX9_isAhead 57 = .ok (.goto 4, 3) := by decide +kernel
theorem dX9_isAhead_60 : decode cX9_isAhead 60 = .ok (.iconst 0, 1) := by decide +kernel
theorem dX9_isAhead_61 : decode cX9_isAhead 61 = .ok (.aload_n 0, 1) := by decide +kernel
theorem dX9_isAhead_62 : decode cX9_isAhead 62 = .ok (.getfield 69, 3) := by decide +kernel
theorem dX9_isAhead_65 : decode cX9_isAhead 65 = .ok (.iload_n 1, 1) := by decide +kernel
theorem dX9_isAhead_66 : decode cX9_isAhead 66 = .ok (.baload, 1) := by decide +kernel
theorem dX9_isAhead_67 : decode cX9_isAhead 67 = .ok (.if_icmp .ne 7, 3) := by decide +kernel
theorem dX9_isAhead_70 : decode cX9_isAhead 70 = .ok (.iconst 1, 1) := by decide +kernel
theorem dX9_isAhead_71 : decode cX9_isAhead 71 = .ok (.goto 4, 3) := by decide +kernel
theorem dX9_isAhead_74 : decode cX9_isAhead 74 = .ok (.iconst 0, 1) := by decide +kernel
theorem dX9_isAhead_75 : decode cX9_isAhead 75 = .ok (.ireturn, 1) := by decide +kernel
theorem dX9_isToRoute_0 : decode cX9_isToRoute 0 = .ok (.aload_n 0, 1) := by decide +kernel
theorem dX9_isToRoute_1 : decode cX9_isToRoute 1 = .ok (.getfield 72, 3) := by decide +kernel
theorem dX9_isToRoute_4 : decode cX9_isToRoute 4 = .ok (.bipush 40, 2) := by decide +kernel
theorem dX9_isToRoute_6 : decode cX9_isToRoute 6 = .ok (.iload_n 1, 1) := by decide +kernel
theorem dX9_isToRoute_7 : decode cX9_isToRoute 7 = .ok (.iadd, 1) := by decide +kernel
theorem dX9_isToRoute_8 : decode cX9_isToRoute 8 = .ok (.baload, 1) := by decide +kernel
theorem dX9_isToRoute_9 : decode cX9_isToRoute 9 = .ok (.ifCond .eq 28, 3) := by decide +kernel
theorem dX9_isToRoute_12 : decode cX9_isToRoute 12 = .ok (.aload_n 0, 1) := by decide +kernel
theorem dX9_isToRoute_13 : decode cX9_isToRoute 13 = .ok (.getfield 69, 3) := by decide +kernel
theorem dX9_isToRoute_16 : decode cX9_isToRoute 16 = .ok (.iload_n 1, 1) := by decide +kernel
theorem dX9_isToRoute_17 : decode cX9_isToRoute 17 = .ok (.baload, 1) := by decide +kernel
theorem dX9_isToRoute_18 : decode cX9_isToRoute 18 = .ok (.iload_n 2, 1) := by decide +kernel
theorem dX9_isToRoute_19 : decode cX9_isToRoute 19 = .ok (.if_icmp .ne 18, 3) := by decide +kernel
theorem dX9_isToRoute_22 : decode cX9_isToRoute 22 = .ok (.aload_n 0, 1) := by decide +kernel
theorem dX9_isToRoute_23 : decode cX9_isToRoute 23 = .ok (.bipush 40, 2) := by decide +kernel
theorem dX9_isToRoute_25 : decode cX9_isToRoute 25 = .ok (.iload_n 1, 1) := by decide +kernel
theorem dX9_isToRoute_26 : decode cX9_isToRoute 26 = .ok (.iadd, 1) := by decide +kernel
theorem dX9_isToRoute_27 : decode cX9_isToRoute 27 = .ok (.invokevirtual 236, 3) := by decide +kernel
theorem dX9_isToRoute_30 : decode cX9_isToRoute 30 = .ok (.ifCond .le 7, 3) := by decide +kernel
theorem dX9_isToRoute_33 : decode cX9_isToRoute 33 = .ok (.iconst 1, 1) := by decide +kernel
theorem dX9_isToRoute_34 : decode cX9_isToRoute 34 = .ok (.goto 4, 3) := by decide +kernel
theorem dX9_isToRoute_37 : decode cX9_isToRoute 37 = .ok (.iconst 0, 1) := by decide +kernel
theorem dX9_isToRoute_38 : decode cX9_isToRoute 38 = .ok (.ireturn, 1) := by decide +kernel
theorem dX9_nextInRank_0 : decode cX9_nextInRank 0 = .ok (.iconst (-1), 1) := by decide +kernel
theorem dX9_nextInRank_1 : decode cX9_nextInRank 1 = .ok (.istore_n 3, 1) := by decide +kernel
theorem dX9_nextInRank_2 : decode cX9_nextInRank 2 = .ok (.iconst 0, 1) := by decide +kernel
theorem dX9_nextInRank_3 : decode cX9_nextInRank 3 = .ok (.istore 4, 2) := by decide +kernel
theorem dX9_nextInRank_5 : decode cX9_nextInRank 5 = .ok (.iload 4, 2) := by decide +kernel
theorem dX9_nextInRank_7 : decode cX9_nextInRank 7 = .ok (.aload_n 0, 1) := by decide +kernel
theorem dX9_nextInRank_8 : decode cX9_nextInRank 8 = .ok (.getfield 134, 3) := by decide +kernel
theorem dX9_nextInRank_11 : decode cX9_nextInRank 11 = .ok (.if_icmp .ge 68, 3) := by decide +kernel
theorem dX9_nextInRank_14 : decode cX9_nextInRank 14 = .ok (.aload_n 0, 1) := by decide +kernel
theorem dX9_nextInRank_15 : decode cX9_nextInRank 15 = .ok (.iload 4, 2) := by decide +kernel
theorem dX9_nextInRank_17 : decode cX9_nextInRank 17 = .ok (.iload_n 2, 1) := by decide +kernel
theorem dX9_nextInRank_18 : decode cX9_nextInRank 18 = .ok (.invokevirtual 283, 3) := by decide +kernel
theorem dX9_nextInRank_21 : decode cX9_nextInRank 21 = .ok (.ifCond .eq 22, 3) := by decide +kernel
theorem dX9_nextInRank_24 : decode cX9_nextInRank 24 = .ok (.iload_n 1, 1) := by decide +kernel
theorem dX9_nextInRank_25 : decode cX9_nextInRank 25 = .ok (.iconst (-1), 1) := by decide +kernel
theorem dX9_nextInRank_26 : decode cX9_nextInRank 26 = .ok (.if_icmp .eq 13, 3) := by decide +kernel
theorem dX9_nextInRank_29 : decode cX9_nextInRank 29 = .ok (.aload_n 0, 1) := by decide +kernel
theorem dX9_nextInRank_30 : decode cX9_nextInRank 30 = .ok (.iload_n 1, 1) := by decide +kernel
theorem dX9_nextInRank_31 : decode cX9_nextInRank 31 = .ok (.iload 4, 2) := by decide +kernel
theorem dX9_nextInRank_33 : decode cX9_nextInRank 33 = .ok (.invokevirtual 287, 3) := by decide +kernel
theorem dX9_nextInRank_36 : decode cX9_nextInRank 36 = .ok (.ifCond .eq 7, 3) := by decide +kernel
theorem dX9_nextInRank_39 : decode cX9_nextInRank 39 = .ok (.iconst 1, 1) := by decide +kernel
theorem dX9_nextInRank_40 : decode cX9_nextInRank 40 = .ok (.goto 4, 3) := by decide +kernel
theorem dX9_nextInRank_43 : decode cX9_nextInRank 43 = .ok (.iconst 0, 1) := by decide +kernel
theorem dX9_nextInRank_44 : decode cX9_nextInRank 44 = .ok (.istore 5, 2) := by decide +kernel
theorem dX9_nextInRank_46 : decode cX9_nextInRank 46 = .ok (.iload 5, 2) := by decide +kernel
theorem dX9_nextInRank_48 : decode cX9_nextInRank 48 = .ok (.ifCond .eq 23, 3) := by decide +kernel
theorem dX9_nextInRank_51 : decode cX9_nextInRank 51 = .ok (.iload_n 3, 1) := by decide +kernel
theorem dX9_nextInRank_52 : decode cX9_nextInRank 52 = .ok (.iconst (-1), 1) := by decide +kernel
theorem dX9_nextInRank_53 : decode cX9_nextInRank 53 = .ok (.if_icmp .eq 13, 3) := by decide +kernel
theorem dX9_nextInRank_56 : decode cX9_nextInRank 56 = .ok (.aload_n 0, 1) := by decide +kernel
theorem dX9_nextInRank_57 : decode cX9_nextInRank 57 = .ok (.iload 4, 2) := by decide +kernel
theorem dX9_nextInRank_59 : decode cX9_nextInRank 59 = .ok (.iload_n 3, 1) := by decide +kernel
theorem dX9_nextInRank_60 : decode cX9_nextInRank 60 = .ok (.invokevirtual 287, 3) := by decide +kernel
theorem dX9_nextInRank_63 : decode cX9_nextInRank 63 = .ok (.ifCond .eq 8, 3) := by decide +kernel
theorem dX9_nextInRank_66 : decode cX9_nextInRank 66 = .ok (.iload 4, 2) := by decide +kernel
theorem dX9_nextInRank_68 : decode cX9_nextInRank 68 = .ok (.goto 4, 3) := by decide +kernel
theorem dX9_nextInRank_71 : decode cX9_nextInRank 71 = .ok (.iload_n 3, 1) := by decide +kernel
theorem dX9_nextInRank_72 : decode cX9_nextInRank 72 = .ok (.istore_n 3, 1) := by decide +kernel
theorem dX9_nextInRank_73 : decode cX9_nextInRank 73 = .ok (.iinc 4 1, 3) := by decide +kernel
theorem dX9_nextInRank_76 : decode cX9_nextInRank 76 = .ok (.goto (-71), 3) := by decide +kernel
theorem dX9_nextInRank_79 : decode cX9_nextInRank 79 = .ok (.iload_n 3, 1) := by decide +kernel
theorem dX9_nextInRank_80 : decode cX9_nextInRank 80 = .ok (.ireturn, 1) := by decide +kernel
theorem dX9_quote_0 : decode cX9_quote 0 = .ok (.aload_n 0, 1) := by decide +kernel
theorem dX9_quote_1 : decode cX9_quote 1 = .ok (.iload_n 1, 1) := by decide +kernel
theorem dX9_quote_2 : decode cX9_quote 2 = .ok (.invokestatic 290, 3) := by decide +kernel
theorem dX9_quote_5 : decode cX9_quote 5 = .ok (.ifCond .ne 7, 3) := by decide +kernel
theorem dX9_quote_8 : decode cX9_quote 8 = .ok (.iconst 1, 1) := by decide +kernel
theorem dX9_quote_9 : decode cX9_quote 9 = .ok (.goto 30, 3) := by decide +kernel
theorem dX9_quote_12 : decode cX9_quote 12 = .ok (.iload_n 3, 1) := by decide +kernel
theorem dX9_quote_13 : decode cX9_quote 13 = .ok (.iconst 1, 1) := by decide +kernel
theorem dX9_quote_14 : decode cX9_quote 14 = .ok (.bipush 100, 2) := by decide +kernel
theorem dX9_quote_16 : decode cX9_quote 16 = .ok (.invokestatic 130, 3) := by decide +kernel
theorem dX9_quote_19 : decode cX9_quote 19 = .ok (.ifCond .eq 19, 3) := by decide +kernel
theorem dX9_quote_22 : decode cX9_quote 22 = .ok (.iload 4, 2) := by decide +kernel
theorem dX9_quote_24 : decode cX9_quote 24 = .ok (.iconst 0, 1) := by decide +kernel
theorem dX9_quote_25 : decode cX9_quote 25 = .ok (.sipush 200, 3) := by decide +kernel
theorem dX9_quote_28 : decode cX9_quote 28 = .ok (.invokestatic 130, 3) := by decide +kernel
theorem dX9_quote_31 : decode cX9_quote 31 = .ok (.ifCond .eq 7, 3) := by decide +kernel
theorem dX9_quote_34 : decode cX9_quote 34 = .ok (.iconst 0, 1) := by decide +kernel
theorem dX9_quote_35 : decode cX9_quote 35 = .ok (.goto 4, 3) := by decide +kernel
theorem dX9_quote_38 : decode cX9_quote 38 = .ok (.iconst 2, 1) := by decide +kernel
theorem dX9_quote_39 : decode cX9_quote 39 = .ok (.putfield 126, 3) := by decide +kernel
theorem dX9_quote_42 : decode cX9_quote 42 = .ok (.aload_n 0, 1) := by decide +kernel
theorem dX9_quote_43 : decode cX9_quote 43 = .ok (.getfield 126, 3) := by decide +kernel
theorem dX9_quote_46 : decode cX9_quote 46 = .ok (.ifCond .le 5, 3) := by decide +kernel
theorem dX9_quote_49 : decode cX9_quote 49 = .ok (.iconst 0, 1) := by decide +kernel
theorem dX9_quote_50 : decode cX9_quote 50 = .ok (.ireturn, 1) := by decide +kernel
theorem dX9_quote_51 : decode cX9_quote 51 = .ok (.aload_n 0, 1) := by decide +kernel
theorem dX9_quote_52 : decode cX9_quote 52 = .ok (.getfield 96, 3) := by decide +kernel
theorem dX9_quote_55 : decode cX9_quote 55 = .ok (.iconst 2, 1) := by decide +kernel
theorem dX9_quote_56 : decode cX9_quote 56 = .ok (.iload_n 1, 1) := by decide +kernel
theorem dX9_quote_57 : decode cX9_quote 57 = .ok (.imul, 1) := by decide +kernel
theorem dX9_quote_58 : decode cX9_quote 58 = .ok (.iload_n 2, 1) := by decide +kernel
theorem dX9_quote_59 : decode cX9_quote 59 = .ok (.ifCond .eq 7, 3) := by decide +kernel
theorem dX9_quote_62 : decode cX9_quote 62 = .ok (.iconst 1, 1) := by decide +kernel
theorem dX9_quote_63 : decode cX9_quote 63 = .ok (.goto 4, 3) := by decide +kernel
theorem dX9_quote_66 : decode cX9_quote 66 = .ok (.iconst 0, 1) := by decide +kernel
theorem dX9_quote_67 : decode cX9_quote 67 = .ok (.iadd, 1) := by decide +kernel
theorem dX9_quote_68 : decode cX9_quote 68 = .ok (.iload_n 3, 1) := by decide +kernel
theorem dX9_quote_69 : decode cX9_quote 69 = .ok (.iastore, 1) := by decide +kernel
theorem dX9_quote_70 : decode cX9_quote 70 = .ok (.aload_n 0, 1) := by decide +kernel
theorem dX9_quote_71 : decode cX9_quote 71 = .ok (.getfield 99, 3) := by decide +kernel
theorem dX9_quote_74 : decode cX9_quote 74 = .ok (.iconst 2, 1) := by decide +kernel
theorem dX9_quote_75 : decode cX9_quote 75 = .ok (.iload_n 1, 1) := by decide +kernel
theorem dX9_quote_76 : decode cX9_quote 76 = .ok (.imul, 1) := by decide +kernel
theorem dX9_quote_77 : decode cX9_quote 77 = .ok (.iload_n 2, 1) := by decide +kernel
theorem dX9_quote_78 : decode cX9_quote 78 = .ok (.ifCond .eq 7, 3) := by decide +kernel
theorem dX9_quote_81 : decode cX9_quote 81 = .ok (.iconst 1, 1) := by decide +kernel
theorem dX9_quote_82 : decode cX9_quote 82 = .ok (.goto 4, 3) := by decide +kernel
theorem dX9_quote_85 : decode cX9_quote 85 = .ok (.iconst 0, 1) := by decide +kernel
theorem dX9_quote_86 : decode cX9_quote 86 = .ok (.iadd, 1) := by decide +kernel
theorem dX9_quote_87 : decode cX9_quote 87 = .ok (.iload 4, 2) := by decide +kernel
theorem dX9_quote_89 : decode cX9_quote 89 = .ok (.iastore, 1) := by decide +kernel
theorem dX9_quote_90 : decode cX9_quote 90 = .ok (.aload_n 0, 1) := by decide +kernel
theorem dX9_quote_91 : decode cX9_quote 91 = .ok (.getfield 271, 3) := by decide +kernel
theorem dX9_quote_94 : decode cX9_quote 94 = .ok (.istore 5, 2) := by decide +kernel
theorem dX9_quote_96 : decode cX9_quote 96 = .ok (.aload_n 0, 1) := by decide +kernel
theorem dX9_quote_97 : decode cX9_quote 97 = .ok (.iconst (-1), 1) := by decide +kernel
theorem dX9_quote_98 : decode cX9_quote 98 = .ok (.iload_n 2, 1) := by decide +kernel
theorem dX9_quote_99 : decode cX9_quote 99 = .ok (.invokevirtual 293, 3) := by decide +kernel
theorem dX9_quote_102 : decode cX9_quote 102 = .ok (.istore 6, 2) := by decide +kernel
theorem dX9_quote_104 : decode cX9_quote 104 = .ok (.iload 6, 2) := by decide +kernel
theorem dX9_quote_106 : decode cX9_quote 106 = .ok (.iconst (-1), 1) := by decide +kernel
theorem dX9_quote_107 : decode cX9_quote 107 = .ok (.if_icmp .eq 21, 3) := by decide +kernel
theorem dX9_quote_110 : decode cX9_quote 110 = .ok (.aload_n 0, 1) := by decide +kernel
theorem dX9_quote_111 : decode cX9_quote 111 = .ok (.iload 6, 2) := by decide +kernel
theorem dX9_quote_113 : decode cX9_quote 113 = .ok (.invokevirtual 261, 3) := by decide +kernel
theorem dX9_quote_116 : decode cX9_quote 116 = .ok (.aload_n 0, 1) := by decide +kernel
theorem dX9_quote_117 : decode cX9_quote 117 = .ok (.iload 6, 2) := by decide +kernel
theorem dX9_quote_119 : decode cX9_quote 119 = .ok (.iload_n 2, 1) := by decide +kernel
theorem dX9_quote_120 : decode cX9_quote 120 = .ok (.invokevirtual 293, 3) := by decide +kernel
theorem dX9_quote_123 : decode cX9_quote 123 = .ok (.istore 6, 2) := by decide +kernel
theorem dX9_quote_125 : decode cX9_quote 125 = .ok (.goto (-21), 3) := by decide +kernel
theorem dX9_quote_128 : decode cX9_quote 128 = .ok (.aload_n 0, 1) := by decide +kernel
theorem dX9_quote_129 : decode cX9_quote 129 = .ok (.getfield 271, 3) := by decide +kernel
theorem dX9_quote_132 : decode cX9_quote 132 = .ok (.iload 5, 2) := by decide +kernel
theorem dX9_quote_134 : decode cX9_quote 134 = .ok (.isub, 1) := by decide +kernel
theorem dX9_quote_135 : decode cX9_quote 135 = .ok (.ireturn, 1) := by decide +kernel
theorem dX9_quoted_0 : decode cX9_quoted 0 = .ok (.aload_n 0, 1) := by decide +kernel
theorem dX9_quoted_1 : decode cX9_quoted 1 = .ok (.iload_n 1, 1) := by decide +kernel
theorem dX9_quoted_2 : decode cX9_quoted 2 = .ok (.invokestatic 290, 3) := by decide +kernel
theorem dX9_quoted_5 : decode cX9_quoted 5 = .ok (.ifCond .eq 7, 3) := by decide +kernel
theorem dX9_quoted_8 : decode cX9_quoted 8 = .ok (.iconst 0, 1) := by decide +kernel
theorem dX9_quoted_9 : decode cX9_quoted 9 = .ok (.goto 4, 3) := by decide +kernel
theorem dX9_quoted_12 : decode cX9_quoted 12 = .ok (.iconst 1, 1) := by decide +kernel
theorem dX9_quoted_13 : decode cX9_quoted 13 = .ok (.putfield 126, 3) := by decide +kernel
theorem dX9_quoted_16 : decode cX9_quoted 16 = .ok (.aload_n 0, 1) := by decide +kernel
theorem dX9_quoted_17 : decode cX9_quoted 17 = .ok (.getfield 126, 3) := by decide +kernel
theorem dX9_quoted_20 : decode cX9_quoted 20 = .ok (.ifCond .le 7, 3) := by decide +kernel
theorem dX9_quoted_23 : decode cX9_quoted 23 = .ok (.iconst 0, 1) := by decide +kernel
theorem dX9_quoted_24 : decode cX9_quoted 24 = .ok (.goto 21, 3) := by decide +kernel
theorem dX9_quoted_27 : decode cX9_quoted 27 = .ok (.aload_n 0, 1) := by decide +kernel
theorem dX9_quoted_28 : decode cX9_quoted 28 = .ok (.getfield 99, 3) := by decide +kernel
theorem dX9_quoted_31 : decode cX9_quoted 31 = .ok (.iconst 2, 1) := by decide +kernel
theorem dX9_quoted_32 : decode cX9_quoted 32 = .ok (.iload_n 1, 1) := by decide +kernel
theorem dX9_quoted_33 : decode cX9_quoted 33 = .ok (.imul, 1) := by decide +kernel
theorem dX9_quoted_34 : decode cX9_quoted 34 = .ok (.iload_n 2, 1) := by decide +kernel
theorem dX9_quoted_35 : decode cX9_quoted 35 = .ok (.ifCond .eq 7, 3) := by decide +kernel
theorem dX9_quoted_38 : decode cX9_quoted 38 = .ok (.iconst 1, 1) := by decide +kernel
theorem dX9_quoted_39 : decode cX9_quoted 39 = .ok (.goto 4, 3) := by decide +kernel
theorem dX9_quoted_42 : decode cX9_quoted 42 = .ok (.iconst 0, 1) := by decide +kernel
theorem dX9_quoted_43 : decode cX9_quoted 43 = .ok (.iadd, 1) := by decide +kernel
theorem dX9_quoted_44 : decode cX9_quoted 44 = .ok (.iaload, 1) := by decide +kernel
theorem dX9_quoted_45 : decode cX9_quoted 45 = .ok (.ireturn, 1) := by decide +kernel
theorem dX9_bust_0 : decode cX9_bust 0 = .ok (.aload_n 0, 1) := by decide +kernel
theorem dX9_bust_1 : decode cX9_bust 1 = .ok (.iload_n 1, 1) := by decide +kernel
theorem dX9_bust_2 : decode cX9_bust 2 = .ok (.iconst 0, 1) := by decide +kernel
theorem dX9_bust_3 : decode cX9_bust 3 = .ok (.aload_n 0, 1) := by decide +kernel
theorem dX9_bust_4 : decode cX9_bust 4 = .ok (.getfield 271, 3) := by decide +kernel
theorem dX9_bust_7 : decode cX9_bust 7 = .ok (.iconst 1, 1) := by decide +kernel
theorem dX9_bust_8 : decode cX9_bust 8 = .ok (.isub, 1) := by decide +kernel
theorem dX9_bust_9 : decode cX9_bust 9 = .ok (.invokestatic 130, 3) := by decide +kernel
theorem dX9_bust_12 : decode cX9_bust 12 = .ok (.ifCond .ne 7, 3) := by decide +kernel
theorem dX9_bust_15 : decode cX9_bust 15 = .ok (.iconst 1, 1) := by decide +kernel
theorem dX9_bust_16 : decode cX9_bust 16 = .ok (.goto 20, 3) := by decide +kernel
theorem dX9_bust_19 : decode cX9_bust 19 = .ok (.aload_n 0, 1) := by decide +kernel
theorem dX9_bust_20 : decode cX9_bust 20 = .ok (.getfield 123, 3) := by decide +kernel
theorem dX9_bust_23 : decode cX9_bust 23 = .ok (.bipush 100, 2) := by decide +kernel
theorem dX9_bust_25 : decode cX9_bust 25 = .ok (.iload_n 1, 1) := by decide +kernel
theorem dX9_bust_26 : decode cX9_bust 26 = .ok (.iadd, 1) := by decide +kernel
theorem dX9_bust_27 : decode cX9_bust 27 = .ok (.baload, 1) := by decide +kernel
theorem dX9_bust_28 : decode cX9_bust 28 = .ok (.ifCond .eq 7, 3) := by decide +kernel
theorem dX9_bust_31 : decode cX9_bust 31 = .ok (.iconst 2, 1) := by decide +kernel
theorem dX9_bust_32 : decode cX9_bust 32 = .ok (.goto 4, 3) := by decide +kernel
theorem dX9_bust_35 : decode cX9_bust 35 = .ok (.iconst 0, 1) := by decide +kernel
theorem dX9_bust_36 : decode cX9_bust 36 = .ok (.putfield 126, 3) := by decide +kernel
theorem dX9_bust_39 : decode cX9_bust 39 = .ok (.aload_n 0, 1) := by decide +kernel
theorem dX9_bust_40 : decode cX9_bust 40 = .ok (.getfield 126, 3) := by decide +kernel
theorem dX9_bust_43 : decode cX9_bust 43 = .ok (.ifCond .le 5, 3) := by decide +kernel
theorem dX9_bust_46 : decode cX9_bust 46 = .ok (.iconst 0, 1) := by decide +kernel
theorem dX9_bust_47 : decode cX9_bust 47 = .ok (.ireturn, 1) := by decide +kernel
theorem dX9_bust_48 : decode cX9_bust 48 = .ok (.bipush 40, 2) := by decide +kernel
theorem dX9_bust_50 : decode cX9_bust 50 = .ok (.aload_n 0, 1) := by decide +kernel
theorem dX9_bust_51 : decode cX9_bust 51 = .ok (.getfield 102, 3) := by decide +kernel
theorem dX9_bust_54 : decode cX9_bust 54 = .ok (.iload_n 1, 1) := by decide +kernel
theorem dX9_bust_55 : decode cX9_bust 55 = .ok (.iaload, 1) := by decide +kernel
theorem dX9_bust_56 : decode cX9_bust 56 = .ok (.iadd, 1) := by decide +kernel
theorem dX9_bust_57 : decode cX9_bust 57 = .ok (.istore_n 2, 1) := by decide +kernel
theorem dX9_bust_58 : decode cX9_bust 58 = .ok (.aload_n 0, 1) := by decide +kernel
theorem dX9_bust_59 : decode cX9_bust 59 = .ok (.getfield 123, 3) := by decide +kernel
theorem dX9_bust_62 : decode cX9_bust 62 = .ok (.bipush 100, 2) := by decide +kernel
theorem dX9_bust_64 : decode cX9_bust 64 = .ok (.iload_n 1, 1) := by decide +kernel
theorem dX9_bust_65 : decode cX9_bust 65 = .ok (.iadd, 1) := by decide +kernel
theorem dX9_bust_66 : decode cX9_bust 66 = .ok (.iconst 1, 1) := by decide +kernel
theorem dX9_bust_67 : decode cX9_bust 67 = .ok (.bastore, 1) := by decide +kernel
theorem dX9_bust_68 : decode cX9_bust 68 = .ok (.aload_n 0, 1) := by decide +kernel
theorem dX9_bust_69 : decode cX9_bust 69 = .ok (.getfield 81, 3) := by decide +kernel
theorem dX9_bust_72 : decode cX9_bust 72 = .ok (.iload_n 2, 1) := by decide +kernel
theorem dX9_bust_73 : decode cX9_bust 73 = .ok (.dup2, 1) := by decide +kernel
theorem dX9_bust_74 : decode cX9_bust 74 = .ok (.iaload, 1) := by decide +kernel
theorem dX9_bust_75 : decode cX9_bust 75 = .ok (.aload_n 0, 1) := by decide +kernel
theorem dX9_bust_76 : decode cX9_bust 76 = .ok (.getfield 111, 3) := by decide +kernel
theorem dX9_bust_79 : decode cX9_bust 79 = .ok (.iload_n 1, 1) := by decide +kernel
theorem dX9_bust_80 : decode cX9_bust 80 = .ok (.iaload, 1) := by decide +kernel
theorem dX9_bust_81 : decode cX9_bust 81 = .ok (.isub, 1) := by decide +kernel
theorem dX9_bust_82 : decode cX9_bust 82 = .ok (.iastore, 1) := by decide +kernel
theorem dX9_bust_83 : decode cX9_bust 83 = .ok (.aload_n 0, 1) := by decide +kernel
theorem dX9_bust_84 : decode cX9_bust 84 = .ok (.getfield 84, 3) := by decide +kernel
theorem dX9_bust_87 : decode cX9_bust 87 = .ok (.iload_n 2, 1) := by decide +kernel
theorem dX9_bust_88 : decode cX9_bust 88 = .ok (.dup2, 1) := by decide +kernel
theorem dX9_bust_89 : decode cX9_bust 89 = .ok (.iaload, 1) := by decide +kernel
theorem dX9_bust_90 : decode cX9_bust 90 = .ok (.aload_n 0, 1) := by decide +kernel
theorem dX9_bust_91 : decode cX9_bust 91 = .ok (.getfield 111, 3) := by decide +kernel
theorem dX9_bust_94 : decode cX9_bust 94 = .ok (.iload_n 1, 1) := by decide +kernel
theorem dX9_bust_95 : decode cX9_bust 95 = .ok (.iaload, 1) := by decide +kernel
theorem dX9_bust_96 : decode cX9_bust 96 = .ok (.iadd, 1) := by decide +kernel
theorem dX9_bust_97 : decode cX9_bust 97 = .ok (.iastore, 1) := by decide +kernel
theorem dX9_bust_98 : decode cX9_bust 98 = .ok (.aload_n 0, 1) := by decide +kernel
theorem dX9_bust_99 : decode cX9_bust 99 = .ok (.iconst 5, 1) := by decide +kernel
theorem dX9_bust_100 : decode cX9_bust 100 = .ok (.aload_n 0, 1) := by decide +kernel
theorem dX9_bust_101 : decode cX9_bust 101 = .ok (.getfield 102, 3) := by decide +kernel
theorem dX9_bust_104 : decode cX9_bust 104 = .ok (.iload_n 1, 1) := by decide +kernel
theorem dX9_bust_105 : decode cX9_bust 105 = .ok (.iaload, 1) := by decide +kernel
theorem dX9_bust_106 : decode cX9_bust 106 = .ok (.iload_n 1, 1) := by decide +kernel
theorem dX9_bust_107 : decode cX9_bust 107 = .ok (.iconst 0, 1) := by decide +kernel
theorem dX9_bust_108 : decode cX9_bust 108 = .ok (.invokevirtual 257, 3) := by decide +kernel
theorem dX9_bust_111 : decode cX9_bust 111 = .ok (.aload_n 0, 1) := by decide +kernel
theorem dX9_bust_112 : decode cX9_bust 112 = .ok (.getfield 81, 3) := by decide +kernel
theorem dX9_bust_115 : decode cX9_bust 115 = .ok (.iload_n 2, 1) := by decide +kernel
theorem dX9_bust_116 : decode cX9_bust 116 = .ok (.iaload, 1) := by decide +kernel
theorem dX9_bust_117 : decode cX9_bust 117 = .ok (.ireturn, 1) := by decide +kernel
theorem dX9_correct_0 : decode cX9_correct 0 = .ok (.aload_n 0, 1) := by decide +kernel
theorem dX9_correct_1 : decode cX9_correct 1 = .ok (.iload_n 1, 1) := by decide +kernel
theorem dX9_correct_2 : decode cX9_correct 2 = .ok (.iconst 0, 1) := by decide +kernel
theorem dX9_correct_3 : decode cX9_correct 3 = .ok (.aload_n 0, 1) := by decide +kernel
theorem dX9_correct_4 : decode cX9_correct 4 = .ok (.getfield 271, 3) := by decide +kernel
theorem dX9_correct_7 : decode cX9_correct 7 = .ok (.iconst 1, 1) := by decide +kernel
theorem dX9_correct_8 : decode cX9_correct 8 = .ok (.isub, 1) := by decide +kernel
theorem dX9_correct_9 : decode cX9_correct 9 = .ok (.invokestatic 130, 3) := by decide +kernel
theorem dX9_correct_12 : decode cX9_correct 12 = .ok (.ifCond .ne 7, 3) := by decide +kernel
theorem dX9_correct_15 : decode cX9_correct 15 = .ok (.iconst 1, 1) := by decide +kernel
theorem dX9_correct_16 : decode cX9_correct 16 = .ok (.goto 34, 3) := by decide +kernel
theorem dX9_correct_19 : decode cX9_correct 19 = .ok (.iload_n 2, 1) := by decide +kernel
theorem dX9_correct_20 : decode cX9_correct 20 = .ok (.iconst 1, 1) := by decide +kernel
theorem dX9_correct_21 : decode cX9_correct 21 = .ok (.bipush 100, 2) := by decide +kernel
theorem dX9_correct_23 : decode cX9_correct 23 = .ok (.invokestatic 130, 3) := by decide +kernel
theorem dX9_correct_26 : decode cX9_correct 26 = .ok (.ifCond .ne 7, 3) := by decide +kernel
theorem dX9_correct_29 : decode cX9_correct 29 = .ok (.iconst 2, 1) := by decide +kernel
theorem dX9_correct_30 : decode cX9_correct 30 = .ok (.goto 20, 3) := by decide +kernel
theorem dX9_correct_33 : decode cX9_correct 33 = .ok (.aload_n 0, 1) := by decide +kernel
theorem dX9_correct_34 : decode cX9_correct 34 = .ok (.getfield 123, 3) := by decide +kernel
theorem dX9_correct_37 : decode cX9_correct 37 = .ok (.bipush 100, 2) := by decide +kernel
theorem dX9_correct_39 : decode cX9_correct 39 = .ok (.iload_n 1, 1) := by decide +kernel
theorem dX9_correct_40 : decode cX9_correct 40 = .ok (.iadd, 1) := by decide +kernel
theorem dX9_correct_41 : decode cX9_correct 41 = .ok (.baload, 1) := by decide +kernel
theorem dX9_correct_42 : decode cX9_correct 42 = .ok (.ifCond .eq 7, 3) := by decide +kernel
theorem dX9_correct_45 : decode cX9_correct 45 = .ok (.iconst 3, 1) := by decide +kernel
theorem dX9_correct_46 : decode cX9_correct 46 = .ok (.goto 4, 3) := by decide +kernel
theorem dX9_correct_49 : decode cX9_correct 49 = .ok (.iconst 0, 1) := by decide +kernel
theorem dX9_correct_50 : decode cX9_correct 50 = .ok (.putfield 126, 3) := by decide +kernel
theorem dX9_correct_53 : decode cX9_correct 53 = .ok (.aload_n 0, 1) := by decide +kernel
theorem dX9_correct_54 : decode cX9_correct 54 = .ok (.getfield 126, 3) := by decide +kernel
theorem dX9_correct_57 : decode cX9_correct 57 = .ok (.ifCond .le 5, 3) := by decide +kernel
theorem dX9_correct_60 : decode cX9_correct 60 = .ok (.iconst 0, 1) := by decide +kernel
theorem dX9_correct_61 : decode cX9_correct 61 = .ok (.ireturn, 1) := by decide +kernel
theorem dX9_correct_62 : decode cX9_correct 62 = .ok (.aload_n 0, 1) := by decide +kernel
theorem dX9_correct_63 : decode cX9_correct 63 = .ok (.getfield 117, 3) := by decide +kernel
theorem dX9_correct_66 : decode cX9_correct 66 = .ok (.bipush 100, 2) := by decide +kernel
theorem dX9_correct_68 : decode cX9_correct 68 = .ok (.iload_n 1, 1) := by decide +kernel
theorem dX9_correct_69 : decode cX9_correct 69 = .ok (.iadd, 1) := by decide +kernel
theorem dX9_correct_70 : decode cX9_correct 70 = .ok (.iaload, 1) := by decide +kernel
theorem dX9_correct_71 : decode cX9_correct 71 = .ok (.istore_n 3, 1) := by decide +kernel
theorem dX9_correct_72 : decode cX9_correct 72 = .ok (.aload_n 0, 1) := by decide +kernel
theorem dX9_correct_73 : decode cX9_correct 73 = .ok (.getfield 117, 3) := by decide +kernel
theorem dX9_correct_76 : decode cX9_correct 76 = .ok (.bipush 100, 2) := by decide +kernel
theorem dX9_correct_78 : decode cX9_correct 78 = .ok (.iload_n 1, 1) := by decide +kernel
theorem dX9_correct_79 : decode cX9_correct 79 = .ok (.iadd, 1) := by decide +kernel
theorem dX9_correct_80 : decode cX9_correct 80 = .ok (.iload_n 2, 1) := by decide +kernel
theorem dX9_correct_81 : decode cX9_correct 81 = .ok (.iastore, 1) := by decide +kernel
theorem dX9_correct_82 : decode cX9_correct 82 = .ok (.aload_n 0, 1) := by decide +kernel
theorem dX9_correct_83 : decode cX9_correct 83 = .ok (.bipush 6, 2) := by decide +kernel
theorem dX9_correct_85 : decode cX9_correct 85 = .ok (.aload_n 0, 1) := by decide +kernel
theorem dX9_correct_86 : decode cX9_correct 86 = .ok (.getfield 102, 3) := by decide +kernel
theorem dX9_correct_89 : decode cX9_correct 89 = .ok (.iload_n 1, 1) := by decide +kernel
theorem dX9_correct_90 : decode cX9_correct 90 = .ok (.iaload, 1) := by decide +kernel
theorem dX9_correct_91 : decode cX9_correct 91 = .ok (.iload_n 1, 1) := by decide +kernel
theorem dX9_correct_92 : decode cX9_correct 92 = .ok (.iload_n 2, 1) := by decide +kernel
theorem dX9_correct_93 : decode cX9_correct 93 = .ok (.invokevirtual 257, 3) := by decide +kernel
theorem dX9_correct_96 : decode cX9_correct 96 = .ok (.iload_n 3, 1) := by decide +kernel
theorem dX9_correct_97 : decode cX9_correct 97 = .ok (.ireturn, 1) := by decide +kernel
theorem dX9_executions_0 : decode cX9_executions 0 = .ok (.aload_n 0, 1) := by decide +kernel
theorem dX9_executions_1 : decode cX9_executions 1 = .ok (.iconst 0, 1) := by decide +kernel
theorem dX9_executions_2 : decode cX9_executions 2 = .ok (.putfield 126, 3) := by decide +kernel
theorem dX9_executions_5 : decode cX9_executions 5 = .ok (.aload_n 0, 1) := by decide +kernel
theorem dX9_executions_6 : decode cX9_executions 6 = .ok (.getfield 271, 3) := by decide +kernel
theorem dX9_executions_9 : decode cX9_executions 9 = .ok (.ireturn, 1) := by decide +kernel
theorem dX9_endDay_0 : decode cX9_endDay 0 = .ok (.aload_n 0, 1) := by decide +kernel
theorem dX9_endDay_1 : decode cX9_endDay 1 = .ok (.iconst 0, 1) := by decide +kernel
theorem dX9_endDay_2 : decode cX9_endDay 2 = .ok (.putfield 126, 3) := by decide +kernel
theorem dX9_endDay_5 : decode cX9_endDay 5 = .ok (.aload_n 0, 1) := by decide +kernel
theorem dX9_endDay_6 : decode cX9_endDay 6 = .ok (.dup, 1) := by decide +kernel
theorem dX9_endDay_7 : decode cX9_endDay 7 = .ok (.getfield 274, 3) := by decide +kernel
theorem dX9_endDay_10 : decode cX9_endDay 10 = .ok (.iconst 1, 1) := by decide +kernel
theorem dX9_endDay_11 : decode cX9_endDay 11 = .ok (.iadd, 1) := by decide +kernel
theorem dX9_endDay_12 : decode cX9_endDay 12 = .ok (.putfield 274, 3) := by decide +kernel
theorem dX9_endDay_15 : decode cX9_endDay 15 = .ok (.aload_n 0, 1) := by decide +kernel
theorem dX9_endDay_16 : decode cX9_endDay 16 = .ok (.getfield 274, 3) := by decide +kernel
theorem dX9_endDay_19 : decode cX9_endDay 19 = .ok (.ireturn, 1) := by decide +kernel
theorem dX9_orders_0 : decode cX9_orders 0 = .ok (.aload_n 0, 1) := by decide +kernel
theorem dX9_orders_1 : decode cX9_orders 1 = .ok (.iconst 0, 1) := by decide +kernel
theorem dX9_orders_2 : decode cX9_orders 2 = .ok (.putfield 126, 3) := by decide +kernel
theorem dX9_orders_5 : decode cX9_orders 5 = .ok (.aload_n 0, 1) := by decide +kernel
theorem dX9_orders_6 : decode cX9_orders 6 = .ok (.getfield 134, 3) := by decide +kernel
theorem dX9_orders_9 : decode cX9_orders 9 = .ok (.ireturn, 1) := by decide +kernel
theorem dX9_asksBook_0 : decode cX9_asksBook 0 = .ok (.aload_n 0, 1) := by decide +kernel
theorem dX9_asksBook_1 : decode cX9_asksBook 1 = .ok (.iload_n 1, 1) := by decide +kernel
theorem dX9_asksBook_2 : decode cX9_asksBook 2 = .ok (.invokestatic 191, 3) := by decide +kernel
theorem dX9_asksBook_5 : decode cX9_asksBook 5 = .ok (.ifCond .eq 15, 3) := by decide +kernel
theorem dX9_asksBook_8 : decode cX9_asksBook 8 = .ok (.aload_n 0, 1) := by decide +kernel
theorem dX9_asksBook_9 : decode cX9_asksBook 9 = .ok (.iload_n 2, 1) := by decide +kernel
theorem dX9_asksBook_10 : decode cX9_asksBook 10 = .ok (.invokevirtual 242, 3) := by decide +kernel
theorem dX9_asksBook_13 : decode cX9_asksBook 13 = .ok (.ifCond .eq 7, 3) := by decide +kernel
theorem dX9_asksBook_16 : decode cX9_asksBook 16 = .ok (.iconst 0, 1) := by decide +kernel
theorem dX9_asksBook_17 : decode cX9_asksBook 17 = .ok (.goto 4, 3) := by decide +kernel
theorem dX9_asksBook_20 : decode cX9_asksBook 20 = .ok (.iconst 1, 1) := by decide +kernel
theorem dX9_asksBook_21 : decode cX9_asksBook 21 = .ok (.putfield 126, 3) := by decide +kernel
theorem dX9_asksBook_24 : decode cX9_asksBook 24 = .ok (.aload_n 0, 1) := by decide +kernel
theorem dX9_asksBook_25 : decode cX9_asksBook 25 = .ok (.getfield 126, 3) := by decide +kernel
theorem dX9_asksBook_28 : decode cX9_asksBook 28 = .ok (.ifCond .ne 7, 3) := by decide +kernel
theorem dX9_asksBook_31 : decode cX9_asksBook 31 = .ok (.iconst 1, 1) := by decide +kernel
theorem dX9_asksBook_32 : decode cX9_asksBook 32 = .ok (.goto 4, 3) := by decide +kernel
theorem dX9_asksBook_35 : decode cX9_asksBook 35 = .ok (.iconst 0, 1) := by decide +kernel
theorem dX9_asksBook_36 : decode cX9_asksBook 36 = .ok (.ireturn, 1) := by decide +kernel
theorem dX9_isNone_0 : decode cX9_isNone 0 = .ok (.iload_n 1, 1) := by decide +kernel
theorem dX9_isNone_1 : decode cX9_isNone 1 = .ok (.iconst 1, 1) := by decide +kernel
theorem dX9_isNone_2 : decode cX9_isNone 2 = .ok (.if_icmp .ne 19, 3) := by decide +kernel
theorem dX9_isNone_5 : decode cX9_isNone 5 = .ok (.aload_n 0, 1) := by decide +kernel
theorem dX9_isNone_6 : decode cX9_isNone 6 = .ok (.getfield 72, 3) := by decide +kernel
theorem dX9_isNone_9 : decode cX9_isNone 9 = .ok (.bipush 40, 2) := by decide +kernel
theorem dX9_isNone_11 : decode cX9_isNone 11 = .ok (.iload_n 2, 1) := by decide +kernel
theorem dX9_isNone_12 : decode cX9_isNone 12 = .ok (.iadd, 1) := by decide +kernel
theorem dX9_isNone_13 : decode cX9_isNone 13 = .ok (.baload, 1) := by decide +kernel
theorem dX9_isNone_14 : decode cX9_isNone 14 = .ok (.ifCond .ne 7, 3) := by decide +kernel
theorem dX9_isNone_17 : decode cX9_isNone 17 = .ok (.iconst 1, 1) := by decide +kernel
theorem dX9_isNone_18 : decode cX9_isNone 18 = .ok (.goto 4, 3) := by decide +kernel
theorem dX9_isNone_21 : decode cX9_isNone 21 = .ok (.iconst 0, 1) := by decide +kernel
theorem dX9_isNone_22 : decode cX9_isNone 22 = .ok (.ireturn, 1) := by decide +kernel
theorem dX9_leftOf_0 : decode cX9_leftOf 0 = .ok (.aload_n 0, 1) := by decide +kernel
theorem dX9_leftOf_1 : decode cX9_leftOf 1 = .ok (.iload_n 1, 1) := by decide +kernel
theorem dX9_leftOf_2 : decode cX9_leftOf 2 = .ok (.iload_n 2, 1) := by decide +kernel
theorem dX9_leftOf_3 : decode cX9_leftOf 3 = .ok (.invokevirtual 297, 3) := by decide +kernel
theorem dX9_leftOf_6 : decode cX9_leftOf 6 = .ok (.ifCond .eq 7, 3) := by decide +kernel
theorem dX9_leftOf_9 : decode cX9_leftOf 9 = .ok (.iconst (-1), 1) := by decide +kernel
theorem dX9_leftOf_10 : decode cX9_leftOf 10 = .ok (.goto 29, 3) := by decide +kernel
theorem dX9_leftOf_13 : decode cX9_leftOf 13 = .ok (.iload_n 1, 1) := by decide +kernel
theorem dX9_leftOf_14 : decode cX9_leftOf 14 = .ok (.ifCond .ne 15, 3) := by decide +kernel
theorem dX9_leftOf_17 : decode cX9_leftOf 17 = .ok (.aload_n 0, 1) := by decide +kernel
theorem dX9_leftOf_18 : decode cX9_leftOf 18 = .ok (.iload_n 2, 1) := by decide +kernel
theorem dX9_leftOf_19 : decode cX9_leftOf 19 = .ok (.invokevirtual 233, 3) := by decide +kernel
theorem dX9_leftOf_22 : decode cX9_leftOf 22 = .ok (.ifCond .eq 7, 3) := by decide +kernel
theorem dX9_leftOf_25 : decode cX9_leftOf 25 = .ok (.iconst 0, 1) := by decide +kernel
theorem dX9_leftOf_26 : decode cX9_leftOf 26 = .ok (.goto 13, 3) := by decide +kernel
theorem dX9_leftOf_29 : decode cX9_leftOf 29 = .ok (.aload_n 0, 1) := by decide +kernel
theorem dX9_leftOf_30 : decode cX9_leftOf 30 = .ok (.bipush 40, 2) := by decide +kernel
theorem dX9_leftOf_32 : decode cX9_leftOf 32 = .ok (.iload_n 1, 1) := by decide +kernel
theorem dX9_leftOf_33 : decode cX9_leftOf 33 = .ok (.imul, 1) := by decide +kernel
theorem dX9_leftOf_34 : decode cX9_leftOf 34 = .ok (.iload_n 2, 1) := by decide +kernel
theorem dX9_leftOf_35 : decode cX9_leftOf 35 = .ok (.iadd, 1) := by decide +kernel
theorem dX9_leftOf_36 : decode cX9_leftOf 36 = .ok (.invokevirtual 236, 3) := by decide +kernel
theorem dX9_leftOf_39 : decode cX9_leftOf 39 = .ok (.ireturn, 1) := by decide +kernel
theorem dX9_left_0 : decode cX9_left 0 = .ok (.aload_n 0, 1) := by decide +kernel
theorem dX9_left_1 : decode cX9_left 1 = .ok (.iload_n 1, 1) := by decide +kernel
theorem dX9_left_2 : decode cX9_left 2 = .ok (.iload_n 2, 1) := by decide +kernel
theorem dX9_left_3 : decode cX9_left 3 = .ok (.invokevirtual 300, 3) := by decide +kernel
theorem dX9_left_6 : decode cX9_left 6 = .ok (.ifCond .eq 12, 3) := by decide +kernel
theorem dX9_left_9 : decode cX9_left 9 = .ok (.aload_n 0, 1) := by decide +kernel
theorem dX9_left_10 : decode cX9_left 10 = .ok (.iload_n 1, 1) := by decide +kernel
theorem dX9_left_11 : decode cX9_left 11 = .ok (.iload_n 2, 1) := by decide +kernel
theorem dX9_left_12 : decode cX9_left 12 = .ok (.invokevirtual 303, 3) := by decide +kernel
theorem dX9_left_15 : decode cX9_left 15 = .ok (.goto 4, 3) := by decide +kernel
theorem dX9_left_18 : decode cX9_left 18 = .ok (.iconst 0, 1) := by decide +kernel
theorem dX9_left_19 : decode cX9_left 19 = .ok (.ireturn, 1) := by decide +kernel
theorem dX9_doneOf_0 : decode cX9_doneOf 0 = .ok (.aload_n 0, 1) := by decide +kernel
theorem dX9_doneOf_1 : decode cX9_doneOf 1 = .ok (.iload_n 1, 1) := by decide +kernel
theorem dX9_doneOf_2 : decode cX9_doneOf 2 = .ok (.iload_n 2, 1) := by decide +kernel
theorem dX9_doneOf_3 : decode cX9_doneOf 3 = .ok (.invokevirtual 297, 3) := by decide +kernel
theorem dX9_doneOf_6 : decode cX9_doneOf 6 = .ok (.ifCond .eq 7, 3) := by decide +kernel
theorem dX9_doneOf_9 : decode cX9_doneOf 9 = .ok (.iconst (-1), 1) := by decide +kernel
theorem dX9_doneOf_10 : decode cX9_doneOf 10 = .ok (.goto 14, 3) := by decide +kernel
theorem dX9_doneOf_13 : decode cX9_doneOf 13 = .ok (.aload_n 0, 1) := by decide +kernel
theorem dX9_doneOf_14 : decode cX9_doneOf 14 = .ok (.getfield 81, 3) := by decide +kernel
theorem dX9_doneOf_17 : decode cX9_doneOf 17 = .ok (.bipush 40, 2) := by decide +kernel
theorem dX9_doneOf_19 : decode cX9_doneOf 19 = .ok (.iload_n 1, 1) := by decide +kernel
theorem dX9_doneOf_20 : decode cX9_doneOf 20 = .ok (.imul, 1) := by decide +kernel
theorem dX9_doneOf_21 : decode cX9_doneOf 21 = .ok (.iload_n 2, 1) := by decide +kernel
theorem dX9_doneOf_22 : decode cX9_doneOf 22 = .ok (.iadd, 1) := by decide +kernel
theorem dX9_doneOf_23 : decode cX9_doneOf 23 = .ok (.iaload, 1) := by decide +kernel
theorem dX9_doneOf_24 : decode cX9_doneOf 24 = .ok (.ireturn, 1) := by decide +kernel
theorem dX9_done_0 : decode cX9_done 0 = .ok (.aload_n 0, 1) := by decide +kernel
theorem dX9_done_1 : decode cX9_done 1 = .ok (.iload_n 1, 1) := by decide +kernel
theorem dX9_done_2 : decode cX9_done 2 = .ok (.iload_n 2, 1) := by decide +kernel
theorem dX9_done_3 : decode cX9_done 3 = .ok (.invokevirtual 300, 3) := by decide +kernel
theorem dX9_done_6 : decode cX9_done 6 = .ok (.ifCond .eq 12, 3) := by decide +kernel
theorem dX9_done_9 : decode cX9_done 9 = .ok (.aload_n 0, 1) := by decide +kernel
theorem dX9_done_10 : decode cX9_done 10 = .ok (.iload_n 1, 1) := by decide +kernel
theorem dX9_done_11 : decode cX9_done 11 = .ok (.iload_n 2, 1) := by decide +kernel
theorem dX9_done_12 : decode cX9_done 12 = .ok (.invokevirtual 306, 3) := by decide +kernel
theorem dX9_done_15 : decode cX9_done 15 = .ok (.goto 4, 3) := by decide +kernel
theorem dX9_done_18 : decode cX9_done 18 = .ok (.iconst 0, 1) := by decide +kernel
theorem dX9_done_19 : decode cX9_done 19 = .ok (.ireturn, 1) := by decide +kernel
theorem dX9_doneByLog_0 : decode cX9_doneByLog 0 = .ok (.aload_n 0, 1) := by decide +kernel
theorem dX9_doneByLog_1 : decode cX9_doneByLog 1 = .ok (.iload_n 1, 1) := by decide +kernel
theorem dX9_doneByLog_2 : decode cX9_doneByLog 2 = .ok (.iload_n 2, 1) := by decide +kernel
theorem dX9_doneByLog_3 : decode cX9_doneByLog 3 = .ok (.invokevirtual 300, 3) := by decide +kernel
theorem dX9_doneByLog_6 : decode cX9_doneByLog 6 = .ok (.ifCond .eq 12, 3) := by decide +kernel
theorem dX9_doneByLog_9 : decode cX9_doneByLog 9 = .ok (.aload_n 0, 1) := by decide +kernel
theorem dX9_doneByLog_10 : decode cX9_doneByLog 10 = .ok (.iload_n 1, 1) := by decide +kernel
theorem dX9_doneByLog_11 : decode cX9_doneByLog 11 = .ok (.iload_n 2, 1) := by decide +kernel
theorem dX9_doneByLog_12 : decode cX9_doneByLog 12 = .ok (.invokevirtual 306, 3) := by decide +kernel
theorem dX9_doneByLog_15 : decode cX9_doneByLog 15 = .ok (.goto 4, 3) := by decide +kernel
theorem dX9_doneByLog_18 : decode cX9_doneByLog 18 = .ok (.iconst 0, 1) := by decide +kernel
theorem dX9_doneByLog_19 : decode cX9_doneByLog 19 = .ok (.ireturn, 1) := by decide +kernel
theorem dX9_out_0 : decode cX9_out 0 = .ok (.aload_n 0, 1) := by decide +kernel
theorem dX9_out_1 : decode cX9_out 1 = .ok (.iload_n 1, 1) := by decide +kernel
theorem dX9_out_2 : decode cX9_out 2 = .ok (.iload_n 2, 1) := by decide +kernel
theorem dX9_out_3 : decode cX9_out 3 = .ok (.invokevirtual 300, 3) := by decide +kernel
theorem dX9_out_6 : decode cX9_out 6 = .ok (.ifCond .ne 7, 3) := by decide +kernel
theorem dX9_out_9 : decode cX9_out 9 = .ok (.iconst 0, 1) := by decide +kernel
theorem dX9_out_10 : decode cX9_out 10 = .ok (.goto 27, 3) := by decide +kernel
theorem dX9_out_13 : decode cX9_out 13 = .ok (.aload_n 0, 1) := by decide +kernel
theorem dX9_out_14 : decode cX9_out 14 = .ok (.iload_n 1, 1) := by decide +kernel
theorem dX9_out_15 : decode cX9_out 15 = .ok (.iload_n 2, 1) := by decide +kernel
theorem dX9_out_16 : decode cX9_out 16 = .ok (.invokevirtual 297, 3) := by decide +kernel
theorem dX9_out_19 : decode cX9_out 19 = .ok (.ifCond .eq 7, 3) := by decide +kernel
theorem dX9_out_22 : decode cX9_out 22 = .ok (.iconst (-1), 1) := by decide +kernel
theorem dX9_out_23 : decode cX9_out 23 = .ok (.goto 14, 3) := by decide +kernel
theorem dX9_out_26 : decode cX9_out 26 = .ok (.aload_n 0, 1) := by decide +kernel
theorem dX9_out_27 : decode cX9_out 27 = .ok (.getfield 84, 3) := by decide +kernel
theorem dX9_out_30 : decode cX9_out 30 = .ok (.bipush 40, 2) := by decide +kernel
theorem dX9_out_32 : decode cX9_out 32 = .ok (.iload_n 1, 1) := by decide +kernel
theorem dX9_out_33 : decode cX9_out 33 = .ok (.imul, 1) := by decide +kernel
theorem dX9_out_34 : decode cX9_out 34 = .ok (.iload_n 2, 1) := by decide +kernel
theorem dX9_out_35 : decode cX9_out 35 = .ok (.iadd, 1) := by decide +kernel
theorem dX9_out_36 : decode cX9_out 36 = .ok (.iaload, 1) := by decide +kernel
theorem dX9_out_37 : decode cX9_out 37 = .ok (.ireturn, 1) := by decide +kernel
theorem dX9_venues_0 : decode cX9_venues 0 = .ok (.iconst 0, 1) := by decide +kernel
theorem dX9_venues_1 : decode cX9_venues 1 = .ok (.istore_n 2, 1) := by decide +kernel
theorem dX9_venues_2 : decode cX9_venues 2 = .ok (.iconst 0, 1) := by decide +kernel
theorem dX9_venues_3 : decode cX9_venues 3 = .ok (.istore_n 3, 1) := by decide +kernel
theorem dX9_venues_4 : decode cX9_venues 4 = .ok (.aload_n 0, 1) := by decide +kernel
theorem dX9_venues_5 : decode cX9_venues 5 = .ok (.iload_n 1, 1) := by decide +kernel
theorem dX9_venues_6 : decode cX9_venues 6 = .ok (.invokevirtual 248, 3) := by decide +kernel
theorem dX9_venues_9 : decode cX9_venues 9 = .ok (.ifCond .eq 42, 3) := by decide +kernel
theorem dX9_venues_12 : decode cX9_venues 12 = .ok (.iload_n 3, 1) := by decide +kernel
theorem dX9_venues_13 : decode cX9_venues 13 = .ok (.aload_n 0, 1) := by decide +kernel
theorem dX9_venues_14 : decode cX9_venues 14 = .ok (.getfield 271, 3) := by decide +kernel
theorem dX9_venues_17 : decode cX9_venues 17 = .ok (.if_icmp .ge 34, 3) := by decide +kernel
theorem dX9_venues_20 : decode cX9_venues 20 = .ok (.iload_n 2, 1) := by decide +kernel
theorem dX9_venues_21 : decode cX9_venues 21 = .ok (.aload_n 0, 1) := by decide +kernel
theorem dX9_venues_22 : decode cX9_venues 22 = .ok (.getfield 102, 3) := by decide +kernel
theorem dX9_venues_25 : decode cX9_venues 25 = .ok (.iload_n 3, 1) := by decide +kernel
theorem dX9_venues_26 : decode cX9_venues 26 = .ok (.iaload, 1) := by decide +kernel
theorem dX9_venues_27 : decode cX9_venues 27 = .ok (.iload_n 1, 1) := by decide +kernel
theorem dX9_venues_28 : decode cX9_venues 28 = .ok (.if_icmp .ne 14, 3) := by decide +kernel
theorem dX9_venues_31 : decode cX9_venues 31 = .ok (.iconst 1, 1) := by decide +kernel
theorem dX9_venues_32 : decode cX9_venues 32 = .ok (.aload_n 0, 1) := by decide +kernel
theorem dX9_venues_33 : decode cX9_venues 33 = .ok (.getfield 105, 3) := by decide +kernel
theorem dX9_venues_36 : decode cX9_venues 36 = .ok (.iload_n 3, 1) := by decide +kernel
theorem dX9_venues_37 : decode cX9_venues 37 = .ok (.iaload, 1) := by decide +kernel
theorem dX9_venues_38 : decode cX9_venues 38 = .ok (.ishl, 1) := by decide +kernel
theorem dX9_venues_39 : decode cX9_venues 39 = .ok (.goto 4, 3) := by decide +kernel
theorem dX9_venues_42 : decode cX9_venues 42 = .ok (.iconst 0, 1) := by decide +kernel
theorem dX9_venues_43 : decode cX9_venues 43 = .ok (.ior, 1) := by decide +kernel
theorem dX9_venues_44 : decode cX9_venues 44 = .ok (.istore_n 2, 1) := by decide +kernel
theorem dX9_venues_45 : decode cX9_venues 45 = .ok (.iinc 3 1, 3) := by decide +kernel
theorem dX9_venues_48 : decode cX9_venues 48 = .ok (.goto (-44), 3) := by decide +kernel
theorem dX9_venues_51 : decode cX9_venues 51 = .ok (.iload_n 2, 1) := by decide +kernel
theorem dX9_venues_52 : decode cX9_venues 52 = .ok (.iconst 1, 1) := by decide +kernel
theorem dX9_venues_53 : decode cX9_venues 53 = .ok (.iand, 1) := by decide +kernel
theorem dX9_venues_54 : decode cX9_venues 54 = .ok (.iload_n 2, 1) := by decide +kernel
theorem dX9_venues_55 : decode cX9_venues 55 = .ok (.iconst 1, 1) := by decide +kernel
theorem dX9_venues_56 : decode cX9_venues 56 = .ok (.ishr, 1) := by decide +kernel
theorem dX9_venues_57 : decode cX9_venues 57 = .ok (.iconst 1, 1) := by decide +kernel
theorem dX9_venues_58 : decode cX9_venues 58 = .ok (.iand, 1) := by decide +kernel
theorem dX9_venues_59 : decode cX9_venues 59 = .ok (.iadd, 1) := by decide +kernel
theorem dX9_venues_60 : decode cX9_venues 60 = .ok (.iload_n 2, 1) := by decide +kernel
theorem dX9_venues_61 : decode cX9_venues 61 = .ok (.iconst 2, 1) := by decide +kernel
theorem dX9_venues_62 : decode cX9_venues 62 = .ok (.ishr, 1) := by decide +kernel
theorem dX9_venues_63 : decode cX9_venues 63 = .ok (.iconst 1, 1) := by decide +kernel
theorem dX9_venues_64 : decode cX9_venues 64 = .ok (.iand, 1) := by decide +kernel
theorem dX9_venues_65 : decode cX9_venues 65 = .ok (.iadd, 1) := by decide +kernel
theorem dX9_venues_66 : decode cX9_venues 66 = .ok (.ireturn, 1) := by decide +kernel
theorem dX9_total_0 : decode cX9_total 0 = .ok (.aload_n 0, 1) := by decide +kernel
theorem dX9_total_1 : decode cX9_total 1 = .ok (.iload_n 1, 1) := by decide +kernel
theorem dX9_total_2 : decode cX9_total 2 = .ok (.invokestatic 191, 3) := by decide +kernel
theorem dX9_total_5 : decode cX9_total 5 = .ok (.ifCond .eq 15, 3) := by decide +kernel
theorem dX9_total_8 : decode cX9_total 8 = .ok (.iload_n 2, 1) := by decide +kernel
theorem dX9_total_9 : decode cX9_total 9 = .ok (.iconst 0, 1) := by decide +kernel
theorem dX9_total_10 : decode cX9_total 10 = .ok (.aload_n 0, 1) := by decide +kernel
theorem dX9_total_11 : decode cX9_total 11 = .ok (.getfield 274, 3) := by decide +kernel
theorem dX9_total_14 : decode cX9_total 14 = .ok (.invokestatic 130, 3) := by decide +kernel
theorem dX9_total_17 : decode cX9_total 17 = .ok (.ifCond .ne 7, 3) := by decide +kernel
theorem dX9_total_20 : decode cX9_total 20 = .ok (.iconst 1, 1) := by decide +kernel
theorem dX9_total_21 : decode cX9_total 21 = .ok (.goto 18, 3) := by decide +kernel
theorem dX9_total_24 : decode cX9_total 24 = .ok (.iload 4, 2) := by decide +kernel
theorem dX9_total_26 : decode cX9_total 26 = .ok (.iconst 0, 1) := by decide +kernel
theorem dX9_total_27 : decode cX9_total 27 = .ok (.iconst 1, 1) := by decide +kernel
theorem dX9_total_28 : decode cX9_total 28 = .ok (.invokestatic 130, 3) := by decide +kernel
theorem dX9_total_31 : decode cX9_total 31 = .ok (.ifCond .eq 7, 3) := by decide +kernel
theorem dX9_total_34 : decode cX9_total 34 = .ok (.iconst 0, 1) := by decide +kernel
theorem dX9_total_35 : decode cX9_total 35 = .ok (.goto 4, 3) := by decide +kernel
theorem dX9_total_38 : decode cX9_total 38 = .ok (.iconst 2, 1) := by decide +kernel
theorem dX9_total_39 : decode cX9_total 39 = .ok (.putfield 126, 3) := by decide +kernel
theorem dX9_total_42 : decode cX9_total 42 = .ok (.iconst 0, 1) := by decide +kernel
theorem dX9_total_43 : decode cX9_total 43 = .ok (.istore 5, 2) := by decide +kernel
theorem dX9_total_45 : decode cX9_total 45 = .ok (.iconst 0, 1) := by decide +kernel
theorem dX9_total_46 : decode cX9_total 46 = .ok (.istore 6, 2) := by decide +kernel
theorem dX9_total_48 : decode cX9_total 48 = .ok (.iload 6, 2) := by decide +kernel
theorem dX9_total_50 : decode cX9_total 50 = .ok (.aload_n 0, 1) := by decide +kernel
theorem dX9_total_51 : decode cX9_total 51 = .ok (.getfield 271, 3) := by decide +kernel
theorem dX9_total_54 : decode cX9_total 54 = .ok (.if_icmp .ge 117, 3) := by decide +kernel
theorem dX9_total_57 : decode cX9_total 57 = .ok (.aload_n 0, 1) := by decide +kernel
theorem dX9_total_58 : decode cX9_total 58 = .ok (.getfield 126, 3) := by decide +kernel
theorem dX9_total_61 : decode cX9_total 61 = .ok (.ifCond .ne 110, 3) := by decide +kernel
theorem dX9_total_64 : decode cX9_total 64 = .ok (.bipush 100, 2) := by decide +kernel
theorem dX9_total_66 : decode cX9_total 66 = .ok (.iload_n 1, 1) := by decide +kernel
theorem dX9_total_67 : decode cX9_total 67 = .ok (.imul, 1) := by decide +kernel
theorem dX9_total_68 : decode cX9_total 68 = .ok (.iload 6, 2) := by decide +kernel
theorem dX9_total_70 : decode cX9_total 70 = .ok (.iadd, 1) := by decide +kernel
theorem dX9_total_71 : decode cX9_total 71 = .ok (.istore 7, 2) := by decide +kernel
theorem dX9_total_73 : decode cX9_total 73 = .ok (.aload_n 0, 1) := by decide +kernel
theorem dX9_total_74 : decode cX9_total 74 = .ok (.getfield 120, 3) := by decide +kernel
theorem dX9_total_77 : decode cX9_total 77 = .ok (.iload 7, 2) := by decide +kernel
theorem dX9_total_79 : decode cX9_total 79 = .ok (.baload, 1) := by decide +kernel
theorem dX9_total_80 : decode cX9_total 80 = .ok (.ifCond .eq 44, 3) := by decide +kernel
theorem dX9_total_83 : decode cX9_total 83 = .ok (.aload_n 0, 1) := by decide +kernel
theorem dX9_total_84 : decode cX9_total 84 = .ok (.getfield 123, 3) := by decide +kernel
theorem dX9_total_87 : decode cX9_total 87 = .ok (.iload 7, 2) := by decide +kernel
theorem dX9_total_89 : decode cX9_total 89 = .ok (.baload, 1) := by decide +kernel
theorem dX9_total_90 : decode cX9_total 90 = .ok (.ifCond .ne 34, 3) := by decide +kernel
theorem dX9_total_93 : decode cX9_total 93 = .ok (.aload_n 0, 1) := by decide +kernel
theorem dX9_total_94 : decode cX9_total 94 = .ok (.getfield 108, 3) := by decide +kernel
theorem dX9_total_97 : decode cX9_total 97 = .ok (.iload 6, 2) := by decide +kernel
theorem dX9_total_99 : decode cX9_total 99 = .ok (.iaload, 1) := by decide +kernel
theorem dX9_total_100 : decode cX9_total 100 = .ok (.iload_n 2, 1) := by decide +kernel
theorem dX9_total_101 : decode cX9_total 101 = .ok (.if_icmp .ne 23, 3) := by decide +kernel
theorem dX9_total_104 : decode cX9_total 104 = .ok (.aload_n 0, 1) := by decide +kernel
theorem dX9_total_105 : decode cX9_total 105 = .ok (.getfield 69, 3) := by decide +kernel
theorem dX9_total_108 : decode cX9_total 108 = .ok (.aload_n 0, 1) := by decide +kernel
theorem dX9_total_109 : decode cX9_total 109 = .ok (.getfield 102, 3) := by decide +kernel
theorem dX9_total_112 : decode cX9_total 112 = .ok (.iload 6, 2) := by decide +kernel
theorem dX9_total_114 : decode cX9_total 114 = .ok (.iaload, 1) := by decide +kernel
theorem dX9_total_115 : decode cX9_total 115 = .ok (.baload, 1) := by decide +kernel
theorem dX9_total_116 : decode cX9_total 116 = .ok (.iload_n 3, 1) := by decide +kernel
theorem dX9_total_117 : decode cX9_total 117 = .ok (.if_icmp .ne 7, 3) := by decide +kernel
theorem dX9_total_120 : decode cX9_total 120 = .ok (.iconst 1, 1) := by decide +kernel
theorem dX9_total_121 : decode cX9_total 121 = .ok (.goto 4, 3) := by decide +kernel
theorem dX9_total_124 : decode cX9_total 124 = .ok (.iconst 0, 1) := by decide +kernel
theorem dX9_total_125 : decode cX9_total 125 = .ok (.istore 8, 2) := by decide +kernel
theorem dX9_total_127 : decode cX9_total 127 = .ok (.iload 5, 2) := by decide +kernel
theorem dX9_total_129 : decode cX9_total 129 = .ok (.iload 8, 2) := by decide +kernel
theorem dX9_total_131 : decode cX9_total 131 = .ok (.ifCond .eq 30, 3) := by decide +kernel
theorem dX9_total_134 : decode cX9_total 134 = .ok (.aload_n 0, 1) := by decide +kernel
theorem dX9_total_135 : decode cX9_total 135 = .ok (.getfield 111, 3) := by decide +kernel
theorem dX9_total_138 : decode cX9_total 138 = .ok (.iload 6, 2) := by decide +kernel
theorem dX9_total_140 : decode cX9_total 140 = .ok (.iaload, 1) := by decide +kernel
theorem dX9_total_141 : decode cX9_total 141 = .ok (.iload 4, 2) := by decide +kernel
theorem dX9_total_143 : decode cX9_total 143 = .ok (.ifCond .ne 7, 3) := by decide +kernel
theorem dX9_total_146 : decode cX9_total 146 = .ok (.iconst 1, 1) := by decide +kernel
theorem dX9_total_147 : decode cX9_total 147 = .ok (.goto 10, 3) := by decide +kernel
theorem dX9_total_150 : decode cX9_total 150 = .ok (.aload_n 0, 1) := by decide +kernel
theorem dX9_total_151 : decode cX9_total 151 = .ok (.getfield 117, 3) := by decide +kernel
theorem dX9_total_154 : decode cX9_total 154 = .ok (.iload 7, 2) := by decide +kernel
theorem dX9_total_156 : decode cX9_total 156 = .ok (.iaload, 1) := by decide +kernel
theorem dX9_total_157 : decode cX9_total 157 = .ok (.imul, 1) := by decide +kernel
theorem dX9_total_158 : decode cX9_total 158 = .ok (.goto 4, 3) := by decide +kernel
theorem dX9_total_161 : decode cX9_total 161 = .ok (.iconst 0, 1) := by decide +kernel
theorem dX9_total_162 : decode cX9_total 162 = .ok (.iadd, 1) := by decide +kernel
theorem dX9_total_163 : decode cX9_total 163 = .ok (.istore 5, 2) := by decide +kernel
theorem dX9_total_165 : decode cX9_total 165 = .ok (.iinc 6 1, 3) := by decide +kernel
theorem dX9_total_168 : decode cX9_total 168 = .ok (.goto (-120), 3) := by decide +kernel
theorem dX9_total_171 : decode cX9_total 171 = .ok (.iload 5, 2) := by decide +kernel
theorem dX9_total_173 : decode cX9_total 173 = .ok (.ireturn, 1) := by decide +kernel
theorem dX9_agree_0 : decode cX9_agree 0 = .ok (.aload_n 0, 1) := by decide +kernel
theorem dX9_agree_1 : decode cX9_agree 1 = .ok (.iconst 0, 1) := by decide +kernel
theorem dX9_agree_2 : decode cX9_agree 2 = .ok (.putfield 126, 3) := by decide +kernel
theorem dX9_agree_5 : decode cX9_agree 5 = .ok (.iconst 1, 1) := by decide +kernel
theorem dX9_agree_6 : decode cX9_agree 6 = .ok (.istore_n 1, 1) := by decide +kernel
theorem dX9_agree_7 : decode cX9_agree 7 = .ok (.iconst 0, 1) := by decide +kernel
theorem dX9_agree_8 : decode cX9_agree 8 = .ok (.istore_n 2, 1) := by decide +kernel
theorem dX9_agree_9 : decode cX9_agree 9 = .ok (.iload_n 2, 1) := by decide +kernel
theorem dX9_agree_10 : decode cX9_agree 10 = .ok (.aload_n 0, 1) := by decide +kernel
theorem dX9_agree_11 : decode cX9_agree 11 = .ok (.getfield 134, 3) := by decide +kernel
theorem dX9_agree_14 : decode cX9_agree 14 = .ok (.if_icmp .ge 94, 3) := by decide +kernel
theorem dX9_agree_17 : decode cX9_agree 17 = .ok (.aload_n 0, 1) := by decide +kernel
theorem dX9_agree_18 : decode cX9_agree 18 = .ok (.iconst 0, 1) := by decide +kernel
theorem dX9_agree_19 : decode cX9_agree 19 = .ok (.iload_n 2, 1) := by decide +kernel
theorem dX9_agree_20 : decode cX9_agree 20 = .ok (.invokevirtual 303, 3) := by decide +kernel
theorem dX9_agree_23 : decode cX9_agree 23 = .ok (.aload_n 0, 1) := by decide +kernel
theorem dX9_agree_24 : decode cX9_agree 24 = .ok (.bipush 40, 2) := by decide +kernel
theorem dX9_agree_26 : decode cX9_agree 26 = .ok (.iload_n 2, 1) := by decide +kernel
theorem dX9_agree_27 : decode cX9_agree 27 = .ok (.iadd, 1) := by decide +kernel
theorem dX9_agree_28 : decode cX9_agree 28 = .ok (.invokevirtual 236, 3) := by decide +kernel
theorem dX9_agree_31 : decode cX9_agree 31 = .ok (.if_icmp .ne 43, 3) := by decide +kernel
theorem dX9_agree_34 : decode cX9_agree 34 = .ok (.aload_n 0, 1) := by decide +kernel
theorem dX9_agree_35 : decode cX9_agree 35 = .ok (.getfield 81, 3) := by decide +kernel
theorem dX9_agree_38 : decode cX9_agree 38 = .ok (.iload_n 2, 1) := by decide +kernel
theorem dX9_agree_39 : decode cX9_agree 39 = .ok (.iaload, 1) := by decide +kernel
theorem dX9_agree_40 : decode cX9_agree 40 = .ok (.aload_n 0, 1) := by decide +kernel
theorem dX9_agree_41 : decode cX9_agree 41 = .ok (.getfield 81, 3) := by decide +kernel
theorem dX9_agree_44 : decode cX9_agree 44 = .ok (.bipush 40, 2) := by decide +kernel
theorem dX9_agree_46 : decode cX9_agree 46 = .ok (.iload_n 2, 1) := by decide +kernel
theorem dX9_agree_47 : decode cX9_agree 47 = .ok (.iadd, 1) := by decide +kernel
theorem dX9_agree_48 : decode cX9_agree 48 = .ok (.iaload, 1) := by decide +kernel
theorem dX9_agree_49 : decode cX9_agree 49 = .ok (.if_icmp .ne 25, 3) := by decide +kernel
theorem dX9_agree_52 : decode cX9_agree 52 = .ok (.aload_n 0, 1) := by decide +kernel
theorem dX9_agree_53 : decode cX9_agree 53 = .ok (.getfield 84, 3) := by decide +kernel
theorem dX9_agree_56 : decode cX9_agree 56 = .ok (.iload_n 2, 1) := by decide +kernel
theorem dX9_agree_57 : decode cX9_agree 57 = .ok (.iaload, 1) := by decide +kernel
theorem dX9_agree_58 : decode cX9_agree 58 = .ok (.aload_n 0, 1) := by decide +kernel
theorem dX9_agree_59 : decode cX9_agree 59 = .ok (.getfield 84, 3) := by decide +kernel
theorem dX9_agree_62 : decode cX9_agree 62 = .ok (.bipush 40, 2) := by decide +kernel
theorem dX9_agree_64 : decode cX9_agree 64 = .ok (.iload_n 2, 1) := by decide +kernel
theorem dX9_agree_65 : decode cX9_agree 65 = .ok (.iadd, 1) := by decide +kernel
theorem dX9_agree_66 : decode cX9_agree 66 = .ok (.iaload, 1) := by decide +kernel
theorem dX9_agree_67 : decode cX9_agree 67 = .ok (.if_icmp .ne 7, 3) := by decide +kernel
theorem dX9_agree_70 : decode cX9_agree 70 = .ok (.iconst 1, 1) := by decide +kernel
theorem dX9_agree_71 : decode cX9_agree 71 = .ok (.goto 4, 3) := by decide +kernel
theorem dX9_agree_74 : decode cX9_agree 74 = .ok (.iconst 0, 1) := by decide +kernel
theorem dX9_agree_75 : decode cX9_agree 75 = .ok (.istore_n 3, 1) := by decide +kernel
theorem dX9_agree_76 : decode cX9_agree 76 = .ok (.iload_n 1, 1) := by decide +kernel
theorem dX9_agree_77 : decode cX9_agree 77 = .ok (.ifCond .eq 23, 3) := by decide +kernel
theorem dX9_agree_80 : decode cX9_agree 80 = .ok (.iload_n 3, 1) := by decide +kernel
theorem dX9_agree_81 : decode cX9_agree 81 = .ok (.ifCond .ne 15, 3) := by decide +kernel
theorem dX9_agree_84 : decode cX9_agree 84 = .ok (.aload_n 0, 1) := by decide +kernel
theorem dX9_agree_85 : decode cX9_agree 85 = .ok (.getfield 72, 3) := by decide +kernel
theorem dX9_agree_88 : decode cX9_agree 88 = .ok (.bipush 40, 2) := by decide +kernel
theorem dX9_agree_90 : decode cX9_agree 90 = .ok (.iload_n 2, 1) := by decide +kernel
theorem dX9_agree_91 : decode cX9_agree 91 = .ok (.iadd, 1) := by decide +kernel
theorem dX9_agree_92 : decode cX9_agree 92 = .ok (.baload, 1) := by decide +kernel
theorem dX9_agree_93 : decode cX9_agree 93 = .ok (.ifCond .ne 7, 3) := by decide +kernel
theorem dX9_agree_96 : decode cX9_agree 96 = .ok (.iconst 1, 1) := by decide +kernel
theorem dX9_agree_97 : decode cX9_agree 97 = .ok (.goto 4, 3) := by decide +kernel
theorem dX9_agree_100 : decode cX9_agree 100 = .ok (.iconst 0, 1) := by decide +kernel
theorem dX9_agree_101 : decode cX9_agree 101 = .ok (.istore_n 1, 1) := by decide +kernel
theorem dX9_agree_102 : decode cX9_agree 102 = .ok (.iinc 2 1, 3) := by decide +kernel
theorem dX9_agree_105 : decode cX9_agree 105 = .ok (.goto (-96), 3) := by decide +kernel
theorem dX9_agree_108 : decode cX9_agree 108 = .ok (.iload_n 1, 1) := by decide +kernel
theorem dX9_agree_109 : decode cX9_agree 109 = .ok (.ireturn, 1) := by decide +kernel
