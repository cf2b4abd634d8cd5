theorem dX12_init_135 : decode cX12_init 135 = .ok (.dup, 1) := by decide +kernel
theorem dX12_init_136 : decode cX12_init 136 = .ok (.iconst 2, 1) := by decide +kernel
theorem dX12_init_137 : decode cX12_init 137 = .ok (.bipush 8, 2) := by decide +kernel
theorem dX12_init_139 : decode cX12_init 139 = .ok (.iastore, 1) := by decide +kernel
theorem dX12_init_140 : decode cX12_init 140 = .ok (.dup, 1) := by decide +kernel
theorem dX12_init_141 : decode cX12_init 141 = .ok (.iconst 3, 1) := by decide +kernel
theorem dX12_init_142 : decode cX12_init 142 = .ok (.sipush 200, 3) := by decide +kernel
theorem dX12_init_145 : decode cX12_init 145 = .ok (.iastore, 1) := by decide +kernel
theorem dX12_init_146 : decode cX12_init 146 = .ok (.dup, 1) := by decide +kernel
theorem dX12_init_147 : decode cX12_init 147 = .ok (.iconst 4, 1) := by decide +kernel
theorem dX12_init_148 : decode cX12_init 148 = .ok (.bipush 60, 2) := by decide +kernel
theorem dX12_init_150 : decode cX12_init 150 = .ok (.iastore, 1) := by decide +kernel
theorem dX12_init_151 : decode cX12_init 151 = .ok (.dup, 1) := by decide +kernel
theorem dX12_init_152 : decode cX12_init 152 = .ok (.iconst 5, 1) := by decide +kernel
theorem dX12_init_153 : decode cX12_init 153 = .ok (.bipush 120, 2) := by decide +kernel
theorem dX12_init_155 : decode cX12_init 155 = .ok (.iastore, 1) := by decide +kernel
theorem dX12_init_156 : decode cX12_init 156 = .ok (.dup, 1) := by decide +kernel
theorem dX12_init_157 : decode cX12_init 157 = .ok (.bipush 6, 2) := by decide +kernel
theorem dX12_init_159 : decode cX12_init 159 = .ok (.bipush 8, 2) := by decide +kernel
theorem dX12_init_161 : decode cX12_init 161 = .ok (.iastore, 1) := by decide +kernel
theorem dX12_init_162 : decode cX12_init 162 = .ok (.putfield 32, 3) := by decide +kernel
theorem dX12_init_165 : decode cX12_init 165 = .ok (.aload_n 0, 1) := by decide +kernel
theorem dX12_init_166 : decode cX12_init 166 = .ok (.iconst 5, 1) := by decide +kernel
theorem dX12_init_167 : decode cX12_init 167 = .ok (.newarray .int, 2) := by decide +kernel
theorem dX12_init_169 : decode cX12_init 169 = .ok (.putfield 35, 3) := by decide +kernel
theorem dX12_init_172 : decode cX12_init 172 = .ok (.aload_n 0, 1) := by decide +kernel
theorem dX12_init_173 : decode cX12_init 173 = .ok (.bipush 45, 2) := by decide +kernel
theorem dX12_init_175 : decode cX12_init 175 = .ok (.newarray .int, 2) := by decide +kernel
theorem dX12_init_177 : decode cX12_init 177 = .ok (.putfield 38, 3) := by decide +kernel
theorem dX12_init_180 : decode cX12_init 180 = .ok (.aload_n 0, 1) := by decide +kernel
theorem dX12_init_181 : decode cX12_init 181 = .ok (.sipush 360, 3) := by decide +kernel
theorem dX12_init_184 : decode cX12_init 184 = .ok (.newarray .int, 2) := by decide +kernel
theorem dX12_init_186 : decode cX12_init 186 = .ok (.putfield 41, 3) := by decide +kernel
theorem dX12_init_189 : decode cX12_init 189 = .ok (.aload_n 0, 1) := by decide +kernel
theorem dX12_init_190 : decode cX12_init 190 = .ok (.iconst 5, 1) := by decide +kernel
theorem dX12_init_191 : decode cX12_init 191 = .ok (.newarray .boolean, 2) := by decide +kernel
theorem dX12_init_193 : decode cX12_init 193 = .ok (.putfield 44, 3) := by decide +kernel
theorem dX12_init_196 : decode cX12_init 196 = .ok (.aload_n 0, 1) := by decide +kernel
theorem dX12_init_197 : decode cX12_init 197 = .ok (.bipush 40, 2) := by decide +kernel
theorem dX12_init_199 : decode cX12_init 199 = .ok (.newarray .long, 2) := by decide +kernel
theorem dX12_init_201 : decode cX12_init 201 = .ok (.putfield 48, 3) := by decide +kernel
theorem dX12_init_204 : decode cX12_init 204 = .ok (.aload_n 0, 1) := by decide +kernel
theorem dX12_init_205 : decode cX12_init 205 = .ok (.iconst 5, 1) := by decide +kernel
theorem dX12_init_206 : decode cX12_init 206 = .ok (.newarray .int, 2) := by decide +kernel
theorem dX12_init_208 : decode cX12_init 208 = .ok (.putfield 52, 3) := by decide +kernel
theorem dX12_init_211 : decode cX12_init 211 = .ok (.aload_n 0, 1) := by decide +kernel
theorem dX12_init_212 : decode cX12_init 212 = .ok (.bipush 30, 2) := by decide +kernel
theorem dX12_init_214 : decode cX12_init 214 = .ok (.newarray .long, 2) := by decide +kernel
theorem dX12_init_216 : decode cX12_init 216 = .ok (.putfield 55, 3) := by decide +kernel
theorem dX12_init_219 : decode cX12_init 219 = .ok (.aload_n 0, 1) := by decide +kernel
theorem dX12_init_220 : decode cX12_init 220 = .ok (.bipush 32, 2) := by decide +kernel
theorem dX12_init_222 : decode cX12_init 222 = .ok (.newarray .long, 2) := by decide +kernel
theorem dX12_init_224 : decode cX12_init 224 = .ok (.putfield 58, 3) := by decide +kernel
theorem dX12_init_227 : decode cX12_init 227 = .ok (.aload_n 0, 1) := by decide +kernel
theorem dX12_init_228 : decode cX12_init 228 = .ok (.iconst 5, 1) := by decide +kernel
theorem dX12_init_229 : decode cX12_init 229 = .ok (.newarray .int, 2) := by decide +kernel
theorem dX12_init_231 : decode cX12_init 231 = .ok (.putfield 61, 3) := by decide +kernel
theorem dX12_init_234 : decode cX12_init 234 = .ok (.aload_n 0, 1) := by decide +kernel
theorem dX12_init_235 : decode cX12_init 235 = .ok (.sipush 605, 3) := by decide +kernel
theorem dX12_init_238 : decode cX12_init 238 = .ok (.newarray .long, 2) := by decide +kernel
theorem dX12_init_240 : decode cX12_init 240 = .ok (.putfield 64, 3) := by decide +kernel
theorem dX12_init_243 : decode cX12_init 243 = .ok (.aload_n 0, 1) := by decide +kernel
theorem dX12_init_244 : decode cX12_init 244 = .ok (.iconst 5, 1) := by decide +kernel
theorem dX12_init_245 : decode cX12_init 245 = .ok (.newarray .int, 2) := by decide +kernel
theorem dX12_init_247 : decode cX12_init 247 = .ok (.putfield 67, 3) := by decide +kernel
theorem dX12_init_250 : decode cX12_init 250 = .ok (.aload_n 0, 1) := by decide +kernel
theorem dX12_init_251 : decode cX12_init 251 = .ok (.iconst 5, 1) := by decide +kernel
theorem dX12_init_252 : decode cX12_init 252 = .ok (.newarray .int, 2) := by decide +kernel
theorem dX12_init_254 : decode cX12_init 254 = .ok (.putfield 70, 3) := by decide +kernel
theorem dX12_init_257 : decode cX12_init 257 = .ok (.aload_n 0, 1) := by decide +kernel
theorem dX12_init_258 : decode cX12_init 258 = .ok (.iconst 5, 1) := by decide +kernel
theorem dX12_init_259 : decode cX12_init 259 = .ok (.newarray .int, 2) := by decide +kernel
theorem dX12_init_261 : decode cX12_init 261 = .ok (.putfield 73, 3) := by decide +kernel
theorem dX12_init_264 : decode cX12_init 264 = .ok (.aload_n 0, 1) := by decide +kernel
theorem dX12_init_265 : decode cX12_init 265 = .ok (.bipush 30, 2) := by decide +kernel
theorem dX12_init_267 : decode cX12_init 267 = .ok (.newarray .int, 2) := by decide +kernel
theorem dX12_init_269 : decode cX12_init 269 = .ok (.putfield 76, 3) := by decide +kernel
theorem dX12_init_272 : decode cX12_init 272 = .ok (.aload_n 0, 1) := by decide +kernel
theorem dX12_init_273 : decode cX12_init 273 = .ok (.bipush 30, 2) := by decide +kernel
theorem dX12_init_275 : decode cX12_init 275 = .ok (.newarray .int, 2) := by decide +kernel
theorem dX12_init_277 : decode cX12_init 277 = .ok (.putfield 79, 3) := by decide +kernel
theorem dX12_init_280 : decode cX12_init 280 = .ok (.aload_n 0, 1) := by decide +kernel
theorem dX12_init_281 : decode cX12_init 281 = .ok (.bipush 30, 2) := by decide +kernel
theorem dX12_init_283 : decode cX12_init 283 = .ok (.newarray .int, 2) := by decide +kernel
theorem dX12_init_285 : decode cX12_init 285 = .ok (.putfield 82, 3) := by decide +kernel
theorem dX12_init_288 : decode cX12_init 288 = .ok (.aload_n 0, 1) := by decide +kernel
theorem dX12_init_289 : decode cX12_init 289 = .ok (.bipush 10, 2) := by decide +kernel
theorem dX12_init_291 : decode cX12_init 291 = .ok (.newarray .int, 2) := by decide +kernel
theorem dX12_init_293 : decode cX12_init 293 = .ok (.putfield 85, 3) := by decide +kernel
theorem dX12_init_296 : decode cX12_init 296 = .ok (.aload_n 0, 1) := by decide +kernel
theorem dX12_init_297 : decode cX12_init 297 = .ok (.iconst 5, 1) := by decide +kernel
theorem dX12_init_298 : decode cX12_init 298 = .ok (.newarray .long, 2) := by decide +kernel
theorem dX12_init_300 : decode cX12_init 300 = .ok (.putfield 88, 3) := by decide +kernel
theorem dX12_init_303 : decode cX12_init 303 = .ok (.aload_n 0, 1) := by decide +kernel
theorem dX12_init_304 : decode cX12_init 304 = .ok (.iconst 5, 1) := by decide +kernel
theorem dX12_init_305 : decode cX12_init 305 = .ok (.newarray .long, 2) := by decide +kernel
theorem dX12_init_307 : decode cX12_init 307 = .ok (.putfield 91, 3) := by decide +kernel
theorem dX12_init_310 : decode cX12_init 310 = .ok (.aload_n 0, 1) := by decide +kernel
theorem dX12_init_311 : decode cX12_init 311 = .ok (.bipush 96, 2) := by decide +kernel
theorem dX12_init_313 : decode cX12_init 313 = .ok (.newarray .int, 2) := by decide +kernel
theorem dX12_init_315 : decode cX12_init 315 = .ok (.putfield 94, 3) := by decide +kernel
theorem dX12_init_318 : decode cX12_init 318 = .ok (.aload_n 0, 1) := by decide +kernel
theorem dX12_init_319 : decode cX12_init 319 = .ok (.iconst 3, 1) := by decide +kernel
theorem dX12_init_320 : decode cX12_init 320 = .ok (.newarray .int, 2) := by decide +kernel
theorem dX12_init_322 : decode cX12_init 322 = .ok (.putfield 97, 3) := by decide +kernel
theorem dX12_init_325 : decode cX12_init 325 = .ok (.aload_n 0, 1) := by decide +kernel
theorem dX12_init_326 : decode cX12_init 326 = .ok (.iconst 4, 1) := by decide +kernel
theorem dX12_init_327 : decode cX12_init 327 = .ok (.newarray .int, 2) := by decide +kernel
theorem dX12_init_329 : decode cX12_init 329 = .ok (.putfield 100, 3) := by decide +kernel
theorem dX12_init_332 : decode cX12_init 332 = .ok (.aload_n 0, 1) := by decide +kernel
theorem dX12_init_333 : decode cX12_init 333 = .ok (.iconst 4, 1) := by decide +kernel
theorem dX12_init_334 : decode cX12_init 334 = .ok (.newarray .int, 2) := by decide +kernel
theorem dX12_init_336 : decode cX12_init 336 = .ok (.putfield 103, 3) := by decide +kernel
theorem dX12_init_339 : decode cX12_init 339 = .ok (.aload_n 0, 1) := by decide +kernel
theorem dX12_init_340 : decode cX12_init 340 = .ok (.sipush 160, 3) := by decide +kernel
theorem dX12_init_343 : decode cX12_init 343 = .ok (.newarray .int, 2) := by decide +kernel
theorem dX12_init_345 : decode cX12_init 345 = .ok (.putfield 106, 3) := by decide +kernel
theorem dX12_init_348 : decode cX12_init 348 = .ok (.iconst 0, 1) := by decide +kernel
theorem dX12_init_349 : decode cX12_init 349 = .ok (.istore_n 1, 1) := by decide +kernel
theorem dX12_init_350 : decode cX12_init 350 = .ok (.iload_n 1, 1) := by decide +kernel
theorem dX12_init_351 : decode cX12_init 351 = .ok (.iconst 4, 1) := by decide +kernel
theorem dX12_init_352 : decode cX12_init 352 = .ok (.if_icmp .ge 16, 3) := by decide +kernel
theorem dX12_init_355 : decode cX12_init 355 = .ok (.aload_n 0, 1) := by decide +kernel
theorem dX12_init_356 : decode cX12_init 356 = .ok (.getfield 100, 3) := by decide +kernel
theorem dX12_init_359 : decode cX12_init 359 = .ok (.iload_n 1, 1) := by decide +kernel
theorem dX12_init_360 : decode cX12_init 360 = .ok (.iconst (-1), 1) := by decide +kernel
theorem dX12_init_361 : decode cX12_init 361 = .ok (.iastore, 1) := by decide +kernel
theorem dX12_init_362 : decode cX12_init 362 = .ok (.iinc 1 1, 3) := by decide +kernel
theorem dX12_init_365 : decode cX12_init 365 = .ok (.goto (-15), 3) := by decide +kernel
theorem dX12_init_368 : decode cX12_init 368 = .ok (.aload_n 0, 1) := by decide +kernel
theorem dX12_init_369 : decode cX12_init 369 = .ok (.getfield 85, 3) := by decide +kernel
theorem dX12_init_372 : decode cX12_init 372 = .ok (.iconst 0, 1) := by decide +kernel
theorem dX12_init_373 : decode cX12_init 373 = .ok (.iconst 1, 1) := by decide +kernel
theorem dX12_init_374 : decode cX12_init 374 = .ok (.iastore, 1) := by decide +kernel
theorem dX12_init_375 : decode cX12_init 375 = .ok (.aload_n 0, 1) := by decide +kernel
theorem dX12_init_376 : decode cX12_init 376 = .ok (.getfield 85, 3) := by decide +kernel
theorem dX12_init_379 : decode cX12_init 379 = .ok (.iconst 5, 1) := by decide +kernel
theorem dX12_init_380 : decode cX12_init 380 = .ok (.iconst 1, 1) := by decide +kernel
theorem dX12_init_381 : decode cX12_init 381 = .ok (.iastore, 1) := by decide +kernel
theorem dX12_init_382 : decode cX12_init 382 = .ok (.aload_n 0, 1) := by decide +kernel
theorem dX12_init_383 : decode cX12_init 383 = .ok (.iconst 4, 1) := by decide +kernel
theorem dX12_init_384 : decode cX12_init 384 = .ok (.iconst 2, 1) := by decide +kernel
theorem dX12_init_385 : decode cX12_init 385 = .ok (.invokevirtual 109, 3) := by decide +kernel
theorem dX12_init_388 : decode cX12_init 388 = .ok (.return_, 1) := by decide +kernel
theorem dX12_begin_0 : decode cX12_begin 0 = .ok (.aload_n 0, 1) := by decide +kernel
theorem dX12_begin_1 : decode cX12_begin 1 = .ok (.iload_n 1, 1) := by decide +kernel
theorem dX12_begin_2 : decode cX12_begin 2 = .ok (.putfield 7, 3) := by decide +kernel
theorem dX12_begin_5 : decode cX12_begin 5 = .ok (.aload_n 0, 1) := by decide +kernel
theorem dX12_begin_6 : decode cX12_begin 6 = .ok (.iload_n 2, 1) := by decide +kernel
theorem dX12_begin_7 : decode cX12_begin 7 = .ok (.putfield 13, 3) := by decide +kernel
theorem dX12_begin_10 : decode cX12_begin 10 = .ok (.iconst 0, 1) := by decide +kernel
theorem dX12_begin_11 : decode cX12_begin 11 = .ok (.istore_n 3, 1) := by decide +kernel
theorem dX12_begin_12 : decode cX12_begin 12 = .ok (.iload_n 3, 1) := by decide +kernel
theorem dX12_begin_13 : decode cX12_begin 13 = .ok (.sipush 128, 3) := by decide +kernel
theorem dX12_begin_16 : decode cX12_begin 16 = .ok (.if_icmp .ge 16, 3) := by decide +kernel
theorem dX12_begin_19 : decode cX12_begin 19 = .ok (.aload_n 0, 1) := by decide +kernel
theorem dX12_begin_20 : decode cX12_begin 20 = .ok (.getfield 16, 3) := by decide +kernel
theorem dX12_begin_23 : decode cX12_begin 23 = .ok (.iload_n 3, 1) := by decide +kernel
theorem dX12_begin_24 : decode cX12_begin 24 = .ok (.iconst 0, 1) := by decide +kernel
theorem dX12_begin_25 : decode cX12_begin 25 = .ok (.iastore, 1) := by decide +kernel
theorem dX12_begin_26 : decode cX12_begin 26 = .ok (.iinc 3 1, 3) := by decide +kernel
theorem dX12_begin_29 : decode cX12_begin 29 = .ok (.goto (-17), 3) := by decide +kernel
theorem dX12_begin_32 : decode cX12_begin 32 = .ok (.iconst 0, 1) := by decide +kernel
theorem dX12_begin_33 : decode cX12_begin 33 = .ok (.istore_n 3, 1) := by decide +kernel
theorem dX12_begin_34 : decode cX12_begin 34 = .ok (.iload_n 3, 1) := by decide +kernel
theorem dX12_begin_35 : decode cX12_begin 35 = .ok (.bipush 8, 2) := by decide +kernel
theorem dX12_begin_37 : decode cX12_begin 37 = .ok (.if_icmp .ge 18, 3) := by decide +kernel
theorem dX12_begin_40 : decode cX12_begin 40 = .ok (.aload_n 0, 1) := by decide +kernel
theorem dX12_begin_41 : decode cX12_begin 41 = .ok (.getfield 20, 3) := by decide +kernel
theorem dX12_begin_44 : decode cX12_begin 44 = .ok (.iload_n 3, 1) := by decide +kernel
theorem dX12_begin_45 : decode cX12_begin 45 = .ok (.sipush 1500, 3) := by decide +kernel
theorem dX12_begin_48 : decode cX12_begin 48 = .ok (.iastore, 1) := by decide +kernel
theorem dX12_begin_49 : decode cX12_begin 49 = .ok (.iinc 3 1, 3) := by decide +kernel
theorem dX12_begin_52 : decode cX12_begin 52 = .ok (.goto (-18), 3) := by decide +kernel
theorem dX12_begin_55 : decode cX12_begin 55 = .ok (.iconst 0, 1) := by decide +kernel
theorem dX12_begin_56 : decode cX12_begin 56 = .ok (.istore_n 3, 1) := by decide +kernel
theorem dX12_begin_57 : decode cX12_begin 57 = .ok (.iload_n 3, 1) := by decide +kernel
theorem dX12_begin_58 : decode cX12_begin 58 = .ok (.bipush 40, 2) := by decide +kernel
theorem dX12_begin_60 : decode cX12_begin 60 = .ok (.if_icmp .ge 16, 3) := by decide +kernel
theorem dX12_begin_63 : decode cX12_begin 63 = .ok (.aload_n 0, 1) := by decide +kernel
theorem dX12_begin_64 : decode cX12_begin 64 = .ok (.getfield 23, 3) := by decide +kernel
theorem dX12_begin_67 : decode cX12_begin 67 = .ok (.iload_n 3, 1) := by decide +kernel
theorem dX12_begin_68 : decode cX12_begin 68 = .ok (.iconst 0, 1) := by decide +kernel
theorem dX12_begin_69 : decode cX12_begin 69 = .ok (.iastore, 1) := by decide +kernel
theorem dX12_begin_70 : decode cX12_begin 70 = .ok (.iinc 3 1, 3) := by decide +kernel
theorem dX12_begin_73 : decode cX12_begin 73 = .ok (.goto (-16), 3) := by decide +kernel
theorem dX12_begin_76 : decode cX12_begin 76 = .ok (.iconst 0, 1) := by decide +kernel
theorem dX12_begin_77 : decode cX12_begin 77 = .ok (.istore_n 3, 1) := by decide +kernel
theorem dX12_begin_78 : decode cX12_begin 78 = .ok (.iload_n 3, 1) := by decide +kernel
theorem dX12_begin_79 : decode cX12_begin 79 = .ok (.iconst 5, 1) := by decide +kernel
theorem dX12_begin_80 : decode cX12_begin 80 = .ok (.if_icmp .ge 30, 3) := by decide +kernel
theorem dX12_begin_83 : decode cX12_begin 83 = .ok (.aload_n 0, 1) := by decide +kernel
theorem dX12_begin_84 : decode cX12_begin 84 = .ok (.getfield 35, 3) := by decide +kernel
theorem dX12_begin_87 : decode cX12_begin 87 = .ok (.iload_n 3, 1) := by decide +kernel
theorem dX12_begin_88 : decode cX12_begin 88 = .ok (.iconst 0, 1) := by decide +kernel
theorem dX12_begin_89 : decode cX12_begin 89 = .ok (.iastore, 1) := by decide +kernel
theorem dX12_begin_90 : decode cX12_begin 90 = .ok (.aload_n 0, 1) := by decide +kernel
theorem dX12_begin_91 : decode cX12_begin 91 = .ok (.getfield 44, 3) := by decide +kernel
theorem dX12_begin_94 : decode cX12_begin 94 = .ok (.iload_n 3, 1) := by decide +kernel
theorem dX12_begin_95 : decode cX12_begin 95 = .ok (.iconst 0, 1) := by decide +kernel
theorem dX12_begin_96 : decode cX12_begin 96 = .ok (.bastore, 1) := by decide +kernel
theorem dX12_begin_97 : decode cX12_begin 97 = .ok (.aload_n 0, 1) := by decide +kernel
theorem dX12_begin_98 : decode cX12_begin 98 = .ok (.getfield 73, 3) := by decide +kernel
theorem dX12_begin_101 : decode cX12_begin 101 = .ok (.iload_n 3, 1) := by decide +kernel
theorem dX12_begin_102 : decode cX12_begin 102 = .ok (.iconst 0, 1) := by decide +kernel
theorem dX12_begin_103 : decode cX12_begin 103 = .ok (.iastore, 1) := by decide +kernel
theorem dX12_begin_104 : decode cX12_begin 104 = .ok (.iinc 3 1, 3) := by decide +kernel
theorem dX12_begin_107 : decode cX12_begin 107 = .ok (.goto (-29), 3) := by decide +kernel
theorem dX12_begin_110 : decode cX12_begin 110 = .ok (.aload_n 0, 1) := by decide +kernel
theorem dX12_begin_111 : decode cX12_begin 111 = .ok (.iconst 0, 1) := by decide +kernel
theorem dX12_begin_112 : decode cX12_begin 112 = .ok (.putfield 113, 3) := by decide +kernel
theorem dX12_begin_115 : decode cX12_begin 115 = .ok (.aload_n 0, 1) := by decide +kernel
theorem dX12_begin_116 : decode cX12_begin 116 = .ok (.iconst 0, 1) := by decide +kernel
theorem dX12_begin_117 : decode cX12_begin 117 = .ok (.putfield 116, 3) := by decide +kernel
theorem dX12_begin_120 : decode cX12_begin 120 = .ok (.aload_n 0, 1) := by decide +kernel
theorem dX12_begin_121 : decode cX12_begin 121 = .ok (.iconst 0, 1) := by decide +kernel
theorem dX12_begin_122 : decode cX12_begin 122 = .ok (.putfield 119, 3) := by decide +kernel
theorem dX12_begin_125 : decode cX12_begin 125 = .ok (.aload_n 0, 1) := by decide +kernel
theorem dX12_begin_126 : decode cX12_begin 126 = .ok (.iconst 0, 1) := by decide +kernel
theorem dX12_begin_127 : decode cX12_begin 127 = .ok (.putfield 122, 3) := by decide +kernel
theorem dX12_begin_130 : decode cX12_begin 130 = .ok (.aload_n 0, 1) := by decide +kernel
theorem dX12_begin_131 : decode cX12_begin 131 = .ok (.iconst 0, 1) := by decide +kernel
theorem dX12_begin_132 : decode cX12_begin 132 = .ok (.putfield 125, 3) := by decide +kernel
theorem dX12_begin_135 : decode cX12_begin 135 = .ok (.return_, 1) := by decide +kernel
set_option maxRecDepth 20000 in
theorem ggX12_mirror_X12_in : GoodIn wsX12_mirror wsX12_in := goodIn_r _ [6] (by decide +kernel) (by decide +kernel)
set_option maxRecDepth 20000 in
theorem gX12_mirror_X12_in : GoodIn wsX12_mirror (va_wsS RX12 130 yX12_in wsX12_in) := goodIn_app (goodIn_of _ (by decide +kernel)) ggX12_mirror_X12_in
set_option maxRecDepth 20000 in
theorem ggX12_mirror_X12_begin : GoodIn wsX12_mirror wsX12_begin := goodIn_r _ [10, 11, 12, 13, 14, 15, 16, 17, 18, 19, 20, 21, 22, 23, 24, 25, 26, 27, 28, 29, 30, 31, 32, 33, 34, 35, 36, 37, 38, 39, 40, 41, 42, 43, 44, 45, 46, 47, 48, 49, 50, 51, 52, 53, 54, 55, 56, 57, 58, 59, 60, 61, 62, 63, 64] (by decide +kernel) (by decide +kernel)
set_option maxRecDepth 20000 in
theorem gX12_mirror_X12_begin : GoodIn wsX12_mirror (wsV RX12 109 RX12 yX12_begin wsX12_begin) := goodIn_app (goodIn_of _ (by decide +kernel)) ggX12_mirror_X12_begin
theorem dX12_mirror_0 : decode cX12_mirror 0 = .ok (.iload_n 1, 1) := by decide +kernel
theorem dX12_mirror_1 : decode cX12_mirror 1 = .ok (.i2l, 1) := by decide +kernel
theorem dX12_mirror_2 : decode cX12_mirror 2 = .ok (.lconst 1, 1) := by decide +kernel
theorem dX12_mirror_3 : decode cX12_mirror 3 = .ok (.ldc2_w 128, 3) := by decide +kernel
theorem dX12_mirror_6 : decode cX12_mirror 6 = .ok (.invokestatic 130, 3) := by decide +kernel
theorem dX12_mirror_9 : decode cX12_mirror 9 = .ok (.ifCond .eq 15, 3) := by decide +kernel
theorem dX12_mirror_12 : decode cX12_mirror 12 = .ok (.iload_n 2, 1) := by decide +kernel
theorem dX12_mirror_13 : decode cX12_mirror 13 = .ok (.i2l, 1) := by decide +kernel
theorem dX12_mirror_14 : decode cX12_mirror 14 = .ok (.lconst 1, 1) := by decide +kernel
theorem dX12_mirror_15 : decode cX12_mirror 15 = .ok (.ldc2_w 134, 3) := by decide +kernel
theorem dX12_mirror_18 : decode cX12_mirror 18 = .ok (.invokestatic 130, 3) := by decide +kernel
theorem dX12_mirror_21 : decode cX12_mirror 21 = .ok (.ifCond .ne 5, 3) := by decide +kernel
theorem dX12_mirror_24 : decode cX12_mirror 24 = .ok (.iconst (-1), 1) := by decide +kernel
theorem dX12_mirror_25 : decode cX12_mirror 25 = .ok (.ireturn, 1) := by decide +kernel
theorem dX12_mirror_26 : decode cX12_mirror 26 = .ok (.aload_n 0, 1) := by decide +kernel
theorem dX12_mirror_27 : decode cX12_mirror 27 = .ok (.iload_n 1, 1) := by decide +kernel
theorem dX12_mirror_28 : decode cX12_mirror 28 = .ok (.iload_n 2, 1) := by decide +kernel
theorem dX12_mirror_29 : decode cX12_mirror 29 = .ok (.invokevirtual 109, 3) := by decide +kernel
theorem dX12_mirror_32 : decode cX12_mirror 32 = .ok (.iconst 1, 1) := by decide +kernel
theorem dX12_mirror_33 : decode cX12_mirror 33 = .ok (.ireturn, 1) := by decide +kernel
set_option maxRecDepth 20000 in
theorem ggX12_isSpot_X12_in : GoodIn wsX12_isSpot wsX12_in := goodIn_r _ [5] (by decide +kernel) (by decide +kernel)
set_option maxRecDepth 20000 in
theorem gX12_isSpot_X12_in : GoodIn wsX12_isSpot (va_wsS RX12 130 yX12_in wsX12_in) := goodIn_app (goodIn_of _ (by decide +kernel)) ggX12_isSpot_X12_in
theorem dX12_isSpot_0 : decode cX12_isSpot 0 = .ok (.iload_n 1, 1) := by decide +kernel
theorem dX12_isSpot_1 : decode cX12_isSpot 1 = .ok (.i2l, 1) := by decide +kernel
theorem dX12_isSpot_2 : decode cX12_isSpot 2 = .ok (.lconst 0, 1) := by decide +kernel
theorem dX12_isSpot_3 : decode cX12_isSpot 3 = .ok (.aload_n 0, 1) := by decide +kernel
theorem dX12_isSpot_4 : decode cX12_isSpot 4 = .ok (.getfield 7, 3) := by decide +kernel
theorem dX12_isSpot_7 : decode cX12_isSpot 7 = .ok (.iconst 1, 1) := by decide +kernel
theorem dX12_isSpot_8 : decode cX12_isSpot 8 = .ok (.isub, 1) := by decide +kernel
theorem dX12_isSpot_9 : decode cX12_isSpot 9 = .ok (.i2l, 1) := by decide +kernel
theorem dX12_isSpot_10 : decode cX12_isSpot 10 = .ok (.invokestatic 130, 3) := by decide +kernel
theorem dX12_isSpot_13 : decode cX12_isSpot 13 = .ok (.ireturn, 1) := by decide +kernel
set_option maxRecDepth 20000 in
theorem ggX12_isPart_X12_in : GoodIn wsX12_isPart wsX12_in := goodIn_r _ [5] (by decide +kernel) (by decide +kernel)
set_option maxRecDepth 20000 in
theorem gX12_isPart_X12_in : GoodIn wsX12_isPart (va_wsS RX12 130 yX12_in wsX12_in) := goodIn_app (goodIn_of _ (by decide +kernel)) ggX12_isPart_X12_in
theorem dX12_isPart_0 : decode cX12_isPart 0 = .ok (.iload_n 1, 1) := by decide +kernel
theorem dX12_isPart_1 : decode cX12_isPart 1 = .ok (.i2l, 1) := by decide +kernel
theorem dX12_isPart_2 : decode cX12_isPart 2 = .ok (.lconst 0, 1) := by decide +kernel
theorem dX12_isPart_3 : decode cX12_isPart 3 = .ok (.aload_n 0, 1) := by decide +kernel
theorem dX12_isPart_4 : decode cX12_isPart 4 = .ok (.getfield 13, 3) := by decide +kernel
theorem dX12_isPart_7 : decode cX12_isPart 7 = .ok (.iconst 1, 1) := by decide +kernel
theorem dX12_isPart_8 : decode cX12_isPart 8 = .ok (.isub, 1) := by decide +kernel
theorem dX12_isPart_9 : decode cX12_isPart 9 = .ok (.i2l, 1) := by decide +kernel
theorem dX12_isPart_10 : decode cX12_isPart 10 = .ok (.invokestatic 130, 3) := by decide +kernel
theorem dX12_isPart_13 : decode cX12_isPart 13 = .ok (.ireturn, 1) := by decide +kernel
set_option maxRecDepth 20000 in
theorem ggX12_light_X12_isSpot : GoodIn wsX12_light wsX12_isSpot := goodIn_r _ [8, 9, 10, 11, 7, 12, 13, 14, 15, 16, 17, 18, 19, 20, 21, 22, 23, 24, 25, 26, 27, 28, 29, 30, 31, 32, 33, 34, 35, 36, 37, 38, 39, 40, 41, 42, 43, 44, 45, 46, 47, 48, 49, 50, 51, 52, 53] (by decide +kernel) (by decide +kernel)
set_option maxRecDepth 20000 in
theorem gX12_light_X12_isSpot : GoodIn wsX12_light (wsV RX12 136 RX12 yX12_isSpot wsX12_isSpot) := goodIn_app (goodIn_of _ (by decide +kernel)) ggX12_light_X12_isSpot
set_option maxRecDepth 20000 in
theorem ggX12_light_X12_in : GoodIn wsX12_light wsX12_in := goodIn_r _ [12] (by decide +kernel) (by decide +kernel)
set_option maxRecDepth 20000 in
theorem gX12_light_X12_in : GoodIn wsX12_light (va_wsS RX12 130 yX12_in wsX12_in) := goodIn_app (goodIn_of _ (by decide +kernel)) ggX12_light_X12_in
theorem dX12_light_0 : decode cX12_light 0 = .ok (.aload_n 0, 1) := by decide +kernel
theorem dX12_light_1 : decode cX12_light 1 = .ok (.iload_n 1, 1) := by decide +kernel
theorem dX12_light_2 : decode cX12_light 2 = .ok (.invokevirtual 136, 3) := by decide +kernel
theorem dX12_light_5 : decode cX12_light 5 = .ok (.ifCond .eq 27, 3) := by decide +kernel
theorem dX12_light_8 : decode cX12_light 8 = .ok (.iload_n 2, 1) := by decide +kernel
theorem dX12_light_9 : decode cX12_light 9 = .ok (.i2l, 1) := by decide +kernel
theorem dX12_light_10 : decode cX12_light 10 = .ok (.lconst 0, 1) := by decide +kernel
theorem dX12_light_11 : decode cX12_light 11 = .ok (.ldc2_w 140, 3) := by decide +kernel
theorem dX12_light_14 : decode cX12_light 14 = .ok (.invokestatic 130, 3) := by decide +kernel
theorem dX12_light_17 : decode cX12_light 17 = .ok (.ifCond .eq 15, 3) := by decide +kernel
theorem dX12_light_20 : decode cX12_light 20 = .ok (.iload_n 3, 1) := by decide +kernel
theorem dX12_light_21 : decode cX12_light 21 = .ok (.i2l, 1) := by decide +kernel
theorem dX12_light_22 : decode cX12_light 22 = .ok (.lconst 0, 1) := by decide +kernel
theorem dX12_light_23 : decode cX12_light 23 = .ok (.ldc2_w 142, 3) := by decide +kernel
theorem dX12_light_26 : decode cX12_light 26 = .ok (.invokestatic 130, 3) := by decide +kernel
theorem dX12_light_29 : decode cX12_light 29 = .ok (.ifCond .ne 5, 3) := by decide +kernel
theorem dX12_light_32 : decode cX12_light 32 = .ok (.iconst (-1), 1) := by decide +kernel
theorem dX12_light_33 : decode cX12_light 33 = .ok (.ireturn, 1) := by decide +kernel
theorem dX12_light_34 : decode cX12_light 34 = .ok (.aload_n 0, 1) := by decide +kernel
theorem dX12_light_35 : decode cX12_light 35 = .ok (.getfield 16, 3) := by decide +kernel
theorem dX12_light_38 : decode cX12_light 38 = .ok (.bipush 16, 2) := by decide +kernel
theorem dX12_light_40 : decode cX12_light 40 = .ok (.iload_n 1, 1) := by decide +kernel
theorem dX12_light_41 : decode cX12_light 41 = .ok (.imul, 1) := by decide +kernel
theorem dX12_light_42 : decode cX12_light 42 = .ok (.iload_n 2, 1) := by decide +kernel
theorem dX12_light_43 : decode cX12_light 43 = .ok (.iadd, 1) := by decide +kernel
theorem dX12_light_44 : decode cX12_light 44 = .ok (.iaload, 1) := by decide +kernel
theorem dX12_light_45 : decode cX12_light 45 = .ok (.istore 4, 2) := by decide +kernel
theorem dX12_light_47 : decode cX12_light 47 = .ok (.aload_n 0, 1) := by decide +kernel
theorem dX12_light_48 : decode cX12_light 48 = .ok (.getfield 16, 3) := by decide +kernel
theorem dX12_light_51 : decode cX12_light 51 = .ok (.bipush 16, 2) := by decide +kernel
theorem dX12_light_53 : decode cX12_light 53 = .ok (.iload_n 1, 1) := by decide +kernel
theorem dX12_light_54 : decode cX12_light 54 = .ok (.imul, 1) := by decide +kernel
theorem dX12_light_55 : decode cX12_light 55 = .ok (.iload_n 2, 1) := by decide +kernel
theorem dX12_light_56 : decode cX12_light 56 = .ok (.iadd, 1) := by decide +kernel
theorem dX12_light_57 : decode cX12_light 57 = .ok (.iload_n 3, 1) := by decide +kernel
theorem dX12_light_58 : decode cX12_light 58 = .ok (.iastore, 1) := by decide +kernel
theorem dX12_light_59 : decode cX12_light 59 = .ok (.iload 4, 2) := by decide +kernel
theorem dX12_light_61 : decode cX12_light 61 = .ok (.ireturn, 1) := by decide +kernel
set_option maxRecDepth 20000 in
theorem ggX12_set_X12_in : GoodIn wsX12_set wsX12_in := goodIn_r _ [8] (by decide +kernel) (by decide +kernel)
set_option maxRecDepth 20000 in
theorem gX12_set_X12_in : GoodIn wsX12_set (va_wsS RX12 130 yX12_in wsX12_in) := goodIn_app (goodIn_of _ (by decide +kernel)) ggX12_set_X12_in
theorem dX12_set_0 : decode cX12_set 0 = .ok (.iload_n 1, 1) := by decide +kernel
theorem dX12_set_1 : decode cX12_set 1 = .ok (.i2l, 1) := by decide +kernel
theorem dX12_set_2 : decode cX12_set 2 = .ok (.lconst 0, 1) := by decide +kernel
theorem dX12_set_3 : decode cX12_set 3 = .ok (.ldc2_w 144, 3) := by decide +kernel
theorem dX12_set_6 : decode cX12_set 6 = .ok (.invokestatic 130, 3) := by decide +kernel
theorem dX12_set_9 : decode cX12_set 9 = .ok (.ifCond .eq 25, 3) := by decide +kernel
theorem dX12_set_12 : decode cX12_set 12 = .ok (.iload_n 2, 1) := by decide +kernel
theorem dX12_set_13 : decode cX12_set 13 = .ok (.i2l, 1) := by decide +kernel
theorem dX12_set_14 : decode cX12_set 14 = .ok (.aload_n 0, 1) := by decide +kernel
theorem dX12_set_15 : decode cX12_set 15 = .ok (.getfield 29, 3) := by decide +kernel
theorem dX12_set_18 : decode cX12_set 18 = .ok (.iload_n 1, 1) := by decide +kernel
theorem dX12_set_19 : decode cX12_set 19 = .ok (.iaload, 1) := by decide +kernel
theorem dX12_set_20 : decode cX12_set 20 = .ok (.i2l, 1) := by decide +kernel
theorem dX12_set_21 : decode cX12_set 21 = .ok (.aload_n 0, 1) := by decide +kernel
theorem dX12_set_22 : decode cX12_set 22 = .ok (.getfield 32, 3) := by decide +kernel
theorem dX12_set_25 : decode cX12_set 25 = .ok (.iload_n 1, 1) := by decide +kernel
theorem dX12_set_26 : decode cX12_set 26 = .ok (.iaload, 1) := by decide +kernel
theorem dX12_set_27 : decode cX12_set 27 = .ok (.i2l, 1) := by decide +kernel
theorem dX12_set_28 : decode cX12_set 28 = .ok (.invokestatic 130, 3) := by decide +kernel
theorem dX12_set_31 : decode cX12_set 31 = .ok (.ifCond .ne 7, 3) := by decide +kernel
theorem dX12_set_34 : decode cX12_set 34 = .ok (.sipush (-10001), 3) := by decide +kernel
theorem dX12_set_37 : decode cX12_set 37 = .ok (.ireturn, 1) := by decide +kernel
theorem dX12_set_38 : decode cX12_set 38 = .ok (.aload_n 0, 1) := by decide +kernel
theorem dX12_set_39 : decode cX12_set 39 = .ok (.getfield 26, 3) := by decide +kernel
theorem dX12_set_42 : decode cX12_set 42 = .ok (.iload_n 1, 1) := by decide +kernel
theorem dX12_set_43 : decode cX12_set 43 = .ok (.iaload, 1) := by decide +kernel
theorem dX12_set_44 : decode cX12_set 44 = .ok (.istore_n 3, 1) := by decide +kernel
theorem dX12_set_45 : decode cX12_set 45 = .ok (.aload_n 0, 1) := by decide +kernel
theorem dX12_set_46 : decode cX12_set 46 = .ok (.getfield 26, 3) := by decide +kernel
theorem dX12_set_49 : decode cX12_set 49 = .ok (.iload_n 1, 1) := by decide +kernel
theorem dX12_set_50 : decode cX12_set 50 = .ok (.iload_n 2, 1) := by decide +kernel
theorem dX12_set_51 : decode cX12_set 51 = .ok (.iastore, 1) := by decide +kernel
theorem dX12_set_52 : decode cX12_set 52 = .ok (.iload_n 3, 1) := by decide +kernel
theorem dX12_set_53 : decode cX12_set 53 = .ok (.ireturn, 1) := by decide +kernel
set_option maxRecDepth 20000 in
theorem ggX12_rest_X12_isSpot : GoodIn wsX12_rest wsX12_isSpot := goodIn_r _ [7, 8, 9, 10, 6, 11, 12, 13, 14, 15, 16, 17, 18, 19, 20, 21, 22, 23, 24, 25, 26, 27, 28, 29, 30, 31, 32, 33, 34, 35, 36, 37, 38, 39, 40, 41, 42, 43, 44, 45, 46, 47, 48, 49, 50, 51, 52] (by decide +kernel) (by decide +kernel)
set_option maxRecDepth 20000 in
theorem gX12_rest_X12_isSpot : GoodIn wsX12_rest (wsV RX12 136 RX12 yX12_isSpot wsX12_isSpot) := goodIn_app (goodIn_of _ (by decide +kernel)) ggX12_rest_X12_isSpot
set_option maxRecDepth 20000 in
theorem ggX12_rest_X12_in : GoodIn wsX12_rest wsX12_in := goodIn_r _ [11] (by decide +kernel) (by decide +kernel)
set_option maxRecDepth 20000 in
theorem gX12_rest_X12_in : GoodIn wsX12_rest (va_wsS RX12 130 yX12_in wsX12_in) := goodIn_app (goodIn_of _ (by decide +kernel)) ggX12_rest_X12_in
theorem dX12_rest_0 : decode cX12_rest 0 = .ok (.aload_n 0, 1) := by decide +kernel
theorem dX12_rest_1 : decode cX12_rest 1 = .ok (.iload_n 1, 1) := by decide +kernel
theorem dX12_rest_2 : decode cX12_rest 2 = .ok (.invokevirtual 136, 3) := by decide +kernel
theorem dX12_rest_5 : decode cX12_rest 5 = .ok (.ifCond .eq 15, 3) := by decide +kernel
theorem dX12_rest_8 : decode cX12_rest 8 = .ok (.iload_n 2, 1) := by decide +kernel
theorem dX12_rest_9 : decode cX12_rest 9 = .ok (.i2l, 1) := by decide +kernel
theorem dX12_rest_10 : decode cX12_rest 10 = .ok (.lconst 0, 1) := by decide +kernel
theorem dX12_rest_11 : decode cX12_rest 11 = .ok (.ldc2_w 146, 3) := by decide +kernel
theorem dX12_rest_14 : decode cX12_rest 14 = .ok (.invokestatic 130, 3) := by decide +kernel
theorem dX12_rest_17 : decode cX12_rest 17 = .ok (.ifCond .ne 5, 3) := by decide +kernel
theorem dX12_rest_20 : decode cX12_rest 20 = .ok (.iconst (-1), 1) := by decide +kernel
theorem dX12_rest_21 : decode cX12_rest 21 = .ok (.ireturn, 1) := by decide +kernel
theorem dX12_rest_22 : decode cX12_rest 22 = .ok (.aload_n 0, 1) := by decide +kernel
theorem dX12_rest_23 : decode cX12_rest 23 = .ok (.getfield 20, 3) := by decide +kernel
theorem dX12_rest_26 : decode cX12_rest 26 = .ok (.iload_n 1, 1) := by decide +kernel
theorem dX12_rest_27 : decode cX12_rest 27 = .ok (.iaload, 1) := by decide +kernel
theorem dX12_rest_28 : decode cX12_rest 28 = .ok (.istore_n 3, 1) := by decide +kernel
theorem dX12_rest_29 : decode cX12_rest 29 = .ok (.aload_n 0, 1) := by decide +kernel
theorem dX12_rest_30 : decode cX12_rest 30 = .ok (.getfield 20, 3) := by decide +kernel
theorem dX12_rest_33 : decode cX12_rest 33 = .ok (.iload_n 1, 1) := by decide +kernel
theorem dX12_rest_34 : decode cX12_rest 34 = .ok (.iload_n 2, 1) := by decide +kernel
theorem dX12_rest_35 : decode cX12_rest 35 = .ok (.iastore, 1) := by decide +kernel
theorem dX12_rest_36 : decode cX12_rest 36 = .ok (.iload_n 3, 1) := by decide +kernel
theorem dX12_rest_37 : decode cX12_rest 37 = .ok (.ireturn, 1) := by decide +kernel
theorem dX12_lightOf_0 : decode cX12_lightOf 0 = .ok (.aload_n 0, 1) := by decide +kernel
theorem dX12_lightOf_1 : decode cX12_lightOf 1 = .ok (.getfield 16, 3) := by decide +kernel
theorem dX12_lightOf_4 : decode cX12_lightOf 4 = .ok (.bipush 16, 2) := by decide +kernel
theorem dX12_lightOf_6 : decode cX12_lightOf 6 = .ok (.iload_n 1, 1) := by decide +kernel
theorem dX12_lightOf_7 : decode cX12_lightOf 7 = .ok (.imul, 1) := by decide +kernel
theorem dX12_lightOf_8 : decode cX12_lightOf 8 = .ok (.iload_n 2, 1) := by decide +kernel
theorem dX12_lightOf_9 : decode cX12_lightOf 9 = .ok (.iadd, 1) := by decide +kernel
theorem dX12_lightOf_10 : decode cX12_lightOf 10 = .ok (.iaload, 1) := by decide +kernel
theorem dX12_lightOf_11 : decode cX12_lightOf 11 = .ok (.aload_n 0, 1) := by decide +kernel
theorem dX12_lightOf_12 : decode cX12_lightOf 12 = .ok (.getfield 26, 3) := by decide +kernel
theorem dX12_lightOf_15 : decode cX12_lightOf 15 = .ok (.iconst 0, 1) := by decide +kernel
theorem dX12_lightOf_16 : decode cX12_lightOf 16 = .ok (.iaload, 1) := by decide +kernel
theorem dX12_lightOf_17 : decode cX12_lightOf 17 = .ok (.isub, 1) := by decide +kernel
theorem dX12_lightOf_18 : decode cX12_lightOf 18 = .ok (.istore_n 3, 1) := by decide +kernel
theorem dX12_lightOf_19 : decode cX12_lightOf 19 = .ok (.iload_n 3, 1) := by decide +kernel
theorem dX12_lightOf_20 : decode cX12_lightOf 20 = .ok (.ifCond .le 7, 3) := by decide +kernel
theorem dX12_lightOf_23 : decode cX12_lightOf 23 = .ok (.iload_n 3, 1) := by decide +kernel
theorem dX12_lightOf_24 : decode cX12_lightOf 24 = .ok (.goto 4, 3) := by decide +kernel
theorem dX12_lightOf_27 : decode cX12_lightOf 27 = .ok (.iconst 0, 1) := by decide +kernel
theorem dX12_lightOf_28 : decode cX12_lightOf 28 = .ok (.ireturn, 1) := by decide +kernel
set_option maxRecDepth 20000 in
theorem ggX12_allLight_X12_lightOf : GoodIn wsX12_allLight wsX12_lightOf := goodIn_r _ [5, 6, 7, 8, 9, 10, 11, 12, 13, 14, 15, 16, 17, 18, 19, 20, 21, 22, 23, 24, 25, 26, 27, 28, 29, 30, 31, 32, 33, 34, 35, 36, 37, 38, 39, 40, 41, 42, 43, 44, 45, 46, 47, 48] (by decide +kernel) (by decide +kernel)
set_option maxRecDepth 20000 in
theorem gX12_allLight_X12_lightOf : GoodIn wsX12_allLight (wsV RX12 148 RX12 yX12_lightOf wsX12_lightOf) := goodIn_app (goodIn_of _ (by decide +kernel)) ggX12_allLight_X12_lightOf
theorem dX12_allLight_0 : decode cX12_allLight 0 = .ok (.iconst 0, 1) := by decide +kernel
theorem dX12_allLight_1 : decode cX12_allLight 1 = .ok (.istore_n 2, 1) := by decide +kernel
theorem dX12_allLight_2 : decode cX12_allLight 2 = .ok (.iconst 0, 1) := by decide +kernel
theorem dX12_allLight_3 : decode cX12_allLight 3 = .ok (.istore_n 3, 1) := by decide +kernel
theorem dX12_allLight_4 : decode cX12_allLight 4 = .ok (.iload_n 3, 1) := by decide +kernel
theorem dX12_allLight_5 : decode cX12_allLight 5 = .ok (.bipush 16, 2) := by decide +kernel
theorem dX12_allLight_7 : decode cX12_allLight 7 = .ok (.if_icmp .ge 18, 3) := by decide +kernel
theorem dX12_allLight_10 : decode cX12_allLight 10 = .ok (.iload_n 2, 1) := by decide +kernel
theorem dX12_allLight_11 : decode cX12_allLight 11 = .ok (.aload_n 0, 1) := by decide +kernel
theorem dX12_allLight_12 : decode cX12_allLight 12 = .ok (.iload_n 1, 1) := by decide +kernel
theorem dX12_allLight_13 : decode cX12_allLight 13 = .ok (.iload_n 3, 1) := by decide +kernel
theorem dX12_allLight_14 : decode cX12_allLight 14 = .ok (.invokevirtual 148, 3) := by decide +kernel
theorem dX12_allLight_17 : decode cX12_allLight 17 = .ok (.iadd, 1) := by decide +kernel
theorem dX12_allLight_18 : decode cX12_allLight 18 = .ok (.istore_n 2, 1) := by decide +kernel
theorem dX12_allLight_19 : decode cX12_allLight 19 = .ok (.iinc 3 1, 3) := by decide +kernel
theorem dX12_allLight_22 : decode cX12_allLight 22 = .ok (.goto (-18), 3) := by decide +kernel
theorem dX12_allLight_25 : decode cX12_allLight 25 = .ok (.iload_n 2, 1) := by decide +kernel
theorem dX12_allLight_26 : decode cX12_allLight 26 = .ok (.ireturn, 1) := by decide +kernel
set_option maxRecDepth 20000 in
theorem ggX12_isLost_X12_allLight : GoodIn wsX12_isLost wsX12_allLight := goodIn_r _ [6, 7, 8, 9, 5, 10, 11, 1, 12, 13, 14, 15, 16, 17, 18, 19, 20, 21, 22, 23, 24, 25, 26, 27, 28, 29, 30, 31, 32, 33, 34, 35, 36, 37, 38, 39, 40, 41, 42, 43, 44, 45, 46, 47, 48, 49, 50, 51, 52] (by decide +kernel) (by decide +kernel)
set_option maxRecDepth 20000 in
theorem gX12_isLost_X12_allLight : GoodIn wsX12_isLost (wsV RX12 152 RX12 yX12_allLight wsX12_allLight) := goodIn_app (goodIn_of _ (by decide +kernel)) ggX12_isLost_X12_allLight
theorem dX12_isLost_0 : decode cX12_isLost 0 = .ok (.aload_n 0, 1) := by decide +kernel
theorem dX12_isLost_1 : decode cX12_isLost 1 = .ok (.iload_n 1, 1) := by decide +kernel
theorem dX12_isLost_2 : decode cX12_isLost 2 = .ok (.invokevirtual 152, 3) := by decide +kernel
theorem dX12_isLost_5 : decode cX12_isLost 5 = .ok (.aload_n 0, 1) := by decide +kernel
theorem dX12_isLost_6 : decode cX12_isLost 6 = .ok (.getfield 26, 3) := by decide +kernel
theorem dX12_isLost_9 : decode cX12_isLost 9 = .ok (.iconst 1, 1) := by decide +kernel
theorem dX12_isLost_10 : decode cX12_isLost 10 = .ok (.iaload, 1) := by decide +kernel
theorem dX12_isLost_11 : decode cX12_isLost 11 = .ok (.if_icmp .ge 7, 3) := by decide +kernel
theorem dX12_isLost_14 : decode cX12_isLost 14 = .ok (.iconst 1, 1) := by decide +kernel
theorem dX12_isLost_15 : decode cX12_isLost 15 = .ok (.goto 4, 3) := by decide +kernel
theorem dX12_isLost_18 : decode cX12_isLost 18 = .ok (.iconst 0, 1) := by decide +kernel
theorem dX12_isLost_19 : decode cX12_isLost 19 = .ok (.ireturn, 1) := by decide +kernel
set_option maxRecDepth 20000 in
theorem ggX12_middleOf_X12_lightOf : GoodIn wsX12_middleOf wsX12_lightOf := goodIn_r _ [5, 6, 7, 12, 13, 14, 15, 16, 17, 18, 19, 20, 21, 22, 23, 24, 25, 26, 27, 28, 29, 30, 31, 32, 33, 34, 35, 36, 37, 38, 39, 40, 41, 42, 43, 44, 45, 46, 47, 48, 49, 50, 51, 52] (by decide +kernel) (by decide +kernel)
set_option maxRecDepth 20000 in
theorem gX12_middleOf_X12_lightOf : GoodIn wsX12_middleOf (wsV RX12 148 RX12 yX12_lightOf wsX12_lightOf) := goodIn_app (goodIn_of _ (by decide +kernel)) ggX12_middleOf_X12_lightOf
set_option maxRecDepth 20000 in
theorem ggX12_middleOf_X12_allLight : GoodIn wsX12_middleOf wsX12_allLight := goodIn_r _ [11, 1, 2, 3, 4, 5, 6, 7, 12, 13, 14, 15, 16, 17, 18, 19, 20, 21, 22, 23, 24, 25, 26, 27, 28, 29, 30, 31, 32, 33, 34, 35, 36, 37, 38, 39, 40, 41, 42, 43, 44, 45, 46, 47, 48, 49, 50, 51, 52] (by decide +kernel) (by decide +kernel)
set_option maxRecDepth 20000 in
theorem gX12_middleOf_X12_allLight : GoodIn wsX12_middleOf (wsV RX12 152 RX12 yX12_allLight wsX12_allLight) := goodIn_app (goodIn_of _ (by decide +kernel)) ggX12_middleOf_X12_allLight
theorem dX12_middleOf_0 : decode cX12_middleOf 0 = .ok (.iconst 0, 1) := by decide +kernel
theorem dX12_middleOf_1 : decode cX12_middleOf 1 = .ok (.istore_n 2, 1) := by decide +kernel
theorem dX12_middleOf_2 : decode cX12_middleOf 2 = .ok (.iconst 0, 1) := by decide +kernel
theorem dX12_middleOf_3 : decode cX12_middleOf 3 = .ok (.istore_n 3, 1) := by decide +kernel
theorem dX12_middleOf_4 : decode cX12_middleOf 4 = .ok (.iload_n 3, 1) := by decide +kernel
theorem dX12_middleOf_5 : decode cX12_middleOf 5 = .ok (.bipush 16, 2) := by decide +kernel
theorem dX12_middleOf_7 : decode cX12_middleOf 7 = .ok (.if_icmp .ge 34, 3) := by decide +kernel
theorem dX12_middleOf_10 : decode cX12_middleOf 10 = .ok (.iload_n 2, 1) := by decide +kernel
theorem dX12_middleOf_11 : decode cX12_middleOf 11 = .ok (.iload_n 1, 1) := by decide +kernel
theorem dX12_middleOf_12 : decode cX12_middleOf 12 = .ok (.iconst 2, 1) := by decide +kernel
theorem dX12_middleOf_13 : decode cX12_middleOf 13 = .ok (.irem, 1) := by decide +kernel
theorem dX12_middleOf_14 : decode cX12_middleOf 14 = .ok (.ifCond .ne 9, 3) := by decide +kernel
theorem dX12_middleOf_17 : decode cX12_middleOf 17 = .ok (.iload_n 3, 1) := by decide +kernel
theorem dX12_middleOf_18 : decode cX12_middleOf 18 = .ok (.iconst 4, 1) := by decide +kernel
theorem dX12_middleOf_19 : decode cX12_middleOf 19 = .ok (.irem, 1) := by decide +kernel
theorem dX12_middleOf_20 : decode cX12_middleOf 20 = .ok (.goto 6, 3) := by decide +kernel
theorem dX12_middleOf_23 : decode cX12_middleOf 23 = .ok (.iload_n 3, 1) := by decide +kernel
theorem dX12_middleOf_24 : decode cX12_middleOf 24 = .ok (.iconst 4, 1) := by decide +kernel
theorem dX12_middleOf_25 : decode cX12_middleOf 25 = .ok (.idiv, 1) := by decide +kernel
theorem dX12_middleOf_26 : decode cX12_middleOf 26 = .ok (.aload_n 0, 1) := by decide +kernel
theorem dX12_middleOf_27 : decode cX12_middleOf 27 = .ok (.iload_n 1, 1) := by decide +kernel
theorem dX12_middleOf_28 : decode cX12_middleOf 28 = .ok (.iload_n 3, 1) := by decide +kernel
theorem dX12_middleOf_29 : decode cX12_middleOf 29 = .ok (.invokevirtual 148, 3) := by decide +kernel
theorem dX12_middleOf_32 : decode cX12_middleOf 32 = .ok (.imul, 1) := by decide +kernel
theorem dX12_middleOf_33 : decode cX12_middleOf 33 = .ok (.iadd, 1) := by decide +kernel
theorem dX12_middleOf_34 : decode cX12_middleOf 34 = .ok (.istore_n 2, 1) := by decide +kernel
theorem dX12_middleOf_35 : decode cX12_middleOf 35 = .ok (.iinc 3 1, 3) := by decide +kernel
theorem dX12_middleOf_38 : decode cX12_middleOf 38 = .ok (.goto (-34), 3) := by decide +kernel
theorem dX12_middleOf_41 : decode cX12_middleOf 41 = .ok (.sipush 1000, 3) := by decide +kernel
theorem dX12_middleOf_44 : decode cX12_middleOf 44 = .ok (.iload_n 2, 1) := by decide +kernel
theorem dX12_middleOf_45 : decode cX12_middleOf 45 = .ok (.imul, 1) := by decide +kernel
theorem dX12_middleOf_46 : decode cX12_middleOf 46 = .ok (.aload_n 0, 1) := by decide +kernel
theorem dX12_middleOf_47 : decode cX12_middleOf 47 = .ok (.iload_n 1, 1) := by decide +kernel
theorem dX12_middleOf_48 : decode cX12_middleOf 48 = .ok (.invokevirtual 152, 3) := by decide +kernel
theorem dX12_middleOf_51 : decode cX12_middleOf 51 = .ok (.idiv, 1) := by decide +kernel
theorem dX12_middleOf_52 : decode cX12_middleOf 52 = .ok (.ireturn, 1) := by decide +kernel
set_option maxRecDepth 20000 in
theorem ggX12_slopeOf_X12_middleOf : GoodIn wsX12_slopeOf wsX12_middleOf := goodIn_r _ [6, 7, 8, 9, 5, 10, 11, 12, 13, 14, 15, 16, 17, 18, 19, 20, 21, 22, 23, 24, 25, 26, 27, 28, 29, 30, 31, 32, 33, 34, 35, 36, 37, 38, 39, 40, 41, 42, 43, 44, 45, 46, 47, 48, 49, 50, 51, 52, 53, 54, 55, 56, 57] (by decide +kernel) (by decide +kernel)
set_option maxRecDepth 20000 in
theorem gX12_slopeOf_X12_middleOf : GoodIn wsX12_slopeOf (wsV RX12 156 RX12 yX12_middleOf wsX12_middleOf) := goodIn_app (goodIn_of _ (by decide +kernel)) ggX12_slopeOf_X12_middleOf
theorem dX12_slopeOf_0 : decode cX12_slopeOf 0 = .ok (.aload_n 0, 1) := by decide +kernel
theorem dX12_slopeOf_1 : decode cX12_slopeOf 1 = .ok (.iload_n 1, 1) := by decide +kernel
theorem dX12_slopeOf_2 : decode cX12_slopeOf 2 = .ok (.invokevirtual 156, 3) := by decide +kernel
theorem dX12_slopeOf_5 : decode cX12_slopeOf 5 = .ok (.aload_n 0, 1) := by decide +kernel
theorem dX12_slopeOf_6 : decode cX12_slopeOf 6 = .ok (.getfield 20, 3) := by decide +kernel
theorem dX12_slopeOf_9 : decode cX12_slopeOf 9 = .ok (.iload_n 1, 1) := by decide +kernel
theorem dX12_slopeOf_10 : decode cX12_slopeOf 10 = .ok (.iaload, 1) := by decide +kernel
theorem dX12_slopeOf_11 : decode cX12_slopeOf 11 = .ok (.isub, 1) := by decide +kernel
theorem dX12_slopeOf_12 : decode cX12_slopeOf 12 = .ok (.ireturn, 1) := by decide +kernel
set_option maxRecDepth 20000 in
theorem ggX12_spot_X12_isSpot : GoodIn wsX12_spot wsX12_isSpot := goodIn_r _ [6, 7, 8, 9, 5, 10, 34, 35, 36, 37, 38, 39, 40, 41, 42, 43, 44, 45, 46, 47, 48, 49, 50, 51, 52, 53, 54, 55, 56, 57, 58, 59, 60, 61, 62, 63, 64, 65, 66, 67, 68, 69, 70, 71, 72, 73, 74] (by decide +kernel) (by decide +kernel)
set_option maxRecDepth 20000 in
theorem gX12_spot_X12_isSpot : GoodIn wsX12_spot (wsV RX12 136 RX12 yX12_isSpot wsX12_isSpot) := goodIn_app (goodIn_of _ (by decide +kernel)) ggX12_spot_X12_isSpot
set_option maxRecDepth 20000 in
theorem ggX12_spot_X12_in : GoodIn wsX12_spot wsX12_in := goodIn_r _ [10] (by decide +kernel) (by decide +kernel)
set_option maxRecDepth 20000 in
theorem gX12_spot_X12_in : GoodIn wsX12_spot (va_wsS RX12 130 yX12_in wsX12_in) := goodIn_app (goodIn_of _ (by decide +kernel)) ggX12_spot_X12_in
set_option maxRecDepth 20000 in
theorem ggX12_spot_X12_allLight : GoodIn wsX12_spot wsX12_allLight := goodIn_r _ [14, 15, 16, 17, 5, 18, 19, 20, 34, 35, 36, 37, 38, 39, 40, 41, 42, 43, 44, 45, 46, 47, 48, 49, 50, 51, 52, 53, 54, 55, 56, 57, 58, 59, 60, 61, 62, 63, 64, 65, 66, 67, 68, 69, 70, 71, 72, 73, 74] (by decide +kernel) (by decide +kernel)
set_option maxRecDepth 20000 in
theorem gX12_spot_X12_allLight : GoodIn wsX12_spot (wsV RX12 152 RX12 yX12_allLight wsX12_allLight) := goodIn_app (goodIn_of _ (by decide +kernel)) ggX12_spot_X12_allLight
set_option maxRecDepth 20000 in
theorem ggX12_spot_X12_isLost : GoodIn wsX12_spot wsX12_isLost := goodIn_r _ [24, 20, 11, 12, 13, 5, 14, 15, 16, 17, 18, 19, 34, 35, 36, 37, 38, 39, 40, 41, 42, 43, 44, 45, 46, 47, 48, 49, 50, 51, 52, 53, 54, 55, 56, 57, 58, 59, 60, 61, 62, 63, 64, 65, 66, 67, 68, 69, 70, 71, 72, 73, 74] (by decide +kernel) (by decide +kernel)
set_option maxRecDepth 20000 in
theorem gX12_spot_X12_isLost : GoodIn wsX12_spot (wsV RX12 161 RX12 yX12_isLost wsX12_isLost) := goodIn_app (goodIn_of _ (by decide +kernel)) ggX12_spot_X12_isLost
set_option maxRecDepth 20000 in
theorem ggX12_spot_X12_middleOf : GoodIn wsX12_spot wsX12_middleOf := goodIn_r _ [28, 15, 16, 17, 5, 18, 19, 20, 11, 12, 13, 14, 34, 35, 36, 37, 38, 39, 40, 41, 42, 43, 44, 45, 46, 47, 48, 49, 50, 51, 52, 53, 54, 55, 56, 57, 58, 59, 60, 61, 62, 63, 64, 65, 66, 67, 68, 69, 70, 71, 72, 73, 74] (by decide +kernel) (by decide +kernel)
set_option maxRecDepth 20000 in
theorem gX12_spot_X12_middleOf : GoodIn wsX12_spot (wsV RX12 156 RX12 yX12_middleOf wsX12_middleOf) := goodIn_app (goodIn_of _ (by decide +kernel)) ggX12_spot_X12_middleOf
set_option maxRecDepth 20000 in
theorem ggX12_spot_X12_slopeOf : GoodIn wsX12_spot wsX12_slopeOf := goodIn_r _ [32, 33, 25, 26, 27, 5, 28, 15, 16, 17, 18, 19, 20, 11, 12, 13, 14, 34, 35, 36, 37, 38, 39, 40, 41, 42, 43, 44, 45, 46, 47, 48, 49, 50, 51, 52, 53, 54, 55, 56, 57, 58, 59, 60, 61, 62, 63, 64, 65, 66, 67, 68, 69, 70, 71, 72, 73, 74] (by decide +kernel) (by decide +kernel)
set_option maxRecDepth 20000 in
theorem gX12_spot_X12_slopeOf : GoodIn wsX12_spot (wsV RX12 164 RX12 yX12_slopeOf wsX12_slopeOf) := goodIn_app (goodIn_of _ (by decide +kernel)) ggX12_spot_X12_slopeOf
theorem dX12_spot_0 : decode cX12_spot 0 = .ok (.aload_n 0, 1) := by decide +kernel
theorem dX12_spot_1 : decode cX12_spot 1 = .ok (.iload_n 1, 1) := by decide +kernel
theorem dX12_spot_2 : decode cX12_spot 2 = .ok (.invokevirtual 136, 3) := by decide +kernel
theorem dX12_spot_5 : decode cX12_spot 5 = .ok (.ifCond .eq 15, 3) := by decide +kernel
theorem dX12_spot_8 : decode cX12_spot 8 = .ok (.iload_n 2, 1) := by decide +kernel
theorem dX12_spot_9 : decode cX12_spot 9 = .ok (.i2l, 1) := by decide +kernel
theorem dX12_spot_10 : decode cX12_spot 10 = .ok (.lconst 0, 1) := by decide +kernel
theorem dX12_spot_11 : decode cX12_spot 11 = .ok (.ldc2_w 159, 3) := by decide +kernel
theorem dX12_spot_14 : decode cX12_spot 14 = .ok (.invokestatic 130, 3) := by decide +kernel
theorem dX12_spot_17 : decode cX12_spot 17 = .ok (.ifCond .ne 7, 3) := by decide +kernel
theorem dX12_spot_20 : decode cX12_spot 20 = .ok (.sipush (-10001), 3) := by decide +kernel
theorem dX12_spot_23 : decode cX12_spot 23 = .ok (.ireturn, 1) := by decide +kernel
theorem dX12_spot_24 : decode cX12_spot 24 = .ok (.iload_n 2, 1) := by decide +kernel
theorem dX12_spot_25 : decode cX12_spot 25 = .ok (.iconst 2, 1) := by decide +kernel
theorem dX12_spot_26 : decode cX12_spot 26 = .ok (.if_icmp .ge 29, 3) := by decide +kernel
theorem dX12_spot_29 : decode cX12_spot 29 = .ok (.iload_n 2, 1) := by decide +kernel
theorem dX12_spot_30 : decode cX12_spot 30 = .ok (.ifCond .ne 11, 3) := by decide +kernel
theorem dX12_spot_33 : decode cX12_spot 33 = .ok (.aload_n 0, 1) := by decide +kernel
theorem dX12_spot_34 : decode cX12_spot 34 = .ok (.iload_n 1, 1) := by decide +kernel
theorem dX12_spot_35 : decode cX12_spot 35 = .ok (.invokevirtual 152, 3) := by decide +kernel
theorem dX12_spot_38 : decode cX12_spot 38 = .ok (.goto 16, 3) := by decide +kernel
theorem dX12_spot_41 : decode cX12_spot 41 = .ok (.aload_n 0, 1) := by decide +kernel
theorem dX12_spot_42 : decode cX12_spot 42 = .ok (.iload_n 1, 1) := by decide +kernel
theorem dX12_spot_43 : decode cX12_spot 43 = .ok (.invokevirtual 161, 3) := by decide +kernel
theorem dX12_spot_46 : decode cX12_spot 46 = .ok (.ifCond .eq 7, 3) := by decide +kernel
theorem dX12_spot_49 : decode cX12_spot 49 = .ok (.iconst 1, 1) := by decide +kernel
theorem dX12_spot_50 : decode cX12_spot 50 = .ok (.goto 4, 3) := by decide +kernel
theorem dX12_spot_53 : decode cX12_spot 53 = .ok (.iconst 0, 1) := by decide +kernel
theorem dX12_spot_54 : decode cX12_spot 54 = .ok (.ireturn, 1) := by decide +kernel
theorem dX12_spot_55 : decode cX12_spot 55 = .ok (.iload_n 2, 1) := by decide +kernel
theorem dX12_spot_56 : decode cX12_spot 56 = .ok (.iconst 2, 1) := by decide +kernel
theorem dX12_spot_57 : decode cX12_spot 57 = .ok (.if_icmp .ne 24, 3) := by decide +kernel
theorem dX12_spot_60 : decode cX12_spot 60 = .ok (.aload_n 0, 1) := by decide +kernel
theorem dX12_spot_61 : decode cX12_spot 61 = .ok (.iload_n 1, 1) := by decide +kernel
theorem dX12_spot_62 : decode cX12_spot 62 = .ok (.invokevirtual 161, 3) := by decide +kernel
theorem dX12_spot_65 : decode cX12_spot 65 = .ok (.ifCond .eq 8, 3) := by decide +kernel
theorem dX12_spot_68 : decode cX12_spot 68 = .ok (.bipush (-4), 2) := by decide +kernel
theorem dX12_spot_70 : decode cX12_spot 70 = .ok (.goto 30, 3) := by decide +kernel
theorem dX12_spot_73 : decode cX12_spot 73 = .ok (.aload_n 0, 1) := by decide +kernel
theorem dX12_spot_74 : decode cX12_spot 74 = .ok (.iload_n 1, 1) := by decide +kernel
theorem dX12_spot_75 : decode cX12_spot 75 = .ok (.invokevirtual 156, 3) := by decide +kernel
theorem dX12_spot_78 : decode cX12_spot 78 = .ok (.goto 22, 3) := by decide +kernel
theorem dX12_spot_81 : decode cX12_spot 81 = .ok (.aload_n 0, 1) := by decide +kernel
theorem dX12_spot_82 : decode cX12_spot 82 = .ok (.iload_n 1, 1) := by decide +kernel
theorem dX12_spot_83 : decode cX12_spot 83 = .ok (.invokevirtual 161, 3) := by decide +kernel
theorem dX12_spot_86 : decode cX12_spot 86 = .ok (.ifCond .eq 9, 3) := by decide +kernel
theorem dX12_spot_89 : decode cX12_spot 89 = .ok (.sipush (-10002), 3) := by decide +kernel
theorem dX12_spot_92 : decode cX12_spot 92 = .ok (.goto 8, 3) := by decide +kernel
theorem dX12_spot_95 : decode cX12_spot 95 = .ok (.aload_n 0, 1) := by decide +kernel
theorem dX12_spot_96 : decode cX12_spot 96 = .ok (.iload_n 1, 1) := by decide +kernel
theorem dX12_spot_97 : decode cX12_spot 97 = .ok (.invokevirtual 164, 3) := by decide +kernel
theorem dX12_spot_100 : decode cX12_spot 100 = .ok (.ireturn, 1) := by decide +kernel
set_option maxRecDepth 20000 in
theorem ggX12_table_X12_isSpot : GoodIn wsX12_table wsX12_isSpot := goodIn_r _ [9, 10, 11, 12, 8, 13, 19, 20, 21, 22, 23, 24, 25, 26, 27, 28, 29, 30, 31, 32, 33, 34, 35, 36, 37, 38, 39, 40, 41, 42, 43, 44, 45, 46, 47, 48, 49, 50, 51, 52, 53, 54, 55, 56, 57, 58, 59] (by decide +kernel) (by decide +kernel)
set_option maxRecDepth 20000 in
theorem gX12_table_X12_isSpot : GoodIn wsX12_table (wsV RX12 136 RX12 yX12_isSpot wsX12_isSpot) := goodIn_app (goodIn_of _ (by decide +kernel)) ggX12_table_X12_isSpot
set_option maxRecDepth 20000 in
theorem ggX12_table_X12_isPart : GoodIn wsX12_table wsX12_isPart := goodIn_r _ [17, 18, 11, 12, 8, 13, 19, 20, 21, 22, 23, 24, 25, 26, 27, 28, 29, 30, 31, 32, 33, 34, 35, 36, 37, 38, 39, 40, 41, 42, 43, 44, 45, 46, 47, 48, 49, 50, 51, 52, 53, 54, 55, 56, 57, 58, 59] (by decide +kernel) (by decide +kernel)
set_option maxRecDepth 20000 in
theorem gX12_table_X12_isPart : GoodIn wsX12_table (wsV RX12 167 RX12 yX12_isPart wsX12_isPart) := goodIn_app (goodIn_of _ (by decide +kernel)) ggX12_table_X12_isPart
set_option maxRecDepth 20000 in
theorem ggX12_table_X12_in : GoodIn wsX12_table wsX12_in := goodIn_r _ [13] (by decide +kernel) (by decide +kernel)
set_option maxRecDepth 20000 in
theorem gX12_table_X12_in : GoodIn wsX12_table (va_wsS RX12 130 yX12_in wsX12_in) := goodIn_app (goodIn_of _ (by decide +kernel)) ggX12_table_X12_in
theorem dX12_table_0 : decode cX12_table 0 = .ok (.aload_n 0, 1) := by decide +kernel
theorem dX12_table_1 : decode cX12_table 1 = .ok (.iload_n 1, 1) := by decide +kernel
theorem dX12_table_2 : decode cX12_table 2 = .ok (.invokevirtual 136, 3) := by decide +kernel
theorem dX12_table_5 : decode cX12_table 5 = .ok (.ifCond .eq 25, 3) := by decide +kernel
theorem dX12_table_8 : decode cX12_table 8 = .ok (.aload_n 0, 1) := by decide +kernel
theorem dX12_table_9 : decode cX12_table 9 = .ok (.iload_n 2, 1) := by decide +kernel
theorem dX12_table_10 : decode cX12_table 10 = .ok (.invokevirtual 167, 3) := by decide +kernel
theorem dX12_table_13 : decode cX12_table 13 = .ok (.ifCond .eq 17, 3) := by decide +kernel
theorem dX12_table_16 : decode cX12_table 16 = .ok (.iload_n 3, 1) := by decide +kernel
theorem dX12_table_17 : decode cX12_table 17 = .ok (.i2l, 1) := by decide +kernel
theorem dX12_table_18 : decode cX12_table 18 = .ok (.ldc2_w 170, 3) := by decide +kernel
theorem dX12_table_21 : decode cX12_table 21 = .ok (.ldc2_w 172, 3) := by decide +kernel
theorem dX12_table_24 : decode cX12_table 24 = .ok (.invokestatic 130, 3) := by decide +kernel
theorem dX12_table_27 : decode cX12_table 27 = .ok (.ifCond .ne 7, 3) := by decide +kernel
theorem dX12_table_30 : decode cX12_table 30 = .ok (.sipush (-10001), 3) := by decide +kernel
theorem dX12_table_33 : decode cX12_table 33 = .ok (.ireturn, 1) := by decide +kernel
theorem dX12_table_34 : decode cX12_table 34 = .ok (.aload_n 0, 1) := by decide +kernel
theorem dX12_table_35 : decode cX12_table 35 = .ok (.getfield 23, 3) := by decide +kernel
theorem dX12_table_38 : decode cX12_table 38 = .ok (.iconst 5, 1) := by decide +kernel
theorem dX12_table_39 : decode cX12_table 39 = .ok (.iload_n 1, 1) := by decide +kernel
theorem dX12_table_40 : decode cX12_table 40 = .ok (.imul, 1) := by decide +kernel
theorem dX12_table_41 : decode cX12_table 41 = .ok (.iload_n 2, 1) := by decide +kernel
theorem dX12_table_42 : decode cX12_table 42 = .ok (.iadd, 1) := by decide +kernel
theorem dX12_table_43 : decode cX12_table 43 = .ok (.iaload, 1) := by decide +kernel
theorem dX12_table_44 : decode cX12_table 44 = .ok (.istore 4, 2) := by decide +kernel
theorem dX12_table_46 : decode cX12_table 46 = .ok (.aload_n 0, 1) := by decide +kernel
theorem dX12_table_47 : decode cX12_table 47 = .ok (.getfield 23, 3) := by decide +kernel
theorem dX12_table_50 : decode cX12_table 50 = .ok (.iconst 5, 1) := by decide +kernel
theorem dX12_table_51 : decode cX12_table 51 = .ok (.iload_n 1, 1) := by decide +kernel
theorem dX12_table_52 : decode cX12_table 52 = .ok (.imul, 1) := by decide +kernel
theorem dX12_table_53 : decode cX12_table 53 = .ok (.iload_n 2, 1) := by decide +kernel
theorem dX12_table_54 : decode cX12_table 54 = .ok (.iadd, 1) := by decide +kernel
theorem dX12_table_55 : decode cX12_table 55 = .ok (.iload_n 3, 1) := by decide +kernel
theorem dX12_table_56 : decode cX12_table 56 = .ok (.iastore, 1) := by decide +kernel
theorem dX12_table_57 : decode cX12_table 57 = .ok (.aload_n 0, 1) := by decide +kernel
theorem dX12_table_58 : decode cX12_table 58 = .ok (.getfield 35, 3) := by decide +kernel
theorem dX12_table_61 : decode cX12_table 61 = .ok (.iload_n 2, 1) := by decide +kernel
theorem dX12_table_62 : decode cX12_table 62 = .ok (.iconst 0, 1) := by decide +kernel
theorem dX12_table_63 : decode cX12_table 63 = .ok (.iastore, 1) := by decide +kernel
theorem dX12_table_64 : decode cX12_table 64 = .ok (.iload 4, 2) := by decide +kernel
theorem dX12_table_66 : decode cX12_table 66 = .ok (.ireturn, 1) := by decide +kernel
theorem dX12_changeOf_0 : decode cX12_changeOf 0 = .ok (.aload_n 0, 1) := by decide +kernel
theorem dX12_changeOf_1 : decode cX12_changeOf 1 = .ok (.getfield 41, 3) := by decide +kernel
theorem dX12_changeOf_4 : decode cX12_changeOf 4 = .ok (.bipush 8, 2) := by decide +kernel
theorem dX12_changeOf_6 : decode cX12_changeOf 6 = .ok (.bipush 9, 2) := by decide +kernel
theorem dX12_changeOf_8 : decode cX12_changeOf 8 = .ok (.iload_n 1, 1) := by decide +kernel
theorem dX12_changeOf_9 : decode cX12_changeOf 9 = .ok (.imul, 1) := by decide +kernel
theorem dX12_changeOf_10 : decode cX12_changeOf 10 = .ok (.iload_n 2, 1) := by decide +kernel
theorem dX12_changeOf_11 : decode cX12_changeOf 11 = .ok (.iadd, 1) := by decide +kernel
theorem dX12_changeOf_12 : decode cX12_changeOf 12 = .ok (.imul, 1) := by decide +kernel
theorem dX12_changeOf_13 : decode cX12_changeOf 13 = .ok (.iload_n 3, 1) := by decide +kernel
theorem dX12_changeOf_14 : decode cX12_changeOf 14 = .ok (.iadd, 1) := by decide +kernel
theorem dX12_changeOf_15 : decode cX12_changeOf 15 = .ok (.iaload, 1) := by decide +kernel
theorem dX12_changeOf_16 : decode cX12_changeOf 16 = .ok (.ireturn, 1) := by decide +kernel
set_option maxRecDepth 20000 in
theorem ggX12_tabulate_X12_changeOf : GoodIn wsX12_tabulate wsX12_changeOf := goodIn_r _ [9, 10, 11, 12, 13, 14, 15, 16, 17, 18, 19, 20, 21, 22, 23, 24, 25, 26, 27, 28, 29, 30, 31, 32, 33, 34, 35, 36, 37, 38, 39, 40, 41, 42, 43, 44, 45, 46, 47, 48, 49, 50, 51] (by decide +kernel) (by decide +kernel)
set_option maxRecDepth 20000 in
theorem gX12_tabulate_X12_changeOf : GoodIn wsX12_tabulate (wsV RX12 174 RX12 yX12_changeOf wsX12_changeOf) := goodIn_app (goodIn_of _ (by decide +kernel)) ggX12_tabulate_X12_changeOf
theorem dX12_tabulate_0 : decode cX12_tabulate 0 = .ok (.iconst 0, 1) := by decide +kernel
theorem dX12_tabulate_1 : decode cX12_tabulate 1 = .ok (.istore_n 2, 1) := by decide +kernel
theorem dX12_tabulate_2 : decode cX12_tabulate 2 = .ok (.iconst 0, 1) := by decide +kernel
theorem dX12_tabulate_3 : decode cX12_tabulate 3 = .ok (.istore_n 3, 1) := by decide +kernel
theorem dX12_tabulate_4 : decode cX12_tabulate 4 = .ok (.iload_n 3, 1) := by decide +kernel
theorem dX12_tabulate_5 : decode cX12_tabulate 5 = .ok (.aload_n 0, 1) := by decide +kernel
theorem dX12_tabulate_6 : decode cX12_tabulate 6 = .ok (.getfield 35, 3) := by decide +kernel
theorem dX12_tabulate_9 : decode cX12_tabulate 9 = .ok (.iload_n 1, 1) := by decide +kernel
theorem dX12_tabulate_10 : decode cX12_tabulate 10 = .ok (.iaload, 1) := by decide +kernel
theorem dX12_tabulate_11 : decode cX12_tabulate 11 = .ok (.if_icmp .ge 23, 3) := by decide +kernel
theorem dX12_tabulate_14 : decode cX12_tabulate 14 = .ok (.iload_n 2, 1) := by decide +kernel
theorem dX12_tabulate_15 : decode cX12_tabulate 15 = .ok (.aload_n 0, 1) := by decide +kernel
theorem dX12_tabulate_16 : decode cX12_tabulate 16 = .ok (.getfield 38, 3) := by decide +kernel
theorem dX12_tabulate_19 : decode cX12_tabulate 19 = .ok (.bipush 9, 2) := by decide +kernel
theorem dX12_tabulate_21 : decode cX12_tabulate 21 = .ok (.iload_n 1, 1) := by decide +kernel
theorem dX12_tabulate_22 : decode cX12_tabulate 22 = .ok (.imul, 1) := by decide +kernel
theorem dX12_tabulate_23 : decode cX12_tabulate 23 = .ok (.iload_n 3, 1) := by decide +kernel
theorem dX12_tabulate_24 : decode cX12_tabulate 24 = .ok (.iadd, 1) := by decide +kernel
theorem dX12_tabulate_25 : decode cX12_tabulate 25 = .ok (.iaload, 1) := by decide +kernel
theorem dX12_tabulate_26 : decode cX12_tabulate 26 = .ok (.iadd, 1) := by decide +kernel
theorem dX12_tabulate_27 : decode cX12_tabulate 27 = .ok (.istore_n 2, 1) := by decide +kernel
theorem dX12_tabulate_28 : decode cX12_tabulate 28 = .ok (.iinc 3 1, 3) := by decide +kernel
theorem dX12_tabulate_31 : decode cX12_tabulate 31 = .ok (.goto (-27), 3) := by decide +kernel
theorem dX12_tabulate_34 : decode cX12_tabulate 34 = .ok (.iconst 0, 1) := by decide +kernel
theorem dX12_tabulate_35 : decode cX12_tabulate 35 = .ok (.istore_n 3, 1) := by decide +kernel
theorem dX12_tabulate_36 : decode cX12_tabulate 36 = .ok (.iload_n 3, 1) := by decide +kernel
theorem dX12_tabulate_37 : decode cX12_tabulate 37 = .ok (.aload_n 0, 1) := by decide +kernel
theorem dX12_tabulate_38 : decode cX12_tabulate 38 = .ok (.getfield 7, 3) := by decide +kernel
theorem dX12_tabulate_41 : decode cX12_tabulate 41 = .ok (.if_icmp .ge 87, 3) := by decide +kernel
theorem dX12_tabulate_44 : decode cX12_tabulate 44 = .ok (.iconst 0, 1) := by decide +kernel
theorem dX12_tabulate_45 : decode cX12_tabulate 45 = .ok (.istore 4, 2) := by decide +kernel
theorem dX12_tabulate_47 : decode cX12_tabulate 47 = .ok (.iconst 0, 1) := by decide +kernel
theorem dX12_tabulate_48 : decode cX12_tabulate 48 = .ok (.istore 5, 2) := by decide +kernel
theorem dX12_tabulate_50 : decode cX12_tabulate 50 = .ok (.iload 5, 2) := by decide +kernel
theorem dX12_tabulate_52 : decode cX12_tabulate 52 = .ok (.aload_n 0, 1) := by decide +kernel
theorem dX12_tabulate_53 : decode cX12_tabulate 53 = .ok (.getfield 35, 3) := by decide +kernel
theorem dX12_tabulate_56 : decode cX12_tabulate 56 = .ok (.iload_n 1, 1) := by decide +kernel
theorem dX12_tabulate_57 : decode cX12_tabulate 57 = .ok (.iaload, 1) := by decide +kernel
theorem dX12_tabulate_58 : decode cX12_tabulate 58 = .ok (.if_icmp .ge 22, 3) := by decide +kernel
theorem dX12_tabulate_61 : decode cX12_tabulate 61 = .ok (.iload 4, 2) := by decide +kernel
theorem dX12_tabulate_63 : decode cX12_tabulate 63 = .ok (.aload_n 0, 1) := by decide +kernel
theorem dX12_tabulate_64 : decode cX12_tabulate 64 = .ok (.iload_n 1, 1) := by decide +kernel
theorem dX12_tabulate_65 : decode cX12_tabulate 65 = .ok (.iload 5, 2) := by decide +kernel
theorem dX12_tabulate_67 : decode cX12_tabulate 67 = .ok (.iload_n 3, 1) := by decide +kernel
theorem dX12_tabulate_68 : decode cX12_tabulate 68 = .ok (.invokevirtual 174, 3) := by decide +kernel
theorem dX12_tabulate_71 : decode cX12_tabulate 71 = .ok (.iadd, 1) := by decide +kernel
theorem dX12_tabulate_72 : decode cX12_tabulate 72 = .ok (.istore 4, 2) := by decide +kernel
theorem dX12_tabulate_74 : decode cX12_tabulate 74 = .ok (.iinc 5 1, 3) := by decide +kernel
theorem dX12_tabulate_77 : decode cX12_tabulate 77 = .ok (.goto (-27), 3) := by decide +kernel
theorem dX12_tabulate_80 : decode cX12_tabulate 80 = .ok (.iload 4, 2) := by decide +kernel
theorem dX12_tabulate_82 : decode cX12_tabulate 82 = .ok (.iload_n 2, 1) := by decide +kernel
theorem dX12_tabulate_83 : decode cX12_tabulate 83 = .ok (.idiv, 1) := by decide +kernel
theorem dX12_tabulate_84 : decode cX12_tabulate 84 = .ok (.istore 5, 2) := by decide +kernel
theorem dX12_tabulate_86 : decode cX12_tabulate 86 = .ok (.aload_n 0, 1) := by decide +kernel
theorem dX12_tabulate_87 : decode cX12_tabulate 87 = .ok (.getfield 23, 3) := by decide +kernel
theorem dX12_tabulate_90 : decode cX12_tabulate 90 = .ok (.iconst 5, 1) := by decide +kernel
theorem dX12_tabulate_91 : decode cX12_tabulate 91 = .ok (.iload_n 3, 1) := by decide +kernel
theorem dX12_tabulate_92 : decode cX12_tabulate 92 = .ok (.imul, 1) := by decide +kernel
theorem dX12_tabulate_93 : decode cX12_tabulate 93 = .ok (.iload_n 1, 1) := by decide +kernel
theorem dX12_tabulate_94 : decode cX12_tabulate 94 = .ok (.iadd, 1) := by decide +kernel
theorem dX12_tabulate_95 : decode cX12_tabulate 95 = .ok (.iload 5, 2) := by decide +kernel
theorem dX12_tabulate_97 : decode cX12_tabulate 97 = .ok (.bipush 9, 2) := by decide +kernel
theorem dX12_tabulate_99 : decode cX12_tabulate 99 = .ok (.if_icmp .le 8, 3) := by decide +kernel
theorem dX12_tabulate_102 : decode cX12_tabulate 102 = .ok (.bipush 9, 2) := by decide +kernel
theorem dX12_tabulate_104 : decode cX12_tabulate 104 = .ok (.goto 17, 3) := by decide +kernel
theorem dX12_tabulate_107 : decode cX12_tabulate 107 = .ok (.iload 5, 2) := by decide +kernel
theorem dX12_tabulate_109 : decode cX12_tabulate 109 = .ok (.bipush (-9), 2) := by decide +kernel
theorem dX12_tabulate_111 : decode cX12_tabulate 111 = .ok (.if_icmp .ge 8, 3) := by decide +kernel
theorem dX12_tabulate_114 : decode cX12_tabulate 114 = .ok (.bipush (-9), 2) := by decide +kernel
theorem dX12_tabulate_116 : decode cX12_tabulate 116 = .ok (.goto 5, 3) := by decide +kernel
theorem dX12_tabulate_119 : decode cX12_tabulate 119 = .ok (.iload 5, 2) := by decide +kernel
theorem dX12_tabulate_121 : decode cX12_tabulate 121 = .ok (.iastore, 1) := by decide +kernel
theorem dX12_tabulate_122 : decode cX12_tabulate 122 = .ok (.iinc 3 1, 3) := by decide +kernel
theorem dX12_tabulate_125 : decode cX12_tabulate 125 = .ok (.goto (-89), 3) := by decide +kernel
theorem dX12_tabulate_128 : decode cX12_tabulate 128 = .ok (.return_, 1) := by decide +kernel
set_option maxRecDepth 20000 in
theorem ggX12_poke_X12_isPart : GoodIn wsX12_poke wsX12_isPart := goodIn_r _ [13, 14, 15, 16, 12, 17, 38, 39, 40, 41, 42, 43, 44, 45, 46, 47, 48, 49, 50, 51, 52, 53, 54, 55, 56, 57, 58, 59, 60, 61, 62, 63, 64, 65, 66, 67, 68, 69, 70, 71, 72, 73, 74, 75, 76, 77, 78] (by decide +kernel) (by decide +kernel)
set_option maxRecDepth 20000 in
theorem gX12_poke_X12_isPart : GoodIn wsX12_poke (wsV RX12 167 RX12 yX12_isPart wsX12_isPart) := goodIn_app (goodIn_of _ (by decide +kernel)) ggX12_poke_X12_isPart
set_option maxRecDepth 20000 in
theorem ggX12_poke_X12_in : GoodIn wsX12_poke wsX12_in := goodIn_r _ [17] (by decide +kernel) (by decide +kernel)
set_option maxRecDepth 20000 in
theorem gX12_poke_X12_in : GoodIn wsX12_poke (va_wsS RX12 130 yX12_in wsX12_in) := goodIn_app (goodIn_of _ (by decide +kernel)) ggX12_poke_X12_in
set_option maxRecDepth 20000 in
theorem ggX12_poke_X12_isSheet : GoodIn wsX12_poke wsX12_isSheet := goodIn_r _ [20, 21, 22, 15, 16, 12, 17] (by decide +kernel) (by decide +kernel)
set_option maxRecDepth 20000 in
theorem gX12_poke_X12_isSheet : GoodIn wsX12_poke (va_wsS RX12 180 yX12_isSheet wsX12_isSheet) := goodIn_app (goodIn_of _ (by decide +kernel)) ggX12_poke_X12_isSheet
set_option maxRecDepth 20000 in
theorem ggX12_poke_X12_against : GoodIn wsX12_poke wsX12_against := goodIn_r _ [26, 27, 28, 15, 16, 12, 17, 38, 39, 40, 41, 42, 43, 44, 45, 46, 47, 48, 49, 50, 51, 52, 53, 54, 55, 56, 57, 58, 59, 60, 61, 62, 63, 64, 65, 66, 67, 68, 69, 70, 71, 72, 73, 74, 75, 76, 77, 78] (by decide +kernel) (by decide +kernel)
set_option maxRecDepth 20000 in
theorem gX12_poke_X12_against : GoodIn wsX12_poke (wsV RX12 184 RX12 yX12_against wsX12_against) := goodIn_app (goodIn_of _ (by decide +kernel)) ggX12_poke_X12_against
set_option maxRecDepth 20000 in
theorem ggX12_poke_X12_tabulate : GoodIn wsX12_poke wsX12_tabulate := goodIn_r _ [32, 6, 7, 2, 33, 34, 35, 36, 12, 37, 8, 38, 39, 40, 41, 42, 43, 44, 45, 46, 47, 48, 49, 50, 51, 52, 53, 54, 55, 56, 57, 58, 59, 60, 61, 62, 63, 64, 65, 66, 67, 68, 69, 70, 71, 72, 73, 74, 75, 76, 77, 78] (by decide +kernel) (by decide +kernel)
set_option maxRecDepth 20000 in
theorem gX12_poke_X12_tabulate : GoodIn wsX12_poke (wsV RX12 192 RX12 yX12_tabulate wsX12_tabulate) := goodIn_app (goodIn_of _ (by decide +kernel)) ggX12_poke_X12_tabulate
theorem dX12_poke_0 : decode cX12_poke 0 = .ok (.aload_n 0, 1) := by decide +kernel
theorem dX12_poke_1 : decode cX12_poke 1 = .ok (.iload_n 1, 1) := by decide +kernel
theorem dX12_poke_2 : decode cX12_poke 2 = .ok (.invokevirtual 167, 3) := by decide +kernel
theorem dX12_poke_5 : decode cX12_poke 5 = .ok (.ifCond .eq 24, 3) := by decide +kernel
theorem dX12_poke_8 : decode cX12_poke 8 = .ok (.iload_n 2, 1) := by decide +kernel
theorem dX12_poke_9 : decode cX12_poke 9 = .ok (.i2l, 1) := by decide +kernel
theorem dX12_poke_10 : decode cX12_poke 10 = .ok (.lconst 1, 1) := by decide +kernel
theorem dX12_poke_11 : decode cX12_poke 11 = .ok (.ldc2_w 178, 3) := by decide +kernel
theorem dX12_poke_14 : decode cX12_poke 14 = .ok (.invokestatic 130, 3) := by decide +kernel
theorem dX12_poke_17 : decode cX12_poke 17 = .ok (.ifCond .eq 12, 3) := by decide +kernel
theorem dX12_poke_20 : decode cX12_poke 20 = .ok (.iload_n 3, 1) := by decide +kernel
theorem dX12_poke_21 : decode cX12_poke 21 = .ok (.iload 4, 2) := by decide +kernel
theorem dX12_poke_23 : decode cX12_poke 23 = .ok (.invokestatic 180, 3) := by decide +kernel
theorem dX12_poke_26 : decode cX12_poke 26 = .ok (.ifCond .ne 5, 3) := by decide +kernel
theorem dX12_poke_29 : decode cX12_poke 29 = .ok (.iconst (-1), 1) := by decide +kernel
theorem dX12_poke_30 : decode cX12_poke 30 = .ok (.ireturn, 1) := by decide +kernel
theorem dX12_poke_31 : decode cX12_poke 31 = .ok (.aload_n 0, 1) := by decide +kernel
theorem dX12_poke_32 : decode cX12_poke 32 = .ok (.iload_n 3, 1) := by decide +kernel
theorem dX12_poke_33 : decode cX12_poke 33 = .ok (.iload 4, 2) := by decide +kernel
theorem dX12_poke_35 : decode cX12_poke 35 = .ok (.iload 5, 2) := by decide +kernel
theorem dX12_poke_37 : decode cX12_poke 37 = .ok (.aload_n 0, 1) := by decide +kernel
theorem dX12_poke_38 : decode cX12_poke 38 = .ok (.getfield 7, 3) := by decide +kernel
theorem dX12_poke_41 : decode cX12_poke 41 = .ok (.invokevirtual 184, 3) := by decide +kernel
theorem dX12_poke_44 : decode cX12_poke 44 = .ok (.istore 6, 2) := by decide +kernel
theorem dX12_poke_46 : decode cX12_poke 46 = .ok (.iload 6, 2) := by decide +kernel
theorem dX12_poke_48 : decode cX12_poke 48 = .ok (.ifCond .ge 6, 3) := by decide +kernel
theorem dX12_poke_51 : decode cX12_poke 51 = .ok (.iload 6, 2) := by decide +kernel
theorem dX12_poke_53 : decode cX12_poke 53 = .ok (.ireturn, 1) := by decide +kernel
theorem dX12_poke_54 : decode cX12_poke 54 = .ok (.bipush 40, 2) := by decide +kernel
theorem dX12_poke_56 : decode cX12_poke 56 = .ok (.iload_n 3, 1) := by decide +kernel
theorem dX12_poke_57 : decode cX12_poke 57 = .ok (.imul, 1) := by decide +kernel
theorem dX12_poke_58 : decode cX12_poke 58 = .ok (.iload 5, 2) := by decide +kernel
theorem dX12_poke_60 : decode cX12_poke 60 = .ok (.iadd, 1) := by decide +kernel
theorem dX12_poke_61 : decode cX12_poke 61 = .ok (.istore 7, 2) := by decide +kernel
theorem dX12_poke_63 : decode cX12_poke 63 = .ok (.iconst 0, 1) := by decide +kernel
theorem dX12_poke_64 : decode cX12_poke 64 = .ok (.istore 8, 2) := by decide +kernel
theorem dX12_poke_66 : decode cX12_poke 66 = .ok (.iload 8, 2) := by decide +kernel
theorem dX12_poke_68 : decode cX12_poke 68 = .ok (.aload_n 0, 1) := by decide +kernel
theorem dX12_poke_69 : decode cX12_poke 69 = .ok (.getfield 7, 3) := by decide +kernel
theorem dX12_poke_72 : decode cX12_poke 72 = .ok (.if_icmp .ge 35, 3) := by decide +kernel
theorem dX12_poke_75 : decode cX12_poke 75 = .ok (.aload_n 0, 1) := by decide +kernel
theorem dX12_poke_76 : decode cX12_poke 76 = .ok (.getfield 106, 3) := by decide +kernel
theorem dX12_poke_79 : decode cX12_poke 79 = .ok (.iload 7, 2) := by decide +kernel
theorem dX12_poke_81 : decode cX12_poke 81 = .ok (.iload 8, 2) := by decide +kernel
theorem dX12_poke_83 : decode cX12_poke 83 = .ok (.iadd, 1) := by decide +kernel
theorem dX12_poke_84 : decode cX12_poke 84 = .ok (.iaload, 1) := by decide +kernel
theorem dX12_poke_85 : decode cX12_poke 85 = .ok (.i2l, 1) := by decide +kernel
theorem dX12_poke_86 : decode cX12_poke 86 = .ok (.ldc2_w 188, 3) := by decide +kernel
theorem dX12_poke_89 : decode cX12_poke 89 = .ok (.ldc2_w 190, 3) := by decide +kernel
theorem dX12_poke_92 : decode cX12_poke 92 = .ok (.invokestatic 130, 3) := by decide +kernel
theorem dX12_poke_95 : decode cX12_poke 95 = .ok (.ifCond .ne 6, 3) := by decide +kernel
theorem dX12_poke_98 : decode cX12_poke 98 = .ok (.bipush (-2), 2) := by decide +kernel
theorem dX12_poke_100 : decode cX12_poke 100 = .ok (.ireturn, 1) := by decide +kernel
theorem dX12_poke_101 : decode cX12_poke 101 = .ok (.iinc 8 1, 3) := by decide +kernel
theorem dX12_poke_104 : decode cX12_poke 104 = .ok (.goto (-38), 3) := by decide +kernel
theorem dX12_poke_107 : decode cX12_poke 107 = .ok (.aload_n 0, 1) := by decide +kernel
theorem dX12_poke_108 : decode cX12_poke 108 = .ok (.getfield 35, 3) := by decide +kernel
theorem dX12_poke_111 : decode cX12_poke 111 = .ok (.iload_n 1, 1) := by decide +kernel
theorem dX12_poke_112 : decode cX12_poke 112 = .ok (.iaload, 1) := by decide +kernel
theorem dX12_poke_113 : decode cX12_poke 113 = .ok (.bipush 9, 2) := by decide +kernel
theorem dX12_poke_115 : decode cX12_poke 115 = .ok (.if_icmp .ne 6, 3) := by decide +kernel
theorem dX12_poke_118 : decode cX12_poke 118 = .ok (.bipush (-3), 2) := by decide +kernel
theorem dX12_poke_120 : decode cX12_poke 120 = .ok (.ireturn, 1) := by decide +kernel
theorem dX12_poke_121 : decode cX12_poke 121 = .ok (.bipush 9, 2) := by decide +kernel
theorem dX12_poke_123 : decode cX12_poke 123 = .ok (.iload_n 1, 1) := by decide +kernel
theorem dX12_poke_124 : decode cX12_poke 124 = .ok (.imul, 1) := by decide +kernel
theorem dX12_poke_125 : decode cX12_poke 125 = .ok (.aload_n 0, 1) := by decide +kernel
theorem dX12_poke_126 : decode cX12_poke 126 = .ok (.getfield 35, 3) := by decide +kernel
theorem dX12_poke_129 : decode cX12_poke 129 = .ok (.iload_n 1, 1) := by decide +kernel
theorem dX12_poke_130 : decode cX12_poke 130 = .ok (.iaload, 1) := by decide +kernel
theorem dX12_poke_131 : decode cX12_poke 131 = .ok (.iadd, 1) := by decide +kernel
theorem dX12_poke_132 : decode cX12_poke 132 = .ok (.istore 8, 2) := by decide +kernel
theorem dX12_poke_134 : decode cX12_poke 134 = .ok (.aload_n 0, 1) := by decide +kernel
theorem dX12_poke_135 : decode cX12_poke 135 = .ok (.getfield 38, 3) := by decide +kernel
theorem dX12_poke_138 : decode cX12_poke 138 = .ok (.iload 8, 2) := by decide +kernel
theorem dX12_poke_140 : decode cX12_poke 140 = .ok (.iload_n 2, 1) := by decide +kernel
theorem dX12_poke_141 : decode cX12_poke 141 = .ok (.iastore, 1) := by decide +kernel
theorem dX12_poke_142 : decode cX12_poke 142 = .ok (.iconst 0, 1) := by decide +kernel
theorem dX12_poke_143 : decode cX12_poke 143 = .ok (.istore 9, 2) := by decide +kernel
theorem dX12_poke_145 : decode cX12_poke 145 = .ok (.iload 9, 2) := by decide +kernel
theorem dX12_poke_147 : decode cX12_poke 147 = .ok (.aload_n 0, 1) := by decide +kernel
theorem dX12_poke_148 : decode cX12_poke 148 = .ok (.getfield 7, 3) := by decide +kernel
theorem dX12_poke_151 : decode cX12_poke 151 = .ok (.if_icmp .ge 32, 3) := by decide +kernel
theorem dX12_poke_154 : decode cX12_poke 154 = .ok (.aload_n 0, 1) := by decide +kernel
theorem dX12_poke_155 : decode cX12_poke 155 = .ok (.getfield 41, 3) := by decide +kernel
theorem dX12_poke_158 : decode cX12_poke 158 = .ok (.bipush 8, 2) := by decide +kernel
theorem dX12_poke_160 : decode cX12_poke 160 = .ok (.iload 8, 2) := by decide +kernel
theorem dX12_poke_162 : decode cX12_poke 162 = .ok (.imul, 1) := by decide +kernel
theorem dX12_poke_163 : decode cX12_poke 163 = .ok (.iload 9, 2) := by decide +kernel
theorem dX12_poke_165 : decode cX12_poke 165 = .ok (.iadd, 1) := by decide +kernel
theorem dX12_poke_166 : decode cX12_poke 166 = .ok (.aload_n 0, 1) := by decide +kernel
theorem dX12_poke_167 : decode cX12_poke 167 = .ok (.getfield 106, 3) := by decide +kernel
theorem dX12_poke_170 : decode cX12_poke 170 = .ok (.iload 7, 2) := by decide +kernel
theorem dX12_poke_172 : decode cX12_poke 172 = .ok (.iload 9, 2) := by decide +kernel
theorem dX12_poke_174 : decode cX12_poke 174 = .ok (.iadd, 1) := by decide +kernel
theorem dX12_poke_175 : decode cX12_poke 175 = .ok (.iaload, 1) := by decide +kernel
theorem dX12_poke_176 : decode cX12_poke 176 = .ok (.iastore, 1) := by decide +kernel
theorem dX12_poke_177 : decode cX12_poke 177 = .ok (.iinc 9 1, 3) := by decide +kernel
theorem dX12_poke_180 : decode cX12_poke 180 = .ok (.goto (-35), 3) := by decide +kernel
theorem dX12_poke_183 : decode cX12_poke 183 = .ok (.aload_n 0, 1) := by decide +kernel
theorem dX12_poke_184 : decode cX12_poke 184 = .ok (.getfield 35, 3) := by decide +kernel
theorem dX12_poke_187 : decode cX12_poke 187 = .ok (.iload_n 1, 1) := by decide +kernel
theorem dX12_poke_188 : decode cX12_poke 188 = .ok (.dup2, 1) := by decide +kernel
theorem dX12_poke_189 : decode cX12_poke 189 = .ok (.iaload, 1) := by decide +kernel
theorem dX12_poke_190 : decode cX12_poke 190 = .ok (.iconst 1, 1) := by decide +kernel
theorem dX12_poke_191 : decode cX12_poke 191 = .ok (.iadd, 1) := by decide +kernel
theorem dX12_poke_192 : decode cX12_poke 192 = .ok (.iastore, 1) := by decide +kernel
theorem dX12_poke_193 : decode cX12_poke 193 = .ok (.aload_n 0, 1) := by decide +kernel
theorem dX12_poke_194 : decode cX12_poke 194 = .ok (.iload_n 1, 1) := by decide +kernel
theorem dX12_poke_195 : decode cX12_poke 195 = .ok (.invokevirtual 192, 3) := by decide +kernel
theorem dX12_poke_198 : decode cX12_poke 198 = .ok (.aload_n 0, 1) := by decide +kernel
theorem dX12_poke_199 : decode cX12_poke 199 = .ok (.getfield 35, 3) := by decide +kernel
theorem dX12_poke_202 : decode cX12_poke 202 = .ok (.iload_n 1, 1) := by decide +kernel
theorem dX12_poke_203 : decode cX12_poke 203 = .ok (.iaload, 1) := by decide +kernel
theorem dX12_poke_204 : decode cX12_poke 204 = .ok (.ireturn, 1) := by decide +kernel
set_option maxRecDepth 20000 in
theorem ggX12_told_X12_isSpot : GoodIn wsX12_told wsX12_isSpot := goodIn_r _ [8, 9, 10, 11, 7, 12, 23, 24, 25, 26, 27, 28, 29, 30, 31, 32, 33, 34, 35, 36, 37, 38, 39, 40, 41, 42, 43, 44, 45, 46, 47, 48, 49, 50, 51, 52, 53, 54, 55, 56, 57, 58, 59, 60, 61, 62, 63] (by decide +kernel) (by decide +kernel)
set_option maxRecDepth 20000 in
theorem gX12_told_X12_isSpot : GoodIn wsX12_told (wsV RX12 136 RX12 yX12_isSpot wsX12_isSpot) := goodIn_app (goodIn_of _ (by decide +kernel)) ggX12_told_X12_isSpot
set_option maxRecDepth 20000 in
theorem ggX12_told_X12_isPart : GoodIn wsX12_told wsX12_isPart := goodIn_r _ [16, 17, 10, 11, 7, 12, 23, 24, 25, 26, 27, 28, 29, 30, 31, 32, 33, 34, 35, 36, 37, 38, 39, 40, 41, 42, 43, 44, 45, 46, 47, 48, 49, 50, 51, 52, 53, 54, 55, 56, 57, 58, 59, 60, 61, 62, 63] (by decide +kernel) (by decide +kernel)
set_option maxRecDepth 20000 in
theorem gX12_told_X12_isPart : GoodIn wsX12_told (wsV RX12 167 RX12 yX12_isPart wsX12_isPart) := goodIn_app (goodIn_of _ (by decide +kernel)) ggX12_told_X12_isPart
set_option maxRecDepth 20000 in
theorem ggX12_told_X12_in : GoodIn wsX12_told wsX12_in := goodIn_r _ [12] (by decide +kernel) (by decide +kernel)
set_option maxRecDepth 20000 in
theorem gX12_told_X12_in : GoodIn wsX12_told (va_wsS RX12 130 yX12_in wsX12_in) := goodIn_app (goodIn_of _ (by decide +kernel)) ggX12_told_X12_in
set_option maxRecDepth 20000 in
theorem ggX12_told_X12_changeOf : GoodIn wsX12_told wsX12_changeOf := goodIn_r _ [21, 22, 23, 24, 25, 26, 27, 28, 29, 30, 31, 32, 33, 34, 35, 36, 37, 38, 39, 40, 41, 42, 43, 44, 45, 46, 47, 48, 49, 50, 51, 52, 53, 54, 55, 56, 57, 58, 59, 60, 61, 62, 63] (by decide +kernel) (by decide +kernel)
set_option maxRecDepth 20000 in
theorem gX12_told_X12_changeOf : GoodIn wsX12_told (wsV RX12 174 RX12 yX12_changeOf wsX12_changeOf) := goodIn_app (goodIn_of _ (by decide +kernel)) ggX12_told_X12_changeOf
theorem dX12_told_0 : decode cX12_told 0 = .ok (.aload_n 0, 1) := by decide +kernel
theorem dX12_told_1 : decode cX12_told 1 = .ok (.iload_n 1, 1) := by decide +kernel
theorem dX12_told_2 : decode cX12_told 2 = .ok (.invokevirtual 136, 3) := by decide +kernel
theorem dX12_told_5 : decode cX12_told 5 = .ok (.ifCond .eq 21, 3) := by decide +kernel
theorem dX12_told_8 : decode cX12_told 8 = .ok (.aload_n 0, 1) := by decide +kernel
theorem dX12_told_9 : decode cX12_told 9 = .ok (.iload_n 2, 1) := by decide +kernel
theorem dX12_told_10 : decode cX12_told 10 = .ok (.invokevirtual 167, 3) := by decide +kernel
theorem dX12_told_13 : decode cX12_told 13 = .ok (.ifCond .eq 13, 3) := by decide +kernel
theorem dX12_told_16 : decode cX12_told 16 = .ok (.iload_n 3, 1) := by decide +kernel
theorem dX12_told_17 : decode cX12_told 17 = .ok (.i2l, 1) := by decide +kernel
theorem dX12_told_18 : decode cX12_told 18 = .ok (.lconst 0, 1) := by decide +kernel
theorem dX12_told_19 : decode cX12_told 19 = .ok (.lconst 1, 1) := by decide +kernel
theorem dX12_told_20 : decode cX12_told 20 = .ok (.invokestatic 130, 3) := by decide +kernel
theorem dX12_told_23 : decode cX12_told 23 = .ok (.ifCond .ne 7, 3) := by decide +kernel
theorem dX12_told_26 : decode cX12_told 26 = .ok (.sipush (-10001), 3) := by decide +kernel
theorem dX12_told_29 : decode cX12_told 29 = .ok (.ireturn, 1) := by decide +kernel
theorem dX12_told_30 : decode cX12_told 30 = .ok (.iload_n 3, 1) := by decide +kernel
theorem dX12_told_31 : decode cX12_told 31 = .ok (.ifCond .ne 14, 3) := by decide +kernel
theorem dX12_told_34 : decode cX12_told 34 = .ok (.aload_n 0, 1) := by decide +kernel
theorem dX12_told_35 : decode cX12_told 35 = .ok (.getfield 23, 3) := by decide +kernel
theorem dX12_told_38 : decode cX12_told 38 = .ok (.iconst 5, 1) := by decide +kernel
theorem dX12_told_39 : decode cX12_told 39 = .ok (.iload_n 1, 1) := by decide +kernel
theorem dX12_told_40 : decode cX12_told 40 = .ok (.imul, 1) := by decide +kernel
theorem dX12_told_41 : decode cX12_told 41 = .ok (.iload_n 2, 1) := by decide +kernel
theorem dX12_told_42 : decode cX12_told 42 = .ok (.iadd, 1) := by decide +kernel
theorem dX12_told_43 : decode cX12_told 43 = .ok (.iaload, 1) := by decide +kernel
theorem dX12_told_44 : decode cX12_told 44 = .ok (.ireturn, 1) := by decide +kernel
theorem dX12_told_45 : decode cX12_told 45 = .ok (.aload_n 0, 1) := by decide +kernel
theorem dX12_told_46 : decode cX12_told 46 = .ok (.getfield 35, 3) := by decide +kernel
theorem dX12_told_49 : decode cX12_told 49 = .ok (.iload_n 2, 1) := by decide +kernel
theorem dX12_told_50 : decode cX12_told 50 = .ok (.iaload, 1) := by decide +kernel
theorem dX12_told_51 : decode cX12_told 51 = .ok (.ifCond .ne 7, 3) := by decide +kernel
theorem dX12_told_54 : decode cX12_told 54 = .ok (.sipush (-10004), 3) := by decide +kernel
theorem dX12_told_57 : decode cX12_told 57 = .ok (.ireturn, 1) := by decide +kernel
theorem dX12_told_58 : decode cX12_told 58 = .ok (.sipush 1000, 3) := by decide +kernel
theorem dX12_told_61 : decode cX12_told 61 = .ok (.istore 4, 2) := by decide +kernel
theorem dX12_told_63 : decode cX12_told 63 = .ok (.sipush (-1000), 3) := by decide +kernel
theorem dX12_told_66 : decode cX12_told 66 = .ok (.istore 5, 2) := by decide +kernel
theorem dX12_told_68 : decode cX12_told 68 = .ok (.iconst 0, 1) := by decide +kernel
theorem dX12_told_69 : decode cX12_told 69 = .ok (.istore 6, 2) := by decide +kernel
theorem dX12_told_71 : decode cX12_told 71 = .ok (.iload 6, 2) := by decide +kernel
theorem dX12_told_73 : decode cX12_told 73 = .ok (.aload_n 0, 1) := by decide +kernel
theorem dX12_told_74 : decode cX12_told 74 = .ok (.getfield 35, 3) := by decide +kernel
theorem dX12_told_77 : decode cX12_told 77 = .ok (.iload_n 2, 1) := by decide +kernel
theorem dX12_told_78 : decode cX12_told 78 = .ok (.iaload, 1) := by decide +kernel
theorem dX12_told_79 : decode cX12_told 79 = .ok (.if_icmp .ge 64, 3) := by decide +kernel
theorem dX12_told_82 : decode cX12_told 82 = .ok (.aload_n 0, 1) := by decide +kernel
theorem dX12_told_83 : decode cX12_told 83 = .ok (.iload_n 2, 1) := by decide +kernel
theorem dX12_told_84 : decode cX12_told 84 = .ok (.iload 6, 2) := by decide +kernel
theorem dX12_told_86 : decode cX12_told 86 = .ok (.iload_n 1, 1) := by decide +kernel
theorem dX12_told_87 : decode cX12_told 87 = .ok (.invokevirtual 174, 3) := by decide +kernel
theorem dX12_told_90 : decode cX12_told 90 = .ok (.aload_n 0, 1) := by decide +kernel
theorem dX12_told_91 : decode cX12_told 91 = .ok (.getfield 38, 3) := by decide +kernel
theorem dX12_told_94 : decode cX12_told 94 = .ok (.bipush 9, 2) := by decide +kernel
theorem dX12_told_96 : decode cX12_told 96 = .ok (.iload_n 2, 1) := by decide +kernel
theorem dX12_told_97 : decode cX12_told 97 = .ok (.imul, 1) := by decide +kernel
theorem dX12_told_98 : decode cX12_told 98 = .ok (.iload 6, 2) := by decide +kernel
theorem dX12_told_100 : decode cX12_told 100 = .ok (.iadd, 1) := by decide +kernel
theorem dX12_told_101 : decode cX12_told 101 = .ok (.iaload, 1) := by decide +kernel
theorem dX12_told_102 : decode cX12_told 102 = .ok (.idiv, 1) := by decide +kernel
theorem dX12_told_103 : decode cX12_told 103 = .ok (.istore 7, 2) := by decide +kernel
theorem dX12_told_105 : decode cX12_told 105 = .ok (.iload 7, 2) := by decide +kernel
theorem dX12_told_107 : decode cX12_told 107 = .ok (.iload 4, 2) := by decide +kernel
theorem dX12_told_109 : decode cX12_told 109 = .ok (.if_icmp .ge 8, 3) := by decide +kernel
theorem dX12_told_112 : decode cX12_told 112 = .ok (.iload 7, 2) := by decide +kernel
theorem dX12_told_114 : decode cX12_told 114 = .ok (.goto 5, 3) := by decide +kernel
theorem dX12_told_117 : decode cX12_told 117 = .ok (.iload 4, 2) := by decide +kernel
theorem dX12_told_119 : decode cX12_told 119 = .ok (.istore 4, 2) := by decide +kernel
theorem dX12_told_121 : decode cX12_told 121 = .ok (.iload 7, 2) := by decide +kernel
theorem dX12_told_123 : decode cX12_told 123 = .ok (.iload 5, 2) := by decide +kernel
theorem dX12_told_125 : decode cX12_told 125 = .ok (.if_icmp .le 8, 3) := by decide +kernel
theorem dX12_told_128 : decode cX12_told 128 = .ok (.iload 7, 2) := by decide +kernel
theorem dX12_told_130 : decode cX12_told 130 = .ok (.goto 5, 3) := by decide +kernel
theorem dX12_told_133 : decode cX12_told 133 = .ok (.iload 5, 2) := by decide +kernel
theorem dX12_told_135 : decode cX12_told 135 = .ok (.istore 5, 2) := by decide +kernel
theorem dX12_told_137 : decode cX12_told 137 = .ok (.iinc 6 1, 3) := by decide +kernel
theorem dX12_told_140 : decode cX12_told 140 = .ok (.goto (-69), 3) := by decide +kernel
theorem dX12_told_143 : decode cX12_told 143 = .ok (.iload 5, 2) := by decide +kernel
theorem dX12_told_145 : decode cX12_told 145 = .ok (.iload 4, 2) := by decide +kernel
theorem dX12_told_147 : decode cX12_told 147 = .ok (.isub, 1) := by decide +kernel
theorem dX12_told_148 : decode cX12_told 148 = .ok (.ireturn, 1) := by decide +kernel
set_option maxRecDepth 20000 in
theorem ggX12_dead_X12_isPart : GoodIn wsX12_dead wsX12_isPart := goodIn_r _ [6, 7, 8, 9, 5, 10, 11, 12, 13, 14, 15, 16, 17, 18, 19, 20, 21, 22, 23, 24, 25, 26, 27, 28, 29, 30, 31, 32, 33, 34, 35, 36, 37, 38, 39, 40, 41, 42, 43, 44, 45, 46, 47, 48, 49, 50, 51] (by decide +kernel) (by decide +kernel)
set_option maxRecDepth 20000 in
theorem gX12_dead_X12_isPart : GoodIn wsX12_dead (wsV RX12 167 RX12 yX12_isPart wsX12_isPart) := goodIn_app (goodIn_of _ (by decide +kernel)) ggX12_dead_X12_isPart
theorem dX12_dead_0 : decode cX12_dead 0 = .ok (.aload_n 0, 1) := by decide +kernel
theorem dX12_dead_1 : decode cX12_dead 1 = .ok (.iload_n 1, 1) := by decide +kernel
theorem dX12_dead_2 : decode cX12_dead 2 = .ok (.invokevirtual 167, 3) := by decide +kernel
theorem dX12_dead_5 : decode cX12_dead 5 = .ok (.ifCond .eq 7, 3) := by decide +kernel
theorem dX12_dead_8 : decode cX12_dead 8 = .ok (.iload_n 1, 1) := by decide +kernel
theorem dX12_dead_9 : decode cX12_dead 9 = .ok (.ifCond .ne 5, 3) := by decide +kernel
theorem dX12_dead_12 : decode cX12_dead 12 = .ok (.iconst (-1), 1) := by decide +kernel
theorem dX12_dead_13 : decode cX12_dead 13 = .ok (.ireturn, 1) := by decide +kernel
theorem dX12_dead_14 : decode cX12_dead 14 = .ok (.aload_n 0, 1) := by decide +kernel
theorem dX12_dead_15 : decode cX12_dead 15 = .ok (.getfield 44, 3) := by decide +kernel
theorem dX12_dead_18 : decode cX12_dead 18 = .ok (.iload_n 1, 1) := by decide +kernel
theorem dX12_dead_19 : decode cX12_dead 19 = .ok (.baload, 1) := by decide +kernel
theorem dX12_dead_20 : decode cX12_dead 20 = .ok (.ifCond .eq 7, 3) := by decide +kernel
theorem dX12_dead_23 : decode cX12_dead 23 = .ok (.iconst 1, 1) := by decide +kernel
theorem dX12_dead_24 : decode cX12_dead 24 = .ok (.goto 4, 3) := by decide +kernel
theorem dX12_dead_27 : decode cX12_dead 27 = .ok (.iconst 0, 1) := by decide +kernel
theorem dX12_dead_28 : decode cX12_dead 28 = .ok (.istore_n 3, 1) := by decide +kernel
theorem dX12_dead_29 : decode cX12_dead 29 = .ok (.aload_n 0, 1) := by decide +kernel
theorem dX12_dead_30 : decode cX12_dead 30 = .ok (.getfield 44, 3) := by decide +kernel
theorem dX12_dead_33 : decode cX12_dead 33 = .ok (.iload_n 1, 1) := by decide +kernel
theorem dX12_dead_34 : decode cX12_dead 34 = .ok (.iload_n 2, 1) := by decide +kernel
theorem dX12_dead_35 : decode cX12_dead 35 = .ok (.bastore, 1) := by decide +kernel
theorem dX12_dead_36 : decode cX12_dead 36 = .ok (.iload_n 3, 1) := by decide +kernel
theorem dX12_dead_37 : decode cX12_dead 37 = .ok (.ireturn, 1) := by decide +kernel
theorem dX12_productOf_0 : decode cX12_productOf 0 = .ok (.lconst 0, 1) := by decide +kernel
theorem dX12_productOf_1 : decode cX12_productOf 1 = .ok (.lstore_n 3, 1) := by decide +kernel
theorem dX12_productOf_2 : decode cX12_productOf 2 = .ok (.iconst 0, 1) := by decide +kernel
theorem dX12_productOf_3 : decode cX12_productOf 3 = .ok (.istore 5, 2) := by decide +kernel
theorem dX12_productOf_5 : decode cX12_productOf 5 = .ok (.iload 5, 2) := by decide +kernel
theorem dX12_productOf_7 : decode cX12_productOf 7 = .ok (.aload_n 0, 1) := by decide +kernel
theorem dX12_productOf_8 : decode cX12_productOf 8 = .ok (.getfield 7, 3) := by decide +kernel
theorem dX12_productOf_11 : decode cX12_productOf 11 = .ok (.if_icmp .ge 37, 3) := by decide +kernel
theorem dX12_productOf_14 : decode cX12_productOf 14 = .ok (.lload_n 3, 1) := by decide +kernel
theorem dX12_productOf_15 : decode cX12_productOf 15 = .ok (.aload_n 0, 1) := by decide +kernel
theorem dX12_productOf_16 : decode cX12_productOf 16 = .ok (.getfield 48, 3) := by decide +kernel
theorem dX12_productOf_19 : decode cX12_productOf 19 = .ok (.bipush 8, 2) := by decide +kernel
theorem dX12_productOf_21 : decode cX12_productOf 21 = .ok (.iload_n 1, 1) := by decide +kernel
theorem dX12_productOf_22 : decode cX12_productOf 22 = .ok (.imul, 1) := by decide +kernel
theorem dX12_productOf_23 : decode cX12_productOf 23 = .ok (.iload 5, 2) := by decide +kernel
theorem dX12_productOf_25 : decode cX12_productOf 25 = .ok (.iadd, 1) := by decide +kernel
theorem dX12_productOf_26 : decode cX12_productOf 26 = .ok (.laload, 1) := by decide +kernel
theorem dX12_productOf_27 : decode cX12_productOf 27 = .ok (.aload_n 0, 1) := by decide +kernel
theorem dX12_productOf_28 : decode cX12_productOf 28 = .ok (.getfield 48, 3) := by decide +kernel
theorem dX12_productOf_31 : decode cX12_productOf 31 = .ok (.bipush 8, 2) := by decide +kernel
theorem dX12_productOf_33 : decode cX12_productOf 33 = .ok (.iload_n 2, 1) := by decide +kernel
theorem dX12_productOf_34 : decode cX12_productOf 34 = .ok (.imul, 1) := by decide +kernel
theorem dX12_productOf_35 : decode cX12_productOf 35 = .ok (.iload 5, 2) := by decide +kernel
theorem dX12_productOf_37 : decode cX12_productOf 37 = .ok (.iadd, 1) := by decide +kernel
theorem dX12_productOf_38 : decode cX12_productOf 38 = .ok (.laload, 1) := by decide +kernel
theorem dX12_productOf_39 : decode cX12_productOf 39 = .ok (.lmul, 1) := by decide +kernel
theorem dX12_productOf_40 : decode cX12_productOf 40 = .ok (.ladd, 1) := by decide +kernel
theorem dX12_productOf_41 : decode cX12_productOf 41 = .ok (.lstore_n 3, 1) := by decide +kernel
theorem dX12_productOf_42 : decode cX12_productOf 42 = .ok (.iinc 5 1, 3) := by decide +kernel
theorem dX12_productOf_45 : decode cX12_productOf 45 = .ok (.goto (-40), 3) := by decide +kernel
theorem dX12_productOf_48 : decode cX12_productOf 48 = .ok (.lload_n 3, 1) := by decide +kernel
theorem dX12_productOf_49 : decode cX12_productOf 49 = .ok (.lreturn, 1) := by decide +kernel
set_option maxRecDepth 20000 in
theorem ggX12_slopesBy_X12_isLost : GoodIn wsX12_slopesBy wsX12_isLost := goodIn_r _ [7, 8, 9, 10, 11, 6, 12, 13, 14, 15, 16, 17, 27, 28, 29, 30, 31, 32, 33, 34, 35, 36, 37, 38, 39, 40, 41, 42, 43, 44, 45, 46, 47, 48, 49, 50, 51, 52, 53, 54, 55, 56, 57, 58, 59, 60, 61, 62, 63, 64, 65, 66, 67] (by decide +kernel) (by decide +kernel)
set_option maxRecDepth 20000 in
theorem gX12_slopesBy_X12_isLost : GoodIn wsX12_slopesBy (wsV RX12 161 RX12 yX12_isLost wsX12_isLost) := goodIn_app (goodIn_of _ (by decide +kernel)) ggX12_slopesBy_X12_isLost
set_option maxRecDepth 20000 in
theorem ggX12_slopesBy_X12_slopeOf : GoodIn wsX12_slopesBy wsX12_slopeOf := goodIn_r _ [21, 22, 23, 24, 25, 6, 26, 13, 14, 15, 16, 17, 8, 9, 10, 11, 12, 27, 28, 29, 30, 31, 32, 33, 34, 35, 36, 37, 38, 39, 40, 41, 42, 43, 44, 45, 46, 47, 48, 49, 50, 51, 52, 53, 54, 55, 56, 57, 58, 59, 60, 61, 62, 63, 64, 65, 66, 67] (by decide +kernel) (by decide +kernel)
set_option maxRecDepth 20000 in
theorem gX12_slopesBy_X12_slopeOf : GoodIn wsX12_slopesBy (wsV RX12 164 RX12 yX12_slopeOf wsX12_slopeOf) := goodIn_app (goodIn_of _ (by decide +kernel)) ggX12_slopesBy_X12_slopeOf
theorem dX12_slopesBy_0 : decode cX12_slopesBy 0 = .ok (.lconst 0, 1) := by decide +kernel
theorem dX12_slopesBy_1 : decode cX12_slopesBy 1 = .ok (.lstore_n 2, 1) := by decide +kernel
theorem dX12_slopesBy_2 : decode cX12_slopesBy 2 = .ok (.iconst 0, 1) := by decide +kernel
theorem dX12_slopesBy_3 : decode cX12_slopesBy 3 = .ok (.istore 4, 2) := by decide +kernel
theorem dX12_slopesBy_5 : decode cX12_slopesBy 5 = .ok (.iload 4, 2) := by decide +kernel
theorem dX12_slopesBy_7 : decode cX12_slopesBy 7 = .ok (.aload_n 0, 1) := by decide +kernel
theorem dX12_slopesBy_8 : decode cX12_slopesBy 8 = .ok (.getfield 7, 3) := by decide +kernel
theorem dX12_slopesBy_11 : decode cX12_slopesBy 11 = .ok (.if_icmp .ge 45, 3) := by decide +kernel
theorem dX12_slopesBy_14 : decode cX12_slopesBy 14 = .ok (.lload_n 2, 1) := by decide +kernel
theorem dX12_slopesBy_15 : decode cX12_slopesBy 15 = .ok (.aload_n 0, 1) := by decide +kernel
theorem dX12_slopesBy_16 : decode cX12_slopesBy 16 = .ok (.iload 4, 2) := by decide +kernel
theorem dX12_slopesBy_18 : decode cX12_slopesBy 18 = .ok (.invokevirtual 161, 3) := by decide +kernel
theorem dX12_slopesBy_21 : decode cX12_slopesBy 21 = .ok (.ifCond .eq 7, 3) := by decide +kernel
theorem dX12_slopesBy_24 : decode cX12_slopesBy 24 = .ok (.lconst 0, 1) := by decide +kernel
theorem dX12_slopesBy_25 : decode cX12_slopesBy 25 = .ok (.goto 23, 3) := by decide +kernel
theorem dX12_slopesBy_28 : decode cX12_slopesBy 28 = .ok (.aload_n 0, 1) := by decide +kernel
theorem dX12_slopesBy_29 : decode cX12_slopesBy 29 = .ok (.getfield 48, 3) := by decide +kernel
theorem dX12_slopesBy_32 : decode cX12_slopesBy 32 = .ok (.bipush 8, 2) := by decide +kernel
theorem dX12_slopesBy_34 : decode cX12_slopesBy 34 = .ok (.iload_n 1, 1) := by decide +kernel
theorem dX12_slopesBy_35 : decode cX12_slopesBy 35 = .ok (.imul, 1) := by decide +kernel
theorem dX12_slopesBy_36 : decode cX12_slopesBy 36 = .ok (.iload 4, 2) := by decide +kernel
theorem dX12_slopesBy_38 : decode cX12_slopesBy 38 = .ok (.iadd, 1) := by decide +kernel
theorem dX12_slopesBy_39 : decode cX12_slopesBy 39 = .ok (.laload, 1) := by decide +kernel
theorem dX12_slopesBy_40 : decode cX12_slopesBy 40 = .ok (.aload_n 0, 1) := by decide +kernel
theorem dX12_slopesBy_41 : decode cX12_slopesBy 41 = .ok (.iload 4, 2) := by decide +kernel
theorem dX12_slopesBy_43 : decode cX12_slopesBy 43 = .ok (.invokevirtual 164, 3) := by decide +kernel
theorem dX12_slopesBy_46 : decode cX12_slopesBy 46 = .ok (.i2l, 1) := by decide +kernel
theorem dX12_slopesBy_47 : decode cX12_slopesBy 47 = .ok (.lmul, 1) := by decide +kernel
theorem dX12_slopesBy_48 : decode cX12_slopesBy 48 = .ok (.ladd, 1) := by decide +kernel
theorem dX12_slopesBy_49 : decode cX12_slopesBy 49 = .ok (.lstore_n 2, 1) := by decide +kernel
theorem dX12_slopesBy_50 : decode cX12_slopesBy 50 = .ok (.iinc 4 1, 3) := by decide +kernel
theorem dX12_slopesBy_53 : decode cX12_slopesBy 53 = .ok (.goto (-48), 3) := by decide +kernel
theorem dX12_slopesBy_56 : decode cX12_slopesBy 56 = .ok (.lload_n 2, 1) := by decide +kernel
theorem dX12_slopesBy_57 : decode cX12_slopesBy 57 = .ok (.lreturn, 1) := by decide +kernel
theorem dX12_spanOf_0 : decode cX12_spanOf 0 = .ok (.aload_n 0, 1) := by decide +kernel
theorem dX12_spanOf_1 : decode cX12_spanOf 1 = .ok (.getfield 58, 3) := by decide +kernel
theorem dX12_spanOf_4 : decode cX12_spanOf 4 = .ok (.iconst 0, 1) := by decide +kernel
theorem dX12_spanOf_5 : decode cX12_spanOf 5 = .ok (.lconst 1, 1) := by decide +kernel
theorem dX12_spanOf_6 : decode cX12_spanOf 6 = .ok (.lastore, 1) := by decide +kernel
theorem dX12_spanOf_7 : decode cX12_spanOf 7 = .ok (.iconst 1, 1) := by decide +kernel
theorem dX12_spanOf_8 : decode cX12_spanOf 8 = .ok (.istore_n 3, 1) := by decide +kernel
theorem dX12_spanOf_9 : decode cX12_spanOf 9 = .ok (.iload_n 3, 1) := by decide +kernel
theorem dX12_spanOf_10 : decode cX12_spanOf 10 = .ok (.iconst 1, 1) := by decide +kernel
theorem dX12_spanOf_11 : decode cX12_spanOf 11 = .ok (.iload_n 1, 1) := by decide +kernel
theorem dX12_spanOf_12 : decode cX12_spanOf 12 = .ok (.ishl, 1) := by decide +kernel
theorem dX12_spanOf_13 : decode cX12_spanOf 13 = .ok (.if_icmp .ge 137, 3) := by decide +kernel
theorem dX12_spanOf_16 : decode cX12_spanOf 16 = .ok (.iconst (-1), 1) := by decide +kernel
theorem dX12_spanOf_17 : decode cX12_spanOf 17 = .ok (.istore 4, 2) := by decide +kernel
theorem dX12_spanOf_19 : decode cX12_spanOf 19 = .ok (.iload_n 3, 1) := by decide +kernel
theorem dX12_spanOf_20 : decode cX12_spanOf 20 = .ok (.istore 5, 2) := by decide +kernel
theorem dX12_spanOf_22 : decode cX12_spanOf 22 = .ok (.iload 5, 2) := by decide +kernel
theorem dX12_spanOf_24 : decode cX12_spanOf 24 = .ok (.ifCond .eq 18, 3) := by decide +kernel
theorem dX12_spanOf_27 : decode cX12_spanOf 27 = .ok (.iinc 4 1, 3) := by decide +kernel
theorem dX12_spanOf_30 : decode cX12_spanOf 30 = .ok (.iload 5, 2) := by decide +kernel
theorem dX12_spanOf_32 : decode cX12_spanOf 32 = .ok (.iload 5, 2) := by decide +kernel
theorem dX12_spanOf_34 : decode cX12_spanOf 34 = .ok (.iconst 1, 1) := by decide +kernel
theorem dX12_spanOf_35 : decode cX12_spanOf 35 = .ok (.isub, 1) := by decide +kernel
theorem dX12_spanOf_36 : decode cX12_spanOf 36 = .ok (.iand, 1) := by decide +kernel
theorem dX12_spanOf_37 : decode cX12_spanOf 37 = .ok (.istore 5, 2) := by decide +kernel
theorem dX12_spanOf_39 : decode cX12_spanOf 39 = .ok (.goto (-17), 3) := by decide +kernel
theorem dX12_spanOf_42 : decode cX12_spanOf 42 = .ok (.lconst 0, 1) := by decide +kernel
theorem dX12_spanOf_43 : decode cX12_spanOf 43 = .ok (.lstore 5, 2) := by decide +kernel
theorem dX12_spanOf_45 : decode cX12_spanOf 45 = .ok (.iload 4, 2) := by decide +kernel
theorem dX12_spanOf_47 : decode cX12_spanOf 47 = .ok (.istore 7, 2) := by decide +kernel
theorem dX12_spanOf_49 : decode cX12_spanOf 49 = .ok (.iconst 0, 1) := by decide +kernel
theorem dX12_spanOf_50 : decode cX12_spanOf 50 = .ok (.istore 8, 2) := by decide +kernel
theorem dX12_spanOf_52 : decode cX12_spanOf 52 = .ok (.iload 8, 2) := by decide +kernel
theorem dX12_spanOf_54 : decode cX12_spanOf 54 = .ok (.iload_n 1, 1) := by decide +kernel
theorem dX12_spanOf_55 : decode cX12_spanOf 55 = .ok (.if_icmp .ge 81, 3) := by decide +kernel
theorem dX12_spanOf_58 : decode cX12_spanOf 58 = .ok (.iload_n 3, 1) := by decide +kernel
theorem dX12_spanOf_59 : decode cX12_spanOf 59 = .ok (.iload 8, 2) := by decide +kernel
theorem dX12_spanOf_61 : decode cX12_spanOf 61 = .ok (.ishr, 1) := by decide +kernel
theorem dX12_spanOf_62 : decode cX12_spanOf 62 = .ok (.iconst 1, 1) := by decide +kernel
theorem dX12_spanOf_63 : decode cX12_spanOf 63 = .ok (.iand, 1) := by decide +kernel
theorem dX12_spanOf_64 : decode cX12_spanOf 64 = .ok (.iconst 1, 1) := by decide +kernel
theorem dX12_spanOf_65 : decode cX12_spanOf 65 = .ok (.if_icmp .ne 65, 3) := by decide +kernel
theorem dX12_spanOf_68 : decode cX12_spanOf 68 = .ok (.aload_n 0, 1) := by decide +kernel
theorem dX12_spanOf_69 : decode cX12_spanOf 69 = .ok (.getfield 55, 3) := by decide +kernel
theorem dX12_spanOf_72 : decode cX12_spanOf 72 = .ok (.bipush 6, 2) := by decide +kernel
theorem dX12_spanOf_74 : decode cX12_spanOf 74 = .ok (.iload 4, 2) := by decide +kernel
theorem dX12_spanOf_76 : decode cX12_spanOf 76 = .ok (.imul, 1) := by decide +kernel
theorem dX12_spanOf_77 : decode cX12_spanOf 77 = .ok (.iload 8, 2) := by decide +kernel
theorem dX12_spanOf_79 : decode cX12_spanOf 79 = .ok (.iload_n 2, 1) := by decide +kernel
theorem dX12_spanOf_80 : decode cX12_spanOf 80 = .ok (.if_icmp .ne 7, 3) := by decide +kernel
theorem dX12_spanOf_83 : decode cX12_spanOf 83 = .ok (.iconst 5, 1) := by decide +kernel
theorem dX12_spanOf_84 : decode cX12_spanOf 84 = .ok (.goto 5, 3) := by decide +kernel
theorem dX12_spanOf_87 : decode cX12_spanOf 87 = .ok (.iload 8, 2) := by decide +kernel
theorem dX12_spanOf_89 : decode cX12_spanOf 89 = .ok (.iadd, 1) := by decide +kernel
theorem dX12_spanOf_90 : decode cX12_spanOf 90 = .ok (.laload, 1) := by decide +kernel
theorem dX12_spanOf_91 : decode cX12_spanOf 91 = .ok (.aload_n 0, 1) := by decide +kernel
theorem dX12_spanOf_92 : decode cX12_spanOf 92 = .ok (.getfield 58, 3) := by decide +kernel
theorem dX12_spanOf_95 : decode cX12_spanOf 95 = .ok (.iload_n 3, 1) := by decide +kernel
theorem dX12_spanOf_96 : decode cX12_spanOf 96 = .ok (.iconst 1, 1) := by decide +kernel
theorem dX12_spanOf_97 : decode cX12_spanOf 97 = .ok (.iload 8, 2) := by decide +kernel
theorem dX12_spanOf_99 : decode cX12_spanOf 99 = .ok (.ishl, 1) := by decide +kernel
theorem dX12_spanOf_100 : decode cX12_spanOf 100 = .ok (.iconst (-1), 1) := by decide +kernel
theorem dX12_spanOf_101 : decode cX12_spanOf 101 = .ok (.ixor, 1) := by decide +kernel
theorem dX12_spanOf_102 : decode cX12_spanOf 102 = .ok (.iand, 1) := by decide +kernel
theorem dX12_spanOf_103 : decode cX12_spanOf 103 = .ok (.laload, 1) := by decide +kernel
theorem dX12_spanOf_104 : decode cX12_spanOf 104 = .ok (.lmul, 1) := by decide +kernel
theorem dX12_spanOf_105 : decode cX12_spanOf 105 = .ok (.lstore 9, 2) := by decide +kernel
theorem dX12_spanOf_107 : decode cX12_spanOf 107 = .ok (.lload 5, 2) := by decide +kernel
theorem dX12_spanOf_109 : decode cX12_spanOf 109 = .ok (.iload 7, 2) := by decide +kernel
theorem dX12_spanOf_111 : decode cX12_spanOf 111 = .ok (.iconst 2, 1) := by decide +kernel
theorem dX12_spanOf_112 : decode cX12_spanOf 112 = .ok (.irem, 1) := by decide +kernel
theorem dX12_spanOf_113 : decode cX12_spanOf 113 = .ok (.ifCond .ne 8, 3) := by decide +kernel
theorem dX12_spanOf_116 : decode cX12_spanOf 116 = .ok (.lload 9, 2) := by decide +kernel
theorem dX12_spanOf_118 : decode cX12_spanOf 118 = .ok (.goto 6, 3) := by decide +kernel
theorem dX12_spanOf_121 : decode cX12_spanOf 121 = .ok (.lload 9, 2) := by decide +kernel
theorem dX12_spanOf_123 : decode cX12_spanOf 123 = .ok (.lneg, 1) := by decide +kernel
theorem dX12_spanOf_124 : decode cX12_spanOf 124 = .ok (.ladd, 1) := by decide +kernel
theorem dX12_spanOf_125 : decode cX12_spanOf 125 = .ok (.lstore 5, 2) := by decide +kernel
theorem dX12_spanOf_127 : decode cX12_spanOf 127 = .ok (.iinc 7 (-1), 3) := by decide +kernel
theorem dX12_spanOf_130 : decode cX12_spanOf 130 = .ok (.iinc 8 1, 3) := by decide +kernel
theorem dX12_spanOf_133 : decode cX12_spanOf 133 = .ok (.goto (-81), 3) := by decide +kernel
theorem dX12_spanOf_136 : decode cX12_spanOf 136 = .ok (.aload_n 0, 1) := by decide +kernel
theorem dX12_spanOf_137 : decode cX12_spanOf 137 = .ok (.getfield 58, 3) := by decide +kernel
theorem dX12_spanOf_140 : decode cX12_spanOf 140 = .ok (.iload_n 3, 1) := by decide +kernel
theorem dX12_spanOf_141 : decode cX12_spanOf 141 = .ok (.lload 5, 2) := by decide +kernel
theorem dX12_spanOf_143 : decode cX12_spanOf 143 = .ok (.lastore, 1) := by decide +kernel
theorem dX12_spanOf_144 : decode cX12_spanOf 144 = .ok (.iinc 3 1, 3) := by decide +kernel
theorem dX12_spanOf_147 : decode cX12_spanOf 147 = .ok (.goto (-138), 3) := by decide +kernel
theorem dX12_spanOf_150 : decode cX12_spanOf 150 = .ok (.aload_n 0, 1) := by decide +kernel
theorem dX12_spanOf_151 : decode cX12_spanOf 151 = .ok (.getfield 58, 3) := by decide +kernel
theorem dX12_spanOf_154 : decode cX12_spanOf 154 = .ok (.iconst 1, 1) := by decide +kernel
theorem dX12_spanOf_155 : decode cX12_spanOf 155 = .ok (.iload_n 1, 1) := by decide +kernel
theorem dX12_spanOf_156 : decode cX12_spanOf 156 = .ok (.ishl, 1) := by decide +kernel
theorem dX12_spanOf_157 : decode cX12_spanOf 157 = .ok (.iconst 1, 1) := by decide +kernel
theorem dX12_spanOf_158 : decode cX12_spanOf 158 = .ok (.isub, 1) := by decide +kernel
theorem dX12_spanOf_159 : decode cX12_spanOf 159 = .ok (.laload, 1) := by decide +kernel
theorem dX12_spanOf_160 : decode cX12_spanOf 160 = .ok (.lreturn, 1) := by decide +kernel
set_option maxRecDepth 20000 in
theorem ggX12_findColumns_X12_isLost : GoodIn wsX12_findColumns wsX12_isLost := goodIn_r _ [14, 15, 16, 17, 18, 13, 19, 20, 21, 22, 23, 24, 47, 48, 49, 50, 51, 52, 53, 54, 55, 56, 57, 58, 59, 60, 61, 62, 63, 64, 65, 66, 67, 68, 69, 70, 71, 72, 73, 74, 75, 76, 77, 78, 79, 80, 81, 82, 83, 84, 85, 86, 87] (by decide +kernel) (by decide +kernel)
set_option maxRecDepth 20000 in
theorem gX12_findColumns_X12_isLost : GoodIn wsX12_findColumns (wsV RX12 161 RX12 yX12_isLost wsX12_isLost) := goodIn_app (goodIn_of _ (by decide +kernel)) ggX12_findColumns_X12_isLost
set_option maxRecDepth 20000 in
theorem ggX12_findColumns_X12_productOf : GoodIn wsX12_findColumns wsX12_productOf := goodIn_r _ [28, 4, 1, 47, 48, 49, 50, 51, 52, 53, 54, 55, 56, 57, 58, 59, 60, 61, 62, 63, 64, 65, 66, 67, 68, 69, 70, 71, 72, 73, 74, 75, 76, 77, 78, 79, 80, 81, 82, 83, 84, 85, 86, 87] (by decide +kernel) (by decide +kernel)
set_option maxRecDepth 20000 in
theorem gX12_findColumns_X12_productOf : GoodIn wsX12_findColumns (wsV RX12 202 RX12 yX12_productOf wsX12_productOf) := goodIn_app (goodIn_of _ (by decide +kernel)) ggX12_findColumns_X12_productOf
set_option maxRecDepth 20000 in
theorem ggX12_findColumns_X12_slopesBy : GoodIn wsX12_findColumns wsX12_slopesBy := goodIn_r _ [32, 4, 1, 10, 11, 12, 13, 14, 15, 16, 17, 18, 19, 20, 21, 22, 23, 24, 33, 34, 35, 36, 37, 38, 39, 40, 41, 47, 48, 49, 50, 51, 52, 53, 54, 55, 56, 57, 58, 59, 60, 61, 62, 63, 64, 65, 66, 67, 68, 69, 70, 71, 72, 73, 74, 75, 76, 77, 78, 79, 80, 81, 82, 83, 84, 85, 86, 87] (by decide +kernel) (by decide +kernel)
set_option maxRecDepth 20000 in
theorem gX12_findColumns_X12_slopesBy : GoodIn wsX12_findColumns (wsV RX12 206 RX12 yX12_slopesBy wsX12_slopesBy) := goodIn_app (goodIn_of _ (by decide +kernel)) ggX12_findColumns_X12_slopesBy
set_option maxRecDepth 20000 in
theorem ggX12_findColumns_X12_spanOf : GoodIn wsX12_findColumns wsX12_spanOf := goodIn_r _ [45, 46, 9, 47, 48, 49, 50, 51, 52, 53, 54, 55, 56, 57, 58, 59, 60, 61, 62, 63, 64, 65, 66, 67, 68, 69, 70, 71, 72, 73, 74, 75, 76, 77, 78, 79, 80, 81, 82, 83, 84, 85, 86, 87] (by decide +kernel) (by decide +kernel)
set_option maxRecDepth 20000 in
theorem gX12_findColumns_X12_spanOf : GoodIn wsX12_findColumns (wsV RX12 210 RX12 yX12_spanOf wsX12_spanOf) := goodIn_app (goodIn_of _ (by decide +kernel)) ggX12_findColumns_X12_spanOf
theorem dX12_findColumns_0 : decode cX12_findColumns 0 = .ok (.iconst 0, 1) := by decide +kernel
theorem dX12_findColumns_1 : decode cX12_findColumns 1 = .ok (.istore_n 1, 1) := by decide +kernel
theorem dX12_findColumns_2 : decode cX12_findColumns 2 = .ok (.iload_n 1, 1) := by decide +kernel
theorem dX12_findColumns_3 : decode cX12_findColumns 3 = .ok (.bipush 40, 2) := by decide +kernel
theorem dX12_findColumns_5 : decode cX12_findColumns 5 = .ok (.if_icmp .ge 16, 3) := by decide +kernel
theorem dX12_findColumns_8 : decode cX12_findColumns 8 = .ok (.aload_n 0, 1) := by decide +kernel
theorem dX12_findColumns_9 : decode cX12_findColumns 9 = .ok (.getfield 48, 3) := by decide +kernel
theorem dX12_findColumns_12 : decode cX12_findColumns 12 = .ok (.iload_n 1, 1) := by decide +kernel
theorem dX12_findColumns_13 : decode cX12_findColumns 13 = .ok (.lconst 0, 1) := by decide +kernel
theorem dX12_findColumns_14 : decode cX12_findColumns 14 = .ok (.lastore, 1) := by decide +kernel
theorem dX12_findColumns_15 : decode cX12_findColumns 15 = .ok (.iinc 1 1, 3) := by decide +kernel
theorem dX12_findColumns_18 : decode cX12_findColumns 18 = .ok (.goto (-16), 3) := by decide +kernel
theorem dX12_findColumns_21 : decode cX12_findColumns 21 = .ok (.iconst 0, 1) := by decide +kernel
theorem dX12_findColumns_22 : decode cX12_findColumns 22 = .ok (.istore_n 1, 1) := by decide +kernel
theorem dX12_findColumns_23 : decode cX12_findColumns 23 = .ok (.iconst 0, 1) := by decide +kernel
theorem dX12_findColumns_24 : decode cX12_findColumns 24 = .ok (.istore_n 2, 1) := by decide +kernel
theorem dX12_findColumns_25 : decode cX12_findColumns 25 = .ok (.iload_n 2, 1) := by decide +kernel
theorem dX12_findColumns_26 : decode cX12_findColumns 26 = .ok (.aload_n 0, 1) := by decide +kernel
theorem dX12_findColumns_27 : decode cX12_findColumns 27 = .ok (.getfield 13, 3) := by decide +kernel
theorem dX12_findColumns_30 : decode cX12_findColumns 30 = .ok (.if_icmp .ge 77, 3) := by decide +kernel
theorem dX12_findColumns_33 : decode cX12_findColumns 33 = .ok (.aload_n 0, 1) := by decide +kernel
theorem dX12_findColumns_34 : decode cX12_findColumns 34 = .ok (.getfield 44, 3) := by decide +kernel
theorem dX12_findColumns_37 : decode cX12_findColumns 37 = .ok (.iload_n 2, 1) := by decide +kernel
theorem dX12_findColumns_38 : decode cX12_findColumns 38 = .ok (.baload, 1) := by decide +kernel
theorem dX12_findColumns_39 : decode cX12_findColumns 39 = .ok (.ifCond .eq 7, 3) := by decide +kernel
theorem dX12_findColumns_42 : decode cX12_findColumns 42 = .ok (.iload_n 1, 1) := by decide +kernel
theorem dX12_findColumns_43 : decode cX12_findColumns 43 = .ok (.goto 4, 3) := by decide +kernel
theorem dX12_findColumns_46 : decode cX12_findColumns 46 = .ok (.iload_n 2, 1) := by decide +kernel
theorem dX12_findColumns_47 : decode cX12_findColumns 47 = .ok (.istore_n 1, 1) := by decide +kernel
theorem dX12_findColumns_48 : decode cX12_findColumns 48 = .ok (.iconst 0, 1) := by decide +kernel
theorem dX12_findColumns_49 : decode cX12_findColumns 49 = .ok (.istore_n 3, 1) := by decide +kernel
theorem dX12_findColumns_50 : decode cX12_findColumns 50 = .ok (.iload_n 3, 1) := by decide +kernel
theorem dX12_findColumns_51 : decode cX12_findColumns 51 = .ok (.aload_n 0, 1) := by decide +kernel
theorem dX12_findColumns_52 : decode cX12_findColumns 52 = .ok (.getfield 7, 3) := by decide +kernel
theorem dX12_findColumns_55 : decode cX12_findColumns 55 = .ok (.if_icmp .ge 46, 3) := by decide +kernel
theorem dX12_findColumns_58 : decode cX12_findColumns 58 = .ok (.aload_n 0, 1) := by decide +kernel
theorem dX12_findColumns_59 : decode cX12_findColumns 59 = .ok (.getfield 48, 3) := by decide +kernel
theorem dX12_findColumns_62 : decode cX12_findColumns 62 = .ok (.bipush 8, 2) := by decide +kernel
theorem dX12_findColumns_64 : decode cX12_findColumns 64 = .ok (.iload_n 1, 1) := by decide +kernel
theorem dX12_findColumns_65 : decode cX12_findColumns 65 = .ok (.imul, 1) := by decide +kernel
theorem dX12_findColumns_66 : decode cX12_findColumns 66 = .ok (.iload_n 3, 1) := by decide +kernel
theorem dX12_findColumns_67 : decode cX12_findColumns 67 = .ok (.iadd, 1) := by decide +kernel
theorem dX12_findColumns_68 : decode cX12_findColumns 68 = .ok (.dup2, 1) := by decide +kernel
theorem dX12_findColumns_69 : decode cX12_findColumns 69 = .ok (.laload, 1) := by decide +kernel
theorem dX12_findColumns_70 : decode cX12_findColumns 70 = .ok (.aload_n 0, 1) := by decide +kernel
theorem dX12_findColumns_71 : decode cX12_findColumns 71 = .ok (.iload_n 3, 1) := by decide +kernel
theorem dX12_findColumns_72 : decode cX12_findColumns 72 = .ok (.invokevirtual 161, 3) := by decide +kernel
theorem dX12_findColumns_75 : decode cX12_findColumns 75 = .ok (.ifCond .eq 7, 3) := by decide +kernel
theorem dX12_findColumns_78 : decode cX12_findColumns 78 = .ok (.lconst 0, 1) := by decide +kernel
theorem dX12_findColumns_79 : decode cX12_findColumns 79 = .ok (.goto 14, 3) := by decide +kernel
theorem dX12_findColumns_82 : decode cX12_findColumns 82 = .ok (.aload_n 0, 1) := by decide +kernel
theorem dX12_findColumns_83 : decode cX12_findColumns 83 = .ok (.getfield 23, 3) := by decide +kernel
theorem dX12_findColumns_86 : decode cX12_findColumns 86 = .ok (.iconst 5, 1) := by decide +kernel
theorem dX12_findColumns_87 : decode cX12_findColumns 87 = .ok (.iload_n 3, 1) := by decide +kernel
theorem dX12_findColumns_88 : decode cX12_findColumns 88 = .ok (.imul, 1) := by decide +kernel
theorem dX12_findColumns_89 : decode cX12_findColumns 89 = .ok (.iload_n 2, 1) := by decide +kernel
theorem dX12_findColumns_90 : decode cX12_findColumns 90 = .ok (.iadd, 1) := by decide +kernel
theorem dX12_findColumns_91 : decode cX12_findColumns 91 = .ok (.iaload, 1) := by decide +kernel
theorem dX12_findColumns_92 : decode cX12_findColumns 92 = .ok (.i2l, 1) := by decide +kernel
theorem dX12_findColumns_93 : decode cX12_findColumns 93 = .ok (.ladd, 1) := by decide +kernel
theorem dX12_findColumns_94 : decode cX12_findColumns 94 = .ok (.lastore, 1) := by decide +kernel
theorem dX12_findColumns_95 : decode cX12_findColumns 95 = .ok (.iinc 3 1, 3) := by decide +kernel
theorem dX12_findColumns_98 : decode cX12_findColumns 98 = .ok (.goto (-48), 3) := by decide +kernel
theorem dX12_findColumns_101 : decode cX12_findColumns 101 = .ok (.iinc 2 1, 3) := by decide +kernel
theorem dX12_findColumns_104 : decode cX12_findColumns 104 = .ok (.goto (-79), 3) := by decide +kernel
theorem dX12_findColumns_107 : decode cX12_findColumns 107 = .ok (.aload_n 0, 1) := by decide +kernel
theorem dX12_findColumns_108 : decode cX12_findColumns 108 = .ok (.iconst 0, 1) := by decide +kernel
theorem dX12_findColumns_109 : decode cX12_findColumns 109 = .ok (.putfield 196, 3) := by decide +kernel
theorem dX12_findColumns_112 : decode cX12_findColumns 112 = .ok (.aload_n 0, 1) := by decide +kernel
theorem dX12_findColumns_113 : decode cX12_findColumns 113 = .ok (.iconst 0, 1) := by decide +kernel
theorem dX12_findColumns_114 : decode cX12_findColumns 114 = .ok (.putfield 199, 3) := by decide +kernel
theorem dX12_findColumns_117 : decode cX12_findColumns 117 = .ok (.iconst 0, 1) := by decide +kernel
theorem dX12_findColumns_118 : decode cX12_findColumns 118 = .ok (.istore_n 2, 1) := by decide +kernel
theorem dX12_findColumns_119 : decode cX12_findColumns 119 = .ok (.iload_n 2, 1) := by decide +kernel
theorem dX12_findColumns_120 : decode cX12_findColumns 120 = .ok (.aload_n 0, 1) := by decide +kernel
theorem dX12_findColumns_121 : decode cX12_findColumns 121 = .ok (.getfield 13, 3) := by decide +kernel
theorem dX12_findColumns_124 : decode cX12_findColumns 124 = .ok (.if_icmp .ge 154, 3) := by decide +kernel
theorem dX12_findColumns_127 : decode cX12_findColumns 127 = .ok (.aload_n 0, 1) := by decide +kernel
theorem dX12_findColumns_128 : decode cX12_findColumns 128 = .ok (.getfield 44, 3) := by decide +kernel
theorem dX12_findColumns_131 : decode cX12_findColumns 131 = .ok (.iload_n 2, 1) := by decide +kernel
theorem dX12_findColumns_132 : decode cX12_findColumns 132 = .ok (.baload, 1) := by decide +kernel
theorem dX12_findColumns_133 : decode cX12_findColumns 133 = .ok (.ifCond .ne 139, 3) := by decide +kernel
theorem dX12_findColumns_136 : decode cX12_findColumns 136 = .ok (.aload_n 0, 1) := by decide +kernel
theorem dX12_findColumns_137 : decode cX12_findColumns 137 = .ok (.getfield 52, 3) := by decide +kernel
theorem dX12_findColumns_140 : decode cX12_findColumns 140 = .ok (.aload_n 0, 1) := by decide +kernel
theorem dX12_findColumns_141 : decode cX12_findColumns 141 = .ok (.getfield 196, 3) := by decide +kernel
theorem dX12_findColumns_144 : decode cX12_findColumns 144 = .ok (.iload_n 2, 1) := by decide +kernel
theorem dX12_findColumns_145 : decode cX12_findColumns 145 = .ok (.iastore, 1) := by decide +kernel
theorem dX12_findColumns_146 : decode cX12_findColumns 146 = .ok (.iconst 0, 1) := by decide +kernel
theorem dX12_findColumns_147 : decode cX12_findColumns 147 = .ok (.istore_n 3, 1) := by decide +kernel
theorem dX12_findColumns_148 : decode cX12_findColumns 148 = .ok (.iload_n 3, 1) := by decide +kernel
theorem dX12_findColumns_149 : decode cX12_findColumns 149 = .ok (.aload_n 0, 1) := by decide +kernel
theorem dX12_findColumns_150 : decode cX12_findColumns 150 = .ok (.getfield 196, 3) := by decide +kernel
theorem dX12_findColumns_153 : decode cX12_findColumns 153 = .ok (.if_icmp .gt 62, 3) := by decide +kernel
theorem dX12_findColumns_156 : decode cX12_findColumns 156 = .ok (.aload_n 0, 1) := by decide +kernel
theorem dX12_findColumns_157 : decode cX12_findColumns 157 = .ok (.getfield 55, 3) := by decide +kernel
theorem dX12_findColumns_160 : decode cX12_findColumns 160 = .ok (.bipush 6, 2) := by decide +kernel
theorem dX12_findColumns_162 : decode cX12_findColumns 162 = .ok (.aload_n 0, 1) := by decide +kernel
theorem dX12_findColumns_163 : decode cX12_findColumns 163 = .ok (.getfield 196, 3) := by decide +kernel
theorem dX12_findColumns_166 : decode cX12_findColumns 166 = .ok (.imul, 1) := by decide +kernel
theorem dX12_findColumns_167 : decode cX12_findColumns 167 = .ok (.iload_n 3, 1) := by decide +kernel
theorem dX12_findColumns_168 : decode cX12_findColumns 168 = .ok (.iadd, 1) := by decide +kernel
theorem dX12_findColumns_169 : decode cX12_findColumns 169 = .ok (.aload_n 0, 1) := by decide +kernel
theorem dX12_findColumns_170 : decode cX12_findColumns 170 = .ok (.iload_n 2, 1) := by decide +kernel
theorem dX12_findColumns_171 : decode cX12_findColumns 171 = .ok (.aload_n 0, 1) := by decide +kernel
theorem dX12_findColumns_172 : decode cX12_findColumns 172 = .ok (.getfield 52, 3) := by decide +kernel
theorem dX12_findColumns_175 : decode cX12_findColumns 175 = .ok (.iload_n 3, 1) := by decide +kernel
theorem dX12_findColumns_176 : decode cX12_findColumns 176 = .ok (.iaload, 1) := by decide +kernel
theorem dX12_findColumns_177 : decode cX12_findColumns 177 = .ok (.invokevirtual 202, 3) := by decide +kernel
theorem dX12_findColumns_180 : decode cX12_findColumns 180 = .ok (.lastore, 1) := by decide +kernel
theorem dX12_findColumns_181 : decode cX12_findColumns 181 = .ok (.aload_n 0, 1) := by decide +kernel
theorem dX12_findColumns_182 : decode cX12_findColumns 182 = .ok (.getfield 55, 3) := by decide +kernel
theorem dX12_findColumns_185 : decode cX12_findColumns 185 = .ok (.bipush 6, 2) := by decide +kernel
theorem dX12_findColumns_187 : decode cX12_findColumns 187 = .ok (.iload_n 3, 1) := by decide +kernel
theorem dX12_findColumns_188 : decode cX12_findColumns 188 = .ok (.imul, 1) := by decide +kernel
theorem dX12_findColumns_189 : decode cX12_findColumns 189 = .ok (.aload_n 0, 1) := by decide +kernel
theorem dX12_findColumns_190 : decode cX12_findColumns 190 = .ok (.getfield 196, 3) := by decide +kernel
theorem dX12_findColumns_193 : decode cX12_findColumns 193 = .ok (.iadd, 1) := by decide +kernel
theorem dX12_findColumns_194 : decode cX12_findColumns 194 = .ok (.aload_n 0, 1) := by decide +kernel
theorem dX12_findColumns_195 : decode cX12_findColumns 195 = .ok (.getfield 55, 3) := by decide +kernel
theorem dX12_findColumns_198 : decode cX12_findColumns 198 = .ok (.bipush 6, 2) := by decide +kernel
theorem dX12_findColumns_200 : decode cX12_findColumns 200 = .ok (.aload_n 0, 1) := by decide +kernel
theorem dX12_findColumns_201 : decode cX12_findColumns 201 = .ok (.getfield 196, 3) := by decide +kernel
theorem dX12_findColumns_204 : decode cX12_findColumns 204 = .ok (.imul, 1) := by decide +kernel
theorem dX12_findColumns_205 : decode cX12_findColumns 205 = .ok (.iload_n 3, 1) := by decide +kernel
theorem dX12_findColumns_206 : decode cX12_findColumns 206 = .ok (.iadd, 1) := by decide +kernel
theorem dX12_findColumns_207 : decode cX12_findColumns 207 = .ok (.laload, 1) := by decide +kernel
theorem dX12_findColumns_208 : decode cX12_findColumns 208 = .ok (.lastore, 1) := by decide +kernel
theorem dX12_findColumns_209 : decode cX12_findColumns 209 = .ok (.iinc 3 1, 3) := by decide +kernel
theorem dX12_findColumns_212 : decode cX12_findColumns 212 = .ok (.goto (-64), 3) := by decide +kernel
theorem dX12_findColumns_215 : decode cX12_findColumns 215 = .ok (.aload_n 0, 1) := by decide +kernel
theorem dX12_findColumns_216 : decode cX12_findColumns 216 = .ok (.getfield 55, 3) := by decide +kernel
theorem dX12_findColumns_219 : decode cX12_findColumns 219 = .ok (.bipush 6, 2) := by decide +kernel
theorem dX12_findColumns_221 : decode cX12_findColumns 221 = .ok (.aload_n 0, 1) := by decide +kernel
theorem dX12_findColumns_222 : decode cX12_findColumns 222 = .ok (.getfield 196, 3) := by decide +kernel
theorem dX12_findColumns_225 : decode cX12_findColumns 225 = .ok (.imul, 1) := by decide +kernel
theorem dX12_findColumns_226 : decode cX12_findColumns 226 = .ok (.iconst 5, 1) := by decide +kernel
theorem dX12_findColumns_227 : decode cX12_findColumns 227 = .ok (.iadd, 1) := by decide +kernel
theorem dX12_findColumns_228 : decode cX12_findColumns 228 = .ok (.aload_n 0, 1) := by decide +kernel
theorem dX12_findColumns_229 : decode cX12_findColumns 229 = .ok (.iload_n 2, 1) := by decide +kernel
theorem dX12_findColumns_230 : decode cX12_findColumns 230 = .ok (.invokevirtual 206, 3) := by decide +kernel
theorem dX12_findColumns_233 : decode cX12_findColumns 233 = .ok (.lastore, 1) := by decide +kernel
theorem dX12_findColumns_234 : decode cX12_findColumns 234 = .ok (.aload_n 0, 1) := by decide +kernel
theorem dX12_findColumns_235 : decode cX12_findColumns 235 = .ok (.aload_n 0, 1) := by decide +kernel
theorem dX12_findColumns_236 : decode cX12_findColumns 236 = .ok (.getfield 196, 3) := by decide +kernel
theorem dX12_findColumns_239 : decode cX12_findColumns 239 = .ok (.iconst 1, 1) := by decide +kernel
theorem dX12_findColumns_240 : decode cX12_findColumns 240 = .ok (.iadd, 1) := by decide +kernel
theorem dX12_findColumns_241 : decode cX12_findColumns 241 = .ok (.iconst (-1), 1) := by decide +kernel
theorem dX12_findColumns_242 : decode cX12_findColumns 242 = .ok (.invokevirtual 210, 3) := by decide +kernel
theorem dX12_findColumns_245 : decode cX12_findColumns 245 = .ok (.lconst 0, 1) := by decide +kernel
theorem dX12_findColumns_246 : decode cX12_findColumns 246 = .ok (.lcmp, 1) := by decide +kernel
theorem dX12_findColumns_247 : decode cX12_findColumns 247 = .ok (.ifCond .eq 25, 3) := by decide +kernel
theorem dX12_findColumns_250 : decode cX12_findColumns 250 = .ok (.aload_n 0, 1) := by decide +kernel
theorem dX12_findColumns_251 : decode cX12_findColumns 251 = .ok (.dup, 1) := by decide +kernel
theorem dX12_findColumns_252 : decode cX12_findColumns 252 = .ok (.getfield 196, 3) := by decide +kernel
theorem dX12_findColumns_255 : decode cX12_findColumns 255 = .ok (.iconst 1, 1) := by decide +kernel
theorem dX12_findColumns_256 : decode cX12_findColumns 256 = .ok (.iadd, 1) := by decide +kernel
theorem dX12_findColumns_257 : decode cX12_findColumns 257 = .ok (.putfield 196, 3) := by decide +kernel
theorem dX12_findColumns_260 : decode cX12_findColumns 260 = .ok (.aload_n 0, 1) := by decide +kernel
theorem dX12_findColumns_261 : decode cX12_findColumns 261 = .ok (.dup, 1) := by decide +kernel
theorem dX12_findColumns_262 : decode cX12_findColumns 262 = .ok (.getfield 199, 3) := by decide +kernel
theorem dX12_findColumns_265 : decode cX12_findColumns 265 = .ok (.iconst 1, 1) := by decide +kernel
theorem dX12_findColumns_266 : decode cX12_findColumns 266 = .ok (.iload_n 2, 1) := by decide +kernel
theorem dX12_findColumns_267 : decode cX12_findColumns 267 = .ok (.ishl, 1) := by decide +kernel
theorem dX12_findColumns_268 : decode cX12_findColumns 268 = .ok (.ior, 1) := by decide +kernel
theorem dX12_findColumns_269 : decode cX12_findColumns 269 = .ok (.putfield 199, 3) := by decide +kernel
theorem dX12_findColumns_272 : decode cX12_findColumns 272 = .ok (.iinc 2 1, 3) := by decide +kernel
theorem dX12_findColumns_275 : decode cX12_findColumns 275 = .ok (.goto (-156), 3) := by decide +kernel
theorem dX12_findColumns_278 : decode cX12_findColumns 278 = .ok (.return_, 1) := by decide +kernel
set_option maxRecDepth 20000 in
theorem ggX12_seen_X12_findColumns : GoodIn wsX12_seen wsX12_findColumns := goodIn_r _ [6, 7, 8, 9, 10, 11, 12, 1, 13, 14, 15, 16, 17, 5, 18, 19, 20, 21, 22, 23, 24, 25, 26, 27, 28, 29, 30, 31, 32, 33, 34, 35, 36, 37, 38, 39, 40, 41, 42, 43, 44, 45, 46, 47, 48, 49, 50, 51, 52, 53, 54, 55, 56, 57, 58, 59, 60, 61, 62, 63, 64, 65, 66, 67, 68, 69, 70, 71, 72, 73, 74, 75, 76, 77, 78, 79, 80, 81, 82, 83, 84, 85, 86, 87, 88, 89, 90, 91] (by decide +kernel) (by decide +kernel)
set_option maxRecDepth 20000 in
theorem gX12_seen_X12_findColumns : GoodIn wsX12_seen (wsV RX12 213 RX12 yX12_findColumns wsX12_findColumns) := goodIn_app (goodIn_of _ (by decide +kernel)) ggX12_seen_X12_findColumns
theorem dX12_seen_0 : decode cX12_seen 0 = .ok (.aload_n 0, 1) := by decide +kernel
theorem dX12_seen_1 : decode cX12_seen 1 = .ok (.invokevirtual 213, 3) := by decide +kernel
theorem dX12_seen_4 : decode cX12_seen 4 = .ok (.aload_n 0, 1) := by decide +kernel
theorem dX12_seen_5 : decode cX12_seen 5 = .ok (.getfield 199, 3) := by decide +kernel
theorem dX12_seen_8 : decode cX12_seen 8 = .ok (.ireturn, 1) := by decide +kernel
theorem dX12_common_0 : decode cX12_common 0 = .ok (.lload_n 0, 1) := by decide +kernel
theorem dX12_common_1 : decode cX12_common 1 = .ok (.lconst 0, 1) := by decide +kernel
theorem dX12_common_2 : decode cX12_common 2 = .ok (.lcmp, 1) := by decide +kernel
theorem dX12_common_3 : decode cX12_common 3 = .ok (.ifCond .ge 8, 3) := by decide +kernel
theorem dX12_common_6 : decode cX12_common 6 = .ok (.lload_n 0, 1) := by decide +kernel
theorem dX12_common_7 : decode cX12_common 7 = .ok (.lneg, 1) := by decide +kernel
theorem dX12_common_8 : decode cX12_common 8 = .ok (.goto 4, 3) := by decide +kernel
theorem dX12_common_11 : decode cX12_common 11 = .ok (.lload_n 0, 1) := by decide +kernel
theorem dX12_common_12 : decode cX12_common 12 = .ok (.lstore 4, 2) := by decide +kernel
theorem dX12_common_14 : decode cX12_common 14 = .ok (.lload_n 2, 1) := by decide +kernel
theorem dX12_common_15 : decode cX12_common 15 = .ok (.lstore 6, 2) := by decide +kernel
theorem dX12_common_17 : decode cX12_common 17 = .ok (.lload 6, 2) := by decide +kernel
theorem dX12_common_19 : decode cX12_common 19 = .ok (.lconst 0, 1) := by decide +kernel
theorem dX12_common_20 : decode cX12_common 20 = .ok (.lcmp, 1) := by decide +kernel
theorem dX12_common_21 : decode cX12_common 21 = .ok (.ifCond .eq 21, 3) := by decide +kernel
theorem dX12_common_24 : decode cX12_common 24 = .ok (.lload 4, 2) := by decide +kernel
theorem dX12_common_26 : decode cX12_common 26 = .ok (.lload 6, 2) := by decide +kernel
theorem dX12_common_28 : decode cX12_common 28 = .ok (.lrem, 1) := by decide +kernel
theorem dX12_common_29 : decode cX12_common 29 = .ok (.lstore 8, 2) := by decide +kernel
theorem dX12_common_31 : decode cX12_common 31 = .ok (.lload 6, 2) := by decide +kernel
theorem dX12_common_33 : decode cX12_common 33 = .ok (.lstore 4, 2) := by decide +kernel
theorem dX12_common_35 : decode cX12_common 35 = .ok (.lload 8, 2) := by decide +kernel
theorem dX12_common_37 : decode cX12_common 37 = .ok (.lstore 6, 2) := by decide +kernel
theorem dX12_common_39 : decode cX12_common 39 = .ok (.goto (-22), 3) := by decide +kernel
theorem dX12_common_42 : decode cX12_common 42 = .ok (.lload 4, 2) := by decide +kernel
