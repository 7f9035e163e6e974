-- HalfLandingsModel.<init>()V
theorem dX10_init_0 : decode cX10_init 0 = .ok (.aload_n 0, 1) := by decide +kernel
theorem dX10_init_1 : decode cX10_init 1 = .ok (.invokespecial 1, 3) := by decide +kernel
theorem dX10_init_4 : decode cX10_init 4 = .ok (.aload_n 0, 1) := by decide +kernel
theorem dX10_init_5 : decode cX10_init 5 = .ok (.sipush 700, 3) := by decide +kernel
theorem dX10_init_8 : decode cX10_init 8 = .ok (.newarray .int, 2) := by decide +kernel
theorem dX10_init_10 : decode cX10_init 10 = .ok (.putfield 7, 3) := by decide +kernel
theorem dX10_init_13 : decode cX10_init 13 = .ok (.aload_n 0, 1) := by decide +kernel
theorem dX10_init_14 : decode cX10_init 14 = .ok (.bipush 16, 2) := by decide +kernel
theorem dX10_init_16 : decode cX10_init 16 = .ok (.newarray .int, 2) := by decide +kernel
theorem dX10_init_18 : decode cX10_init 18 = .ok (.dup, 1) := by decide +kernel
theorem dX10_init_19 : decode cX10_init 19 = .ok (.iconst 0, 1) := by decide +kernel
theorem dX10_init_20 : decode cX10_init 20 = .ok (.bipush 20, 2) := by decide +kernel
theorem dX10_init_22 : decode cX10_init 22 = .ok (.iastore, 1) := by decide +kernel
theorem dX10_init_23 : decode cX10_init 23 = .ok (.dup, 1) := by decide +kernel
theorem dX10_init_24 : decode cX10_init 24 = .ok (.iconst 1, 1) := by decide +kernel
theorem dX10_init_25 : decode cX10_init 25 = .ok (.iconst 0, 1) := by decide +kernel
theorem dX10_init_26 : decode cX10_init 26 = .ok (.iastore, 1) := by decide +kernel
theorem dX10_init_27 : decode cX10_init 27 = .ok (.dup, 1) := by decide +kernel
theorem dX10_init_28 : decode cX10_init 28 = .ok (.iconst 2, 1) := by decide +kernel
theorem dX10_init_29 : decode cX10_init 29 = .ok (.iconst 0, 1) := by decide +kernel
theorem dX10_init_30 : decode cX10_init 30 = .ok (.iastore, 1) := by decide +kernel
theorem dX10_init_31 : decode cX10_init 31 = .ok (.dup, 1) := by decide +kernel
theorem dX10_init_32 : decode cX10_init 32 = .ok (.iconst 3, 1) := by decide +kernel
theorem dX10_init_33 : decode cX10_init 33 = .ok (.iconst 0, 1) := by decide +kernel
theorem dX10_init_34 : decode cX10_init 34 = .ok (.iastore, 1) := by decide +kernel
theorem dX10_init_35 : decode cX10_init 35 = .ok (.dup, 1) := by decide +kernel
theorem dX10_init_36 : decode cX10_init 36 = .ok (.iconst 4, 1) := by decide +kernel
theorem dX10_init_37 : decode cX10_init 37 = .ok (.iconst 0, 1) := by decide +kernel
theorem dX10_init_38 : decode cX10_init 38 = .ok (.iastore, 1) := by decide +kernel
theorem dX10_init_39 : decode cX10_init 39 = .ok (.dup, 1) := by decide +kernel
theorem dX10_init_40 : decode cX10_init 40 = .ok (.iconst 5, 1) := by decide +kernel
theorem dX10_init_41 : decode cX10_init 41 = .ok (.iconst 0, 1) := by decide +kernel
theorem dX10_init_42 : decode cX10_init 42 = .ok (.iastore, 1) := by decide +kernel
theorem dX10_init_43 : decode cX10_init 43 = .ok (.dup, 1) := by decide +kernel
theorem dX10_init_44 : decode cX10_init 44 = .ok (.bipush 6, 2) := by decide +kernel
theorem dX10_init_46 : decode cX10_init 46 = .ok (.iconst 0, 1) := by decide +kernel
theorem dX10_init_47 : decode cX10_init 47 = .ok (.iastore, 1) := by decide +kernel
theorem dX10_init_48 : decode cX10_init 48 = .ok (.dup, 1) := by decide +kernel
theorem dX10_init_49 : decode cX10_init 49 = .ok (.bipush 7, 2) := by decide +kernel
theorem dX10_init_51 : decode cX10_init 51 = .ok (.iconst 0, 1) := by decide +kernel
theorem dX10_init_52 : decode cX10_init 52 = .ok (.iastore, 1) := by decide +kernel
theorem dX10_init_53 : decode cX10_init 53 = .ok (.dup, 1) := by decide +kernel
theorem dX10_init_54 : decode cX10_init 54 = .ok (.bipush 8, 2) := by decide +kernel
theorem dX10_init_56 : decode cX10_init 56 = .ok (.bipush 20, 2) := by decide +kernel
theorem dX10_init_58 : decode cX10_init 58 = .ok (.iastore, 1) := by decide +kernel
theorem dX10_init_59 : decode cX10_init 59 = .ok (.dup, 1) := by decide +kernel
theorem dX10_init_60 : decode cX10_init 60 = .ok (.bipush 9, 2) := by decide +kernel
theorem dX10_init_62 : decode cX10_init 62 = .ok (.iconst 0, 1) := by decide +kernel
theorem dX10_init_63 : decode cX10_init 63 = .ok (.iastore, 1) := by decide +kernel
theorem dX10_init_64 : decode cX10_init 64 = .ok (.dup, 1) := by decide +kernel
theorem dX10_init_65 : decode cX10_init 65 = .ok (.bipush 10, 2) := by decide +kernel
theorem dX10_init_67 : decode cX10_init 67 = .ok (.iconst 0, 1) := by decide +kernel
theorem dX10_init_68 : decode cX10_init 68 = .ok (.iastore, 1) := by decide +kernel
theorem dX10_init_69 : decode cX10_init 69 = .ok (.dup, 1) := by decide +kernel
theorem dX10_init_70 : decode cX10_init 70 = .ok (.bipush 11, 2) := by decide +kernel
theorem dX10_init_72 : decode cX10_init 72 = .ok (.iconst 0, 1) := by decide +kernel
theorem dX10_init_73 : decode cX10_init 73 = .ok (.iastore, 1) := by decide +kernel
theorem dX10_init_74 : decode cX10_init 74 = .ok (.dup, 1) := by decide +kernel
theorem dX10_init_75 : decode cX10_init 75 = .ok (.bipush 12, 2) := by decide +kernel
theorem dX10_init_77 : decode cX10_init 77 = .ok (.iconst 0, 1) := by decide +kernel
theorem dX10_init_78 : decode cX10_init 78 = .ok (.iastore, 1) := by decide +kernel
theorem dX10_init_79 : decode cX10_init 79 = .ok (.dup, 1) := by decide +kernel
theorem dX10_init_80 : decode cX10_init 80 = .ok (.bipush 13, 2) := by decide +kernel
theorem dX10_init_82 : decode cX10_init 82 = .ok (.iconst 0, 1) := by decide +kernel
theorem dX10_init_83 : decode cX10_init 83 = .ok (.iastore, 1) := by decide +kernel
theorem dX10_init_84 : decode cX10_init 84 = .ok (.dup, 1) := by decide +kernel
theorem dX10_init_85 : decode cX10_init 85 = .ok (.bipush 14, 2) := by decide +kernel
theorem dX10_init_87 : decode cX10_init 87 = .ok (.iconst 0, 1) := by decide +kernel
theorem dX10_init_88 : decode cX10_init 88 = .ok (.iastore, 1) := by decide +kernel
theorem dX10_init_89 : decode cX10_init 89 = .ok (.dup, 1) := by decide +kernel
theorem dX10_init_90 : decode cX10_init 90 = .ok (.bipush 15, 2) := by decide +kernel
theorem dX10_init_92 : decode cX10_init 92 = .ok (.iconst 0, 1) := by decide +kernel
theorem dX10_init_93 : decode cX10_init 93 = .ok (.iastore, 1) := by decide +kernel
theorem dX10_init_94 : decode cX10_init 94 = .ok (.putfield 13, 3) := by decide +kernel
theorem dX10_init_97 : decode cX10_init 97 = .ok (.aload_n 0, 1) := by decide +kernel
theorem dX10_init_98 : decode cX10_init 98 = .ok (.bipush 16, 2) := by decide +kernel
theorem dX10_init_100 : decode cX10_init 100 = .ok (.newarray .int, 2) := by decide +kernel
theorem dX10_init_102 : decode cX10_init 102 = .ok (.putfield 16, 3) := by decide +kernel
theorem dX10_init_105 : decode cX10_init 105 = .ok (.aload_n 0, 1) := by decide +kernel
theorem dX10_init_106 : decode cX10_init 106 = .ok (.bipush 16, 2) := by decide +kernel
theorem dX10_init_108 : decode cX10_init 108 = .ok (.newarray .int, 2) := by decide +kernel
theorem dX10_init_110 : decode cX10_init 110 = .ok (.putfield 19, 3) := by decide +kernel
theorem dX10_init_113 : decode cX10_init 113 = .ok (.aload_n 0, 1) := by decide +kernel
theorem dX10_init_114 : decode cX10_init 114 = .ok (.bipush 16, 2) := by decide +kernel
theorem dX10_init_116 : decode cX10_init 116 = .ok (.newarray .int, 2) := by decide +kernel
theorem dX10_init_118 : decode cX10_init 118 = .ok (.putfield 22, 3) := by decide +kernel
theorem dX10_init_121 : decode cX10_init 121 = .ok (.aload_n 0, 1) := by decide +kernel
theorem dX10_init_122 : decode cX10_init 122 = .ok (.bipush 12, 2) := by decide +kernel
theorem dX10_init_124 : decode cX10_init 124 = .ok (.newarray .int, 2) := by decide +kernel
theorem dX10_init_126 : decode cX10_init 126 = .ok (.putfield 25, 3) := by decide +kernel
theorem dX10_init_129 : decode cX10_init 129 = .ok (.aload_n 0, 1) := by decide +kernel
theorem dX10_init_130 : decode cX10_init 130 = .ok (.bipush 12, 2) := by decide +kernel
theorem dX10_init_132 : decode cX10_init 132 = .ok (.newarray .int, 2) := by decide +kernel
theorem dX10_init_134 : decode cX10_init 134 = .ok (.putfield 28, 3) := by decide +kernel
theorem dX10_init_137 : decode cX10_init 137 = .ok (.aload_n 0, 1) := by decide +kernel
theorem dX10_init_138 : decode cX10_init 138 = .ok (.bipush 12, 2) := by decide +kernel
theorem dX10_init_140 : decode cX10_init 140 = .ok (.newarray .int, 2) := by decide +kernel
theorem dX10_init_142 : decode cX10_init 142 = .ok (.putfield 31, 3) := by decide +kernel
theorem dX10_init_145 : decode cX10_init 145 = .ok (.aload_n 0, 1) := by decide +kernel
theorem dX10_init_146 : decode cX10_init 146 = .ok (.bipush 12, 2) := by decide +kernel
theorem dX10_init_148 : decode cX10_init 148 = .ok (.newarray .int, 2) := by decide +kernel
theorem dX10_init_150 : decode cX10_init 150 = .ok (.putfield 34, 3) := by decide +kernel
theorem dX10_init_153 : decode cX10_init 153 = .ok (.aload_n 0, 1) := by decide +kernel
theorem dX10_init_154 : decode cX10_init 154 = .ok (.bipush 12, 2) := by decide +kernel
theorem dX10_init_156 : decode cX10_init 156 = .ok (.newarray .int, 2) := by decide +kernel
theorem dX10_init_158 : decode cX10_init 158 = .ok (.putfield 37, 3) := by decide +kernel
theorem dX10_init_161 : decode cX10_init 161 = .ok (.aload_n 0, 1) := by decide +kernel
theorem dX10_init_162 : decode cX10_init 162 = .ok (.bipush 24, 2) := by decide +kernel
theorem dX10_init_164 : decode cX10_init 164 = .ok (.newarray .int, 2) := by decide +kernel
theorem dX10_init_166 : decode cX10_init 166 = .ok (.putfield 40, 3) := by decide +kernel
theorem dX10_init_169 : decode cX10_init 169 = .ok (.aload_n 0, 1) := by decide +kernel
theorem dX10_init_170 : decode cX10_init 170 = .ok (.bipush 24, 2) := by decide +kernel
theorem dX10_init_172 : decode cX10_init 172 = .ok (.newarray .int, 2) := by decide +kernel
theorem dX10_init_174 : decode cX10_init 174 = .ok (.putfield 43, 3) := by decide +kernel
theorem dX10_init_177 : decode cX10_init 177 = .ok (.aload_n 0, 1) := by decide +kernel
theorem dX10_init_178 : decode cX10_init 178 = .ok (.bipush 24, 2) := by decide +kernel
theorem dX10_init_180 : decode cX10_init 180 = .ok (.newarray .int, 2) := by decide +kernel
theorem dX10_init_182 : decode cX10_init 182 = .ok (.putfield 46, 3) := by decide +kernel
theorem dX10_init_185 : decode cX10_init 185 = .ok (.aload_n 0, 1) := by decide +kernel
theorem dX10_init_186 : decode cX10_init 186 = .ok (.bipush 6, 2) := by decide +kernel
theorem dX10_init_188 : decode cX10_init 188 = .ok (.newarray .int, 2) := by decide +kernel
theorem dX10_init_190 : decode cX10_init 190 = .ok (.putfield 49, 3) := by decide +kernel
theorem dX10_init_193 : decode cX10_init 193 = .ok (.aload_n 0, 1) := by decide +kernel
theorem dX10_init_194 : decode cX10_init 194 = .ok (.bipush 6, 2) := by decide +kernel
theorem dX10_init_196 : decode cX10_init 196 = .ok (.newarray .int, 2) := by decide +kernel
theorem dX10_init_198 : decode cX10_init 198 = .ok (.putfield 52, 3) := by decide +kernel
theorem dX10_init_201 : decode cX10_init 201 = .ok (.aload_n 0, 1) := by decide +kernel
theorem dX10_init_202 : decode cX10_init 202 = .ok (.sipush 128, 3) := by decide +kernel
theorem dX10_init_205 : decode cX10_init 205 = .ok (.newarray .int, 2) := by decide +kernel
theorem dX10_init_207 : decode cX10_init 207 = .ok (.putfield 55, 3) := by decide +kernel
theorem dX10_init_210 : decode cX10_init 210 = .ok (.aload_n 0, 1) := by decide +kernel
theorem dX10_init_211 : decode cX10_init 211 = .ok (.sipush 128, 3) := by decide +kernel
theorem dX10_init_214 : decode cX10_init 214 = .ok (.newarray .int, 2) := by decide +kernel
theorem dX10_init_216 : decode cX10_init 216 = .ok (.putfield 58, 3) := by decide +kernel
theorem dX10_init_219 : decode cX10_init 219 = .ok (.aload_n 0, 1) := by decide +kernel
theorem dX10_init_220 : decode cX10_init 220 = .ok (.iconst (-1), 1) := by decide +kernel
theorem dX10_init_221 : decode cX10_init 221 = .ok (.putfield 61, 3) := by decide +kernel
theorem dX10_init_224 : decode cX10_init 224 = .ok (.aload_n 0, 1) := by decide +kernel
theorem dX10_init_225 : decode cX10_init 225 = .ok (.bipush 7, 2) := by decide +kernel
theorem dX10_init_227 : decode cX10_init 227 = .ok (.newarray .long, 2) := by decide +kernel
theorem dX10_init_229 : decode cX10_init 229 = .ok (.putfield 65, 3) := by decide +kernel
theorem dX10_init_232 : decode cX10_init 232 = .ok (.aload_n 0, 1) := by decide +kernel
theorem dX10_init_233 : decode cX10_init 233 = .ok (.bipush 64, 2) := by decide +kernel
theorem dX10_init_235 : decode cX10_init 235 = .ok (.newarray .long, 2) := by decide +kernel
theorem dX10_init_237 : decode cX10_init 237 = .ok (.putfield 69, 3) := by decide +kernel
theorem dX10_init_240 : decode cX10_init 240 = .ok (.aload_n 0, 1) := by decide +kernel
theorem dX10_init_241 : decode cX10_init 241 = .ok (.bipush 23, 2) := by decide +kernel
theorem dX10_init_243 : decode cX10_init 243 = .ok (.newarray .int, 2) := by decide +kernel
theorem dX10_init_245 : decode cX10_init 245 = .ok (.putfield 72, 3) := by decide +kernel
theorem dX10_init_248 : decode cX10_init 248 = .ok (.aload_n 0, 1) := by decide +kernel
theorem dX10_init_249 : decode cX10_init 249 = .ok (.bipush 23, 2) := by decide +kernel
theorem dX10_init_251 : decode cX10_init 251 = .ok (.newarray .int, 2) := by decide +kernel
theorem dX10_init_253 : decode cX10_init 253 = .ok (.putfield 75, 3) := by decide +kernel
theorem dX10_init_256 : decode cX10_init 256 = .ok (.aload_n 0, 1) := by decide +kernel
theorem dX10_init_257 : decode cX10_init 257 = .ok (.bipush 23, 2) := by decide +kernel
theorem dX10_init_259 : decode cX10_init 259 = .ok (.newarray .int, 2) := by decide +kernel
theorem dX10_init_261 : decode cX10_init 261 = .ok (.putfield 78, 3) := by decide +kernel
theorem dX10_init_264 : decode cX10_init 264 = .ok (.aload_n 0, 1) := by decide +kernel
theorem dX10_init_265 : decode cX10_init 265 = .ok (.bipush 23, 2) := by decide +kernel
theorem dX10_init_267 : decode cX10_init 267 = .ok (.newarray .int, 2) := by decide +kernel
theorem dX10_init_269 : decode cX10_init 269 = .ok (.putfield 81, 3) := by decide +kernel
theorem dX10_init_272 : decode cX10_init 272 = .ok (.aload_n 0, 1) := by decide +kernel
theorem dX10_init_273 : decode cX10_init 273 = .ok (.bipush 23, 2) := by decide +kernel
theorem dX10_init_275 : decode cX10_init 275 = .ok (.newarray .int, 2) := by decide +kernel
theorem dX10_init_277 : decode cX10_init 277 = .ok (.putfield 84, 3) := by decide +kernel
theorem dX10_init_280 : decode cX10_init 280 = .ok (.aload_n 0, 1) := by decide +kernel
theorem dX10_init_281 : decode cX10_init 281 = .ok (.sipush 138, 3) := by decide +kernel
theorem dX10_init_284 : decode cX10_init 284 = .ok (.newarray .int, 2) := by decide +kernel
theorem dX10_init_286 : decode cX10_init 286 = .ok (.putfield 87, 3) := by decide +kernel
theorem dX10_init_289 : decode cX10_init 289 = .ok (.aload_n 0, 1) := by decide +kernel
theorem dX10_init_290 : decode cX10_init 290 = .ok (.sipush 138, 3) := by decide +kernel
theorem dX10_init_293 : decode cX10_init 293 = .ok (.newarray .int, 2) := by decide +kernel
theorem dX10_init_295 : decode cX10_init 295 = .ok (.putfield 90, 3) := by decide +kernel
theorem dX10_init_298 : decode cX10_init 298 = .ok (.aload_n 0, 1) := by decide +kernel
theorem dX10_init_299 : decode cX10_init 299 = .ok (.sipush 138, 3) := by decide +kernel
theorem dX10_init_302 : decode cX10_init 302 = .ok (.newarray .int, 2) := by decide +kernel
theorem dX10_init_304 : decode cX10_init 304 = .ok (.putfield 93, 3) := by decide +kernel
theorem dX10_init_307 : decode cX10_init 307 = .ok (.aload_n 0, 1) := by decide +kernel
theorem dX10_init_308 : decode cX10_init 308 = .ok (.sipush 138, 3) := by decide +kernel
theorem dX10_init_311 : decode cX10_init 311 = .ok (.newarray .int, 2) := by decide +kernel
theorem dX10_init_313 : decode cX10_init 313 = .ok (.putfield 96, 3) := by decide +kernel
theorem dX10_init_316 : decode cX10_init 316 = .ok (.aload_n 0, 1) := by decide +kernel
theorem dX10_init_317 : decode cX10_init 317 = .ok (.sipush 138, 3) := by decide +kernel
theorem dX10_init_320 : decode cX10_init 320 = .ok (.newarray .int, 2) := by decide +kernel
theorem dX10_init_322 : decode cX10_init 322 = .ok (.putfield 99, 3) := by decide +kernel
theorem dX10_init_325 : decode cX10_init 325 = .ok (.aload_n 0, 1) := by decide +kernel
theorem dX10_init_326 : decode cX10_init 326 = .ok (.sipush 138, 3) := by decide +kernel
theorem dX10_init_329 : decode cX10_init 329 = .ok (.newarray .int, 2) := by decide +kernel
theorem dX10_init_331 : decode cX10_init 331 = .ok (.putfield 102, 3) := by decide +kernel
theorem dX10_init_334 : decode cX10_init 334 = .ok (.aload_n 0, 1) := by decide +kernel
theorem dX10_init_335 : decode cX10_init 335 = .ok (.sipush 138, 3) := by decide +kernel
theorem dX10_init_338 : decode cX10_init 338 = .ok (.newarray .int, 2) := by decide +kernel
theorem dX10_init_340 : decode cX10_init 340 = .ok (.putfield 105, 3) := by decide +kernel
theorem dX10_init_343 : decode cX10_init 343 = .ok (.aload_n 0, 1) := by decide +kernel
theorem dX10_init_344 : decode cX10_init 344 = .ok (.sipush 184, 3) := by decide +kernel
theorem dX10_init_347 : decode cX10_init 347 = .ok (.newarray .int, 2) := by decide +kernel
theorem dX10_init_349 : decode cX10_init 349 = .ok (.putfield 108, 3) := by decide +kernel
theorem dX10_init_352 : decode cX10_init 352 = .ok (.aload_n 0, 1) := by decide +kernel
theorem dX10_init_353 : decode cX10_init 353 = .ok (.iconst (-1), 1) := by decide +kernel
theorem dX10_init_354 : decode cX10_init 354 = .ok (.putfield 111, 3) := by decide +kernel
theorem dX10_init_357 : decode cX10_init 357 = .ok (.aload_n 0, 1) := by decide +kernel
theorem dX10_init_358 : decode cX10_init 358 = .ok (.iconst (-1), 1) := by decide +kernel
theorem dX10_init_359 : decode cX10_init 359 = .ok (.putfield 114, 3) := by decide +kernel
theorem dX10_init_362 : decode cX10_init 362 = .ok (.aload_n 0, 1) := by decide +kernel
theorem dX10_init_363 : decode cX10_init 363 = .ok (.bipush 64, 2) := by decide +kernel
theorem dX10_init_365 : decode cX10_init 365 = .ok (.newarray .int, 2) := by decide +kernel
theorem dX10_init_367 : decode cX10_init 367 = .ok (.putfield 117, 3) := by decide +kernel
theorem dX10_init_370 : decode cX10_init 370 = .ok (.aload_n 0, 1) := by decide +kernel
theorem dX10_init_371 : decode cX10_init 371 = .ok (.iconst (-1), 1) := by decide +kernel
theorem dX10_init_372 : decode cX10_init 372 = .ok (.putfield 120, 3) := by decide +kernel
theorem dX10_init_375 : decode cX10_init 375 = .ok (.aload_n 0, 1) := by decide +kernel
theorem dX10_init_376 : decode cX10_init 376 = .ok (.bipush 24, 2) := by decide +kernel
theorem dX10_init_378 : decode cX10_init 378 = .ok (.newarray .int, 2) := by decide +kernel
theorem dX10_init_380 : decode cX10_init 380 = .ok (.putfield 123, 3) := by decide +kernel
theorem dX10_init_383 : decode cX10_init 383 = .ok (.aload_n 0, 1) := by decide +kernel
theorem dX10_init_384 : decode cX10_init 384 = .ok (.bipush 24, 2) := by decide +kernel
theorem dX10_init_386 : decode cX10_init 386 = .ok (.newarray .int, 2) := by decide +kernel
theorem dX10_init_388 : decode cX10_init 388 = .ok (.putfield 126, 3) := by decide +kernel
theorem dX10_init_391 : decode cX10_init 391 = .ok (.aload_n 0, 1) := by decide +kernel
theorem dX10_init_392 : decode cX10_init 392 = .ok (.bipush 24, 2) := by decide +kernel
theorem dX10_init_394 : decode cX10_init 394 = .ok (.newarray .int, 2) := by decide +kernel
theorem dX10_init_396 : decode cX10_init 396 = .ok (.putfield 129, 3) := by decide +kernel
theorem dX10_init_399 : decode cX10_init 399 = .ok (.aload_n 0, 1) := by decide +kernel
theorem dX10_init_400 : decode cX10_init 400 = .ok (.bipush 24, 2) := by decide +kernel
theorem dX10_init_402 : decode cX10_init 402 = .ok (.newarray .boolean, 2) := by decide +kernel
theorem dX10_init_404 : decode cX10_init 404 = .ok (.putfield 132, 3) := by decide +kernel
theorem dX10_init_407 : decode cX10_init 407 = .ok (.aload_n 0, 1) := by decide +kernel
theorem dX10_init_408 : decode cX10_init 408 = .ok (.bipush 24, 2) := by decide +kernel
theorem dX10_init_410 : decode cX10_init 410 = .ok (.newarray .int, 2) := by decide +kernel
theorem dX10_init_412 : decode cX10_init 412 = .ok (.putfield 136, 3) := by decide +kernel
theorem dX10_init_415 : decode cX10_init 415 = .ok (.aload_n 0, 1) := by decide +kernel
theorem dX10_init_416 : decode cX10_init 416 = .ok (.bipush 24, 2) := by decide +kernel
theorem dX10_init_418 : decode cX10_init 418 = .ok (.newarray .boolean, 2) := by decide +kernel
theorem dX10_init_420 : decode cX10_init 420 = .ok (.putfield 139, 3) := by decide +kernel
theorem dX10_init_423 : decode cX10_init 423 = .ok (.aload_n 0, 1) := by decide +kernel
theorem dX10_init_424 : decode cX10_init 424 = .ok (.invokevirtual 142, 3) := by decide +kernel
theorem dX10_init_427 : decode cX10_init 427 = .ok (.return_, 1) := by decide +kernel
theorem hd_X10_init : yX10_init.cls ≠ "java/lang/invoke/MethodHandle" ∧ yX10_init.cls ≠ "java/lang/invoke/VarHandle" ∧ (parseMethodDescriptor yX10_init.desc).map (fun d => d.parameters.length) = some 0 := by decide +kernel
def sx_X10_init_1 (sh : List xSh) : List xSh := sh ++ [.inr (.int, 700)]
theorem sx_X10_init_1_len (sh : List xSh) : (sx_X10_init_1 sh).length = sh.length + 1 := by
  unfold sx_X10_init_1
  rw [List.length_append]
  rfl
def sx_X10_init_2 (sh : List xSh) : List xSh := (sx_X10_init_1 sh) ++ [.inr (.int, 16)]
theorem sx_X10_init_2_len (sh : List xSh) : (sx_X10_init_2 sh).length = sh.length + 2 := by
  unfold sx_X10_init_2
  rw [List.length_append, sx_X10_init_1_len]
  rfl
def sx_X10_init_3 (sh : List xSh) : List xSh := (sx_X10_init_2 sh) ++ [.inr (.int, 16)]
theorem sx_X10_init_3_len (sh : List xSh) : (sx_X10_init_3 sh).length = sh.length + 3 := by
  unfold sx_X10_init_3
  rw [List.length_append, sx_X10_init_2_len]
  rfl
def sx_X10_init_4 (sh : List xSh) : List xSh := (sx_X10_init_3 sh) ++ [.inr (.int, 16)]
theorem sx_X10_init_4_len (sh : List xSh) : (sx_X10_init_4 sh).length = sh.length + 4 := by
  unfold sx_X10_init_4
  rw [List.length_append, sx_X10_init_3_len]
  rfl
def sx_X10_init_5 (sh : List xSh) : List xSh := (sx_X10_init_4 sh) ++ [.inr (.int, 16)]
theorem sx_X10_init_5_len (sh : List xSh) : (sx_X10_init_5 sh).length = sh.length + 5 := by
  unfold sx_X10_init_5
  rw [List.length_append, sx_X10_init_4_len]
  rfl
def sx_X10_init_6 (sh : List xSh) : List xSh := (sx_X10_init_5 sh) ++ [.inr (.int, 12)]
theorem sx_X10_init_6_len (sh : List xSh) : (sx_X10_init_6 sh).length = sh.length + 6 := by
  unfold sx_X10_init_6
  rw [List.length_append, sx_X10_init_5_len]
  rfl
def sx_X10_init_7 (sh : List xSh) : List xSh := (sx_X10_init_6 sh) ++ [.inr (.int, 12)]
theorem sx_X10_init_7_len (sh : List xSh) : (sx_X10_init_7 sh).length = sh.length + 7 := by
  unfold sx_X10_init_7
  rw [List.length_append, sx_X10_init_6_len]
  rfl
def sx_X10_init_8 (sh : List xSh) : List xSh := (sx_X10_init_7 sh) ++ [.inr (.int, 12)]
theorem sx_X10_init_8_len (sh : List xSh) : (sx_X10_init_8 sh).length = sh.length + 8 := by
  unfold sx_X10_init_8
  rw [List.length_append, sx_X10_init_7_len]
  rfl
def sx_X10_init_9 (sh : List xSh) : List xSh := (sx_X10_init_8 sh) ++ [.inr (.int, 12)]
theorem sx_X10_init_9_len (sh : List xSh) : (sx_X10_init_9 sh).length = sh.length + 9 := by
  unfold sx_X10_init_9
  rw [List.length_append, sx_X10_init_8_len]
  rfl
def sx_X10_init_10 (sh : List xSh) : List xSh := (sx_X10_init_9 sh) ++ [.inr (.int, 12)]
theorem sx_X10_init_10_len (sh : List xSh) : (sx_X10_init_10 sh).length = sh.length + 10 := by
  unfold sx_X10_init_10
  rw [List.length_append, sx_X10_init_9_len]
  rfl
def sx_X10_init_11 (sh : List xSh) : List xSh := (sx_X10_init_10 sh) ++ [.inr (.int, 24)]
theorem sx_X10_init_11_len (sh : List xSh) : (sx_X10_init_11 sh).length = sh.length + 11 := by
  unfold sx_X10_init_11
  rw [List.length_append, sx_X10_init_10_len]
  rfl
def sx_X10_init_12 (sh : List xSh) : List xSh := (sx_X10_init_11 sh) ++ [.inr (.int, 24)]
theorem sx_X10_init_12_len (sh : List xSh) : (sx_X10_init_12 sh).length = sh.length + 12 := by
  unfold sx_X10_init_12
  rw [List.length_append, sx_X10_init_11_len]
  rfl
def sx_X10_init_13 (sh : List xSh) : List xSh := (sx_X10_init_12 sh) ++ [.inr (.int, 24)]
theorem sx_X10_init_13_len (sh : List xSh) : (sx_X10_init_13 sh).length = sh.length + 13 := by
  unfold sx_X10_init_13
  rw [List.length_append, sx_X10_init_12_len]
  rfl
def sx_X10_init_14 (sh : List xSh) : List xSh := (sx_X10_init_13 sh) ++ [.inr (.int, 6)]
theorem sx_X10_init_14_len (sh : List xSh) : (sx_X10_init_14 sh).length = sh.length + 14 := by
  unfold sx_X10_init_14
  rw [List.length_append, sx_X10_init_13_len]
  rfl
def sx_X10_init_15 (sh : List xSh) : List xSh := (sx_X10_init_14 sh) ++ [.inr (.int, 6)]
theorem sx_X10_init_15_len (sh : List xSh) : (sx_X10_init_15 sh).length = sh.length + 15 := by
  unfold sx_X10_init_15
  rw [List.length_append, sx_X10_init_14_len]
  rfl
def sx_X10_init_16 (sh : List xSh) : List xSh := (sx_X10_init_15 sh) ++ [.inr (.int, 128)]
theorem sx_X10_init_16_len (sh : List xSh) : (sx_X10_init_16 sh).length = sh.length + 16 := by
  unfold sx_X10_init_16
  rw [List.length_append, sx_X10_init_15_len]
  rfl
def sx_X10_init_17 (sh : List xSh) : List xSh := (sx_X10_init_16 sh) ++ [.inr (.int, 128)]
theorem sx_X10_init_17_len (sh : List xSh) : (sx_X10_init_17 sh).length = sh.length + 17 := by
  unfold sx_X10_init_17
  rw [List.length_append, sx_X10_init_16_len]
  rfl
def sx_X10_init_18 (sh : List xSh) : List xSh := (sx_X10_init_17 sh) ++ [.inr (.long, 7)]
theorem sx_X10_init_18_len (sh : List xSh) : (sx_X10_init_18 sh).length = sh.length + 18 := by
  unfold sx_X10_init_18
  rw [List.length_append, sx_X10_init_17_len]
  rfl
def sx_X10_init_19 (sh : List xSh) : List xSh := (sx_X10_init_18 sh) ++ [.inr (.long, 64)]
theorem sx_X10_init_19_len (sh : List xSh) : (sx_X10_init_19 sh).length = sh.length + 19 := by
  unfold sx_X10_init_19
  rw [List.length_append, sx_X10_init_18_len]
  rfl
def sx_X10_init_20 (sh : List xSh) : List xSh := (sx_X10_init_19 sh) ++ [.inr (.int, 23)]
theorem sx_X10_init_20_len (sh : List xSh) : (sx_X10_init_20 sh).length = sh.length + 20 := by
  unfold sx_X10_init_20
  rw [List.length_append, sx_X10_init_19_len]
  rfl
def sx_X10_init_21 (sh : List xSh) : List xSh := (sx_X10_init_20 sh) ++ [.inr (.int, 23)]
theorem sx_X10_init_21_len (sh : List xSh) : (sx_X10_init_21 sh).length = sh.length + 21 := by
  unfold sx_X10_init_21
  rw [List.length_append, sx_X10_init_20_len]
  rfl
def sx_X10_init_22 (sh : List xSh) : List xSh := (sx_X10_init_21 sh) ++ [.inr (.int, 23)]
theorem sx_X10_init_22_len (sh : List xSh) : (sx_X10_init_22 sh).length = sh.length + 22 := by
  unfold sx_X10_init_22
  rw [List.length_append, sx_X10_init_21_len]
  rfl
def sx_X10_init_23 (sh : List xSh) : List xSh := (sx_X10_init_22 sh) ++ [.inr (.int, 23)]
theorem sx_X10_init_23_len (sh : List xSh) : (sx_X10_init_23 sh).length = sh.length + 23 := by
  unfold sx_X10_init_23
  rw [List.length_append, sx_X10_init_22_len]
  rfl
def sx_X10_init_24 (sh : List xSh) : List xSh := (sx_X10_init_23 sh) ++ [.inr (.int, 23)]
theorem sx_X10_init_24_len (sh : List xSh) : (sx_X10_init_24 sh).length = sh.length + 24 := by
  unfold sx_X10_init_24
  rw [List.length_append, sx_X10_init_23_len]
  rfl
def sx_X10_init_25 (sh : List xSh) : List xSh := (sx_X10_init_24 sh) ++ [.inr (.int, 138)]
theorem sx_X10_init_25_len (sh : List xSh) : (sx_X10_init_25 sh).length = sh.length + 25 := by
  unfold sx_X10_init_25
  rw [List.length_append, sx_X10_init_24_len]
  rfl
def sx_X10_init_26 (sh : List xSh) : List xSh := (sx_X10_init_25 sh) ++ [.inr (.int, 138)]
theorem sx_X10_init_26_len (sh : List xSh) : (sx_X10_init_26 sh).length = sh.length + 26 := by
  unfold sx_X10_init_26
  rw [List.length_append, sx_X10_init_25_len]
  rfl
def sx_X10_init_27 (sh : List xSh) : List xSh := (sx_X10_init_26 sh) ++ [.inr (.int, 138)]
theorem sx_X10_init_27_len (sh : List xSh) : (sx_X10_init_27 sh).length = sh.length + 27 := by
  unfold sx_X10_init_27
  rw [List.length_append, sx_X10_init_26_len]
  rfl
def sx_X10_init_28 (sh : List xSh) : List xSh := (sx_X10_init_27 sh) ++ [.inr (.int, 138)]
theorem sx_X10_init_28_len (sh : List xSh) : (sx_X10_init_28 sh).length = sh.length + 28 := by
  unfold sx_X10_init_28
  rw [List.length_append, sx_X10_init_27_len]
  rfl
def sx_X10_init_29 (sh : List xSh) : List xSh := (sx_X10_init_28 sh) ++ [.inr (.int, 138)]
theorem sx_X10_init_29_len (sh : List xSh) : (sx_X10_init_29 sh).length = sh.length + 29 := by
  unfold sx_X10_init_29
  rw [List.length_append, sx_X10_init_28_len]
  rfl
def sx_X10_init_30 (sh : List xSh) : List xSh := (sx_X10_init_29 sh) ++ [.inr (.int, 138)]
theorem sx_X10_init_30_len (sh : List xSh) : (sx_X10_init_30 sh).length = sh.length + 30 := by
  unfold sx_X10_init_30
  rw [List.length_append, sx_X10_init_29_len]
  rfl
def sx_X10_init_31 (sh : List xSh) : List xSh := (sx_X10_init_30 sh) ++ [.inr (.int, 138)]
theorem sx_X10_init_31_len (sh : List xSh) : (sx_X10_init_31 sh).length = sh.length + 31 := by
  unfold sx_X10_init_31
  rw [List.length_append, sx_X10_init_30_len]
  rfl
def sx_X10_init_32 (sh : List xSh) : List xSh := (sx_X10_init_31 sh) ++ [.inr (.int, 184)]
theorem sx_X10_init_32_len (sh : List xSh) : (sx_X10_init_32 sh).length = sh.length + 32 := by
  unfold sx_X10_init_32
  rw [List.length_append, sx_X10_init_31_len]
  rfl
def sx_X10_init_33 (sh : List xSh) : List xSh := (sx_X10_init_32 sh) ++ [.inr (.int, 64)]
theorem sx_X10_init_33_len (sh : List xSh) : (sx_X10_init_33 sh).length = sh.length + 33 := by
  unfold sx_X10_init_33
  rw [List.length_append, sx_X10_init_32_len]
  rfl
def sx_X10_init_34 (sh : List xSh) : List xSh := (sx_X10_init_33 sh) ++ [.inr (.int, 24)]
theorem sx_X10_init_34_len (sh : List xSh) : (sx_X10_init_34 sh).length = sh.length + 34 := by
  unfold sx_X10_init_34
  rw [List.length_append, sx_X10_init_33_len]
  rfl
def sx_X10_init_35 (sh : List xSh) : List xSh := (sx_X10_init_34 sh) ++ [.inr (.int, 24)]
theorem sx_X10_init_35_len (sh : List xSh) : (sx_X10_init_35 sh).length = sh.length + 35 := by
  unfold sx_X10_init_35
  rw [List.length_append, sx_X10_init_34_len]
  rfl
def sx_X10_init_36 (sh : List xSh) : List xSh := (sx_X10_init_35 sh) ++ [.inr (.int, 24)]
theorem sx_X10_init_36_len (sh : List xSh) : (sx_X10_init_36 sh).length = sh.length + 36 := by
  unfold sx_X10_init_36
  rw [List.length_append, sx_X10_init_35_len]
  rfl
def sx_X10_init_37 (sh : List xSh) : List xSh := (sx_X10_init_36 sh) ++ [.inr (.boolean, 24)]
theorem sx_X10_init_37_len (sh : List xSh) : (sx_X10_init_37 sh).length = sh.length + 37 := by
  unfold sx_X10_init_37
  rw [List.length_append, sx_X10_init_36_len]
  rfl
def sx_X10_init_38 (sh : List xSh) : List xSh := (sx_X10_init_37 sh) ++ [.inr (.int, 24)]
theorem sx_X10_init_38_len (sh : List xSh) : (sx_X10_init_38 sh).length = sh.length + 38 := by
  unfold sx_X10_init_38
  rw [List.length_append, sx_X10_init_37_len]
  rfl
def sx_X10_init_39 (sh : List xSh) : List xSh := (sx_X10_init_38 sh) ++ [.inr (.boolean, 24)]
theorem sx_X10_init_39_len (sh : List xSh) : (sx_X10_init_39 sh).length = sh.length + 39 := by
  unfold sx_X10_init_39
  rw [List.length_append, sx_X10_init_38_len]
  rfl
def f_X10_init (sh : List xSh) (q0 : Nat) (d : xD) : Option xD :=
  (xpR 10 (sx_X10_init_1 sh) (xnw d sh.length) q0 1 sh.length).bind fun d1 => (xsI .int (sx_X10_init_2 sh) (xnw d1 (sh.length + 1)) (sh.length + 1) (0 : Int32) (20 : Int32)).bind fun d2 => (xsI .int (sx_X10_init_2 sh) d2 (sh.length + 1) (1 : Int32) (0 : Int32)).bind fun d3 => (xsI .int (sx_X10_init_2 sh) d3 (sh.length + 1) (2 : Int32) (0 : Int32)).bind fun d4 => (xsI .int (sx_X10_init_2 sh) d4 (sh.length + 1) (3 : Int32) (0 : Int32)).bind fun d5 => (xsI .int (sx_X10_init_2 sh) d5 (sh.length + 1) (4 : Int32) (0 : Int32)).bind fun d6 => (xsI .int (sx_X10_init_2 sh) d6 (sh.length + 1) (5 : Int32) (0 : Int32)).bind fun d7 => (xsI .int (sx_X10_init_2 sh) d7 (sh.length + 1) (6 : Int32) (0 : Int32)).bind fun d8 => (xsI .int (sx_X10_init_2 sh) d8 (sh.length + 1) (7 : Int32) (0 : Int32)).bind fun d9 => (xsI .int (sx_X10_init_2 sh) d9 (sh.length + 1) (8 : Int32) (20 : Int32)).bind fun d10 => (xsI .int (sx_X10_init_2 sh) d10 (sh.length + 1) (9 : Int32) (0 : Int32)).bind fun d11 => (xsI .int (sx_X10_init_2 sh) d11 (sh.length + 1) (10 : Int32) (0 : Int32)).bind fun d12 => (xsI .int (sx_X10_init_2 sh) d12 (sh.length + 1) (11 : Int32) (0 : Int32)).bind fun d13 => (xsI .int (sx_X10_init_2 sh) d13 (sh.length + 1) (12 : Int32) (0 : Int32)).bind fun d14 => (xsI .int (sx_X10_init_2 sh) d14 (sh.length + 1) (13 : Int32) (0 : Int32)).bind fun d15 => (xsI .int (sx_X10_init_2 sh) d15 (sh.length + 1) (14 : Int32) (0 : Int32)).bind fun d16 => (xsI .int (sx_X10_init_2 sh) d16 (sh.length + 1) (15 : Int32) (0 : Int32)).bind fun d17 => (xpR 10 (sx_X10_init_2 sh) d17 q0 3 (sh.length + 1)).bind fun d18 => (xpR 10 (sx_X10_init_3 sh) (xnw d18 (sh.length + 2)) q0 4 (sh.length + 2)).bind fun d19 => (xpR 10 (sx_X10_init_4 sh) (xnw d19 (sh.length + 3)) q0 5 (sh.length + 3)).bind fun d20 => (xpR 10 (sx_X10_init_5 sh) (xnw d20 (sh.length + 4)) q0 6 (sh.length + 4)).bind fun d21 => (xpR 10 (sx_X10_init_6 sh) (xnw d21 (sh.length + 5)) q0 7 (sh.length + 5)).bind fun d22 => (xpR 10 (sx_X10_init_7 sh) (xnw d22 (sh.length + 6)) q0 8 (sh.length + 6)).bind fun d23 => (xpR 10 (sx_X10_init_8 sh) (xnw d23 (sh.length + 7)) q0 9 (sh.length + 7)).bind fun d24 => (xpR 10 (sx_X10_init_9 sh) (xnw d24 (sh.length + 8)) q0 10 (sh.length + 8)).bind fun d25 => (xpR 10 (sx_X10_init_10 sh) (xnw d25 (sh.length + 9)) q0 11 (sh.length + 9)).bind fun d26 => (xpR 10 (sx_X10_init_11 sh) (xnw d26 (sh.length + 10)) q0 12 (sh.length + 10)).bind fun d27 => (xpR 10 (sx_X10_init_12 sh) (xnw d27 (sh.length + 11)) q0 13 (sh.length + 11)).bind fun d28 => (xpR 10 (sx_X10_init_13 sh) (xnw d28 (sh.length + 12)) q0 14 (sh.length + 12)).bind fun d29 => (xpR 10 (sx_X10_init_14 sh) (xnw d29 (sh.length + 13)) q0 15 (sh.length + 13)).bind fun d30 => (xpR 10 (sx_X10_init_15 sh) (xnw d30 (sh.length + 14)) q0 16 (sh.length + 14)).bind fun d31 => (xpR 10 (sx_X10_init_16 sh) (xnw d31 (sh.length + 15)) q0 17 (sh.length + 15)).bind fun d32 => (xpR 10 (sx_X10_init_17 sh) (xnw d32 (sh.length + 16)) q0 18 (sh.length + 16)).bind fun d33 => (xpI 10 (sx_X10_init_17 sh) d33 q0 29 (-1 : Int32)).bind fun d34 => (xpR 10 (sx_X10_init_18 sh) (xnw d34 (sh.length + 17)) q0 32 (sh.length + 17)).bind fun d35 => (xpR 10 (sx_X10_init_19 sh) (xnw d35 (sh.length + 18)) q0 33 (sh.length + 18)).bind fun d36 => (xpR 10 (sx_X10_init_20 sh) (xnw d36 (sh.length + 19)) q0 35 (sh.length + 19)).bind fun d37 => (xpR 10 (sx_X10_init_21 sh) (xnw d37 (sh.length + 20)) q0 36 (sh.length + 20)).bind fun d38 => (xpR 10 (sx_X10_init_22 sh) (xnw d38 (sh.length + 21)) q0 37 (sh.length + 21)).bind fun d39 => (xpR 10 (sx_X10_init_23 sh) (xnw d39 (sh.length + 22)) q0 38 (sh.length + 22)).bind fun d40 => (xpR 10 (sx_X10_init_24 sh) (xnw d40 (sh.length + 23)) q0 39 (sh.length + 23)).bind fun d41 => (xpR 10 (sx_X10_init_25 sh) (xnw d41 (sh.length + 24)) q0 40 (sh.length + 24)).bind fun d42 => (xpR 10 (sx_X10_init_26 sh) (xnw d42 (sh.length + 25)) q0 41 (sh.length + 25)).bind fun d43 => (xpR 10 (sx_X10_init_27 sh) (xnw d43 (sh.length + 26)) q0 42 (sh.length + 26)).bind fun d44 => (xpR 10 (sx_X10_init_28 sh) (xnw d44 (sh.length + 27)) q0 43 (sh.length + 27)).bind fun d45 => (xpR 10 (sx_X10_init_29 sh) (xnw d45 (sh.length + 28)) q0 44 (sh.length + 28)).bind fun d46 => (xpR 10 (sx_X10_init_30 sh) (xnw d46 (sh.length + 29)) q0 45 (sh.length + 29)).bind fun d47 => (xpR 10 (sx_X10_init_31 sh) (xnw d47 (sh.length + 30)) q0 46 (sh.length + 30)).bind fun d48 => (xpR 10 (sx_X10_init_32 sh) (xnw d48 (sh.length + 31)) q0 47 (sh.length + 31)).bind fun d49 => (xpI 10 (sx_X10_init_32 sh) d49 q0 51 (-1 : Int32)).bind fun d50 => (xpI 10 (sx_X10_init_32 sh) d50 q0 53 (-1 : Int32)).bind fun d51 => (xpR 10 (sx_X10_init_33 sh) (xnw d51 (sh.length + 32)) q0 56 (sh.length + 32)).bind fun d52 => (xpI 10 (sx_X10_init_33 sh) d52 q0 58 (-1 : Int32)).bind fun d53 => (xpR 10 (sx_X10_init_34 sh) (xnw d53 (sh.length + 33)) q0 59 (sh.length + 33)).bind fun d54 => (xpR 10 (sx_X10_init_35 sh) (xnw d54 (sh.length + 34)) q0 60 (sh.length + 34)).bind fun d55 => (xpR 10 (sx_X10_init_36 sh) (xnw d55 (sh.length + 35)) q0 61 (sh.length + 35)).bind fun d56 => (xpR 10 (sx_X10_init_37 sh) (xnw d56 (sh.length + 36)) q0 62 (sh.length + 36)).bind fun d57 => (xpR 10 (sx_X10_init_38 sh) (xnw d57 (sh.length + 37)) q0 63 (sh.length + 37)).bind fun d58 => (xpR 10 (sx_X10_init_39 sh) (xnw d58 (sh.length + 38)) q0 64 (sh.length + 38)).bind fun d59 => (xon 10 (sx_X10_init_39 sh) q0 (f_X10_begins (sx_X10_init_39 sh) q0 d59)).bind fun d60 => some d60
set_option maxHeartbeats 4000000 in
set_option maxRecDepth 100000 in
theorem mt_X10_init (l : Launch) (D : va_G) (cid : FieldType → ClassId) (b : Nat) (sa sv B0 : Nat) (sh : List xSh) (hsh : 0 < sh.length) (shz : List xSh) (hshz : (sx_X10_init_39 sh) = shz) (q0 : Nat) (d : xD) (dz : xD) (hf : f_X10_init sh q0 d = some dz) : xMet l yX10_init cX10_init 1 none 2 39 2708 D cid b true sa sv B0 [.ref (b + q0)] sh d none shz dz := by
  subst hshz
  refine xMet.of (by decide) (Nat.le_of_ble_eq_true rfl) ?_
  intro p e s m below meth c ls A S hr hin G hl
  have hl : lv_has ls 1 [(0, .ref (b + q0))] := hl
  generalize ([.ref (b + q0)] : List Value).toArray = av at S ⊢
  have hx := S.1
  have hb := S.2.1
  have hml := S.2.2.1
  have hown := S.2.2.2.1
  have hts := S.2.2.2.2.1
  unfold f_X10_init at hf
  refine lv_aload_n hx hb dX10_init_0 rfl (lv_at hl 0 rfl) ?_
  refine W.objInit hx hb hown (hts _ kw_1159) (hts _ kw_31) (hts _ kw_32) rfl (by rw [hml]; exact hl.1) rfl dX10_init_1 (Nat.le_of_ble_eq_true rfl) (Nat.le_of_ble_eq_true rfl) ?_
  refine W.eq (g2 := F0 m 4 ls []) rfl ?_
  refine lv_aload_n hx hb dX10_init_4 rfl (lv_at hl 0 rfl) ?_
  refine lv_sipush (v := (700 : Int32)) hx hb dX10_init_5 (by decide) ?_
  refine xr_newa (atype := .int) (ty := .int) (q := sh.length) (N := 700) (sh' := (sx_X10_init_1 sh)) 0 S G rfl hsh rfl rfl rfl rfl kw_73 (by decide) (by decide) (Nat.le_of_ble_eq_true rfl) (Nat.le_of_ble_eq_true rfl) (Nat.le_of_ble_eq_true rfl) dX10_init_8 (fun H G => ?_)
  obtain ⟨d1, hd1, hf⟩ := x_ob hf
  refine xr_putRF (ci := 10) (k := 1) S (hin rfl) G hd1 rfl rfl kw_1169 dX10_init_10 (fun H locs G => ?_)
  refine lv_aload_n hx hb dX10_init_13 rfl (lv_at hl 0 rfl) ?_
  refine lv_bipush (v := (16 : Int32)) hx hb dX10_init_14 (by decide) ?_
  refine xr_newa (atype := .int) (ty := .int) (q := (sh.length + 1)) (N := 16) (sh' := (sx_X10_init_2 sh)) 0 S G (sx_X10_init_1_len sh) (by rw [sx_X10_init_1_len]; omega) rfl rfl (sx_X10_init_1_len sh) rfl kw_73 (by decide) (by decide) (Nat.le_of_ble_eq_true rfl) (Nat.le_of_ble_eq_true rfl) (Nat.le_of_ble_eq_true rfl) dX10_init_16 (fun H G => ?_)
  refine lv_dup hx hb dX10_init_18 rfl ?_
  refine lv_iconst (v := (0 : Int32)) hx hb dX10_init_19 (by decide) ?_
  refine lv_bipush (v := (20 : Int32)) hx hb dX10_init_20 (by decide) ?_
  obtain ⟨d2, hd2, hf⟩ := x_ob hf
  refine xr_iast S G hd2 dX10_init_22 (fun H locs G => ?_)
  refine lv_dup hx hb dX10_init_23 rfl ?_
  refine lv_iconst (v := (1 : Int32)) hx hb dX10_init_24 (by decide) ?_
  refine lv_iconst (v := (0 : Int32)) hx hb dX10_init_25 (by decide) ?_
  obtain ⟨d3, hd3, hf⟩ := x_ob hf
  refine xr_iast S G hd3 dX10_init_26 (fun H locs G => ?_)
  refine lv_dup hx hb dX10_init_27 rfl ?_
  refine lv_iconst (v := (2 : Int32)) hx hb dX10_init_28 (by decide) ?_
  refine lv_iconst (v := (0 : Int32)) hx hb dX10_init_29 (by decide) ?_
  obtain ⟨d4, hd4, hf⟩ := x_ob hf
  refine xr_iast S G hd4 dX10_init_30 (fun H locs G => ?_)
  refine lv_dup hx hb dX10_init_31 rfl ?_
  refine lv_iconst (v := (3 : Int32)) hx hb dX10_init_32 (by decide) ?_
  refine lv_iconst (v := (0 : Int32)) hx hb dX10_init_33 (by decide) ?_
  obtain ⟨d5, hd5, hf⟩ := x_ob hf
  refine xr_iast S G hd5 dX10_init_34 (fun H locs G => ?_)
  refine lv_dup hx hb dX10_init_35 rfl ?_
  refine lv_iconst (v := (4 : Int32)) hx hb dX10_init_36 (by decide) ?_
  refine lv_iconst (v := (0 : Int32)) hx hb dX10_init_37 (by decide) ?_
  obtain ⟨d6, hd6, hf⟩ := x_ob hf
  refine xr_iast S G hd6 dX10_init_38 (fun H locs G => ?_)
  refine lv_dup hx hb dX10_init_39 rfl ?_
  refine lv_iconst (v := (5 : Int32)) hx hb dX10_init_40 (by decide) ?_
  refine lv_iconst (v := (0 : Int32)) hx hb dX10_init_41 (by decide) ?_
  obtain ⟨d7, hd7, hf⟩ := x_ob hf
  refine xr_iast S G hd7 dX10_init_42 (fun H locs G => ?_)
  refine lv_dup hx hb dX10_init_43 rfl ?_
  refine lv_bipush (v := (6 : Int32)) hx hb dX10_init_44 (by decide) ?_
  refine lv_iconst (v := (0 : Int32)) hx hb dX10_init_46 (by decide) ?_
  obtain ⟨d8, hd8, hf⟩ := x_ob hf
  refine xr_iast S G hd8 dX10_init_47 (fun H locs G => ?_)
  refine lv_dup hx hb dX10_init_48 rfl ?_
  refine lv_bipush (v := (7 : Int32)) hx hb dX10_init_49 (by decide) ?_
  refine lv_iconst (v := (0 : Int32)) hx hb dX10_init_51 (by decide) ?_
  obtain ⟨d9, hd9, hf⟩ := x_ob hf
  refine xr_iast S G hd9 dX10_init_52 (fun H locs G => ?_)
  refine lv_dup hx hb dX10_init_53 rfl ?_
  refine lv_bipush (v := (8 : Int32)) hx hb dX10_init_54 (by decide) ?_
  refine lv_bipush (v := (20 : Int32)) hx hb dX10_init_56 (by decide) ?_
  obtain ⟨d10, hd10, hf⟩ := x_ob hf
  refine xr_iast S G hd10 dX10_init_58 (fun H locs G => ?_)
  refine lv_dup hx hb dX10_init_59 rfl ?_
  refine lv_bipush (v := (9 : Int32)) hx hb dX10_init_60 (by decide) ?_
  refine lv_iconst (v := (0 : Int32)) hx hb dX10_init_62 (by decide) ?_
  obtain ⟨d11, hd11, hf⟩ := x_ob hf
  refine xr_iast S G hd11 dX10_init_63 (fun H locs G => ?_)
  refine lv_dup hx hb dX10_init_64 rfl ?_
  refine lv_bipush (v := (10 : Int32)) hx hb dX10_init_65 (by decide) ?_
  refine lv_iconst (v := (0 : Int32)) hx hb dX10_init_67 (by decide) ?_
  obtain ⟨d12, hd12, hf⟩ := x_ob hf
  refine xr_iast S G hd12 dX10_init_68 (fun H locs G => ?_)
  refine lv_dup hx hb dX10_init_69 rfl ?_
  refine lv_bipush (v := (11 : Int32)) hx hb dX10_init_70 (by decide) ?_
  refine lv_iconst (v := (0 : Int32)) hx hb dX10_init_72 (by decide) ?_
  obtain ⟨d13, hd13, hf⟩ := x_ob hf
  refine xr_iast S G hd13 dX10_init_73 (fun H locs G => ?_)
  refine lv_dup hx hb dX10_init_74 rfl ?_
  refine lv_bipush (v := (12 : Int32)) hx hb dX10_init_75 (by decide) ?_
  refine lv_iconst (v := (0 : Int32)) hx hb dX10_init_77 (by decide) ?_
  obtain ⟨d14, hd14, hf⟩ := x_ob hf
  refine xr_iast S G hd14 dX10_init_78 (fun H locs G => ?_)
  refine lv_dup hx hb dX10_init_79 rfl ?_
  refine lv_bipush (v := (13 : Int32)) hx hb dX10_init_80 (by decide) ?_
  refine lv_iconst (v := (0 : Int32)) hx hb dX10_init_82 (by decide) ?_
  obtain ⟨d15, hd15, hf⟩ := x_ob hf
  refine xr_iast S G hd15 dX10_init_83 (fun H locs G => ?_)
  refine lv_dup hx hb dX10_init_84 rfl ?_
  refine lv_bipush (v := (14 : Int32)) hx hb dX10_init_85 (by decide) ?_
  refine lv_iconst (v := (0 : Int32)) hx hb dX10_init_87 (by decide) ?_
  obtain ⟨d16, hd16, hf⟩ := x_ob hf
  refine xr_iast S G hd16 dX10_init_88 (fun H locs G => ?_)
  refine lv_dup hx hb dX10_init_89 rfl ?_
  refine lv_bipush (v := (15 : Int32)) hx hb dX10_init_90 (by decide) ?_
  refine lv_iconst (v := (0 : Int32)) hx hb dX10_init_92 (by decide) ?_
  obtain ⟨d17, hd17, hf⟩ := x_ob hf
  refine xr_iast S G hd17 dX10_init_93 (fun H locs G => ?_)
  obtain ⟨d18, hd18, hf⟩ := x_ob hf
  refine xr_putRF (ci := 10) (k := 3) S (hin rfl) G hd18 rfl rfl kw_1171 dX10_init_94 (fun H locs G => ?_)
  refine lv_aload_n hx hb dX10_init_97 rfl (lv_at hl 0 rfl) ?_
  refine lv_bipush (v := (16 : Int32)) hx hb dX10_init_98 (by decide) ?_
  refine xr_newa (atype := .int) (ty := .int) (q := (sh.length + 2)) (N := 16) (sh' := (sx_X10_init_3 sh)) 0 S G (sx_X10_init_2_len sh) (by rw [sx_X10_init_2_len]; omega) rfl rfl (sx_X10_init_2_len sh) rfl kw_73 (by decide) (by decide) (Nat.le_of_ble_eq_true rfl) (Nat.le_of_ble_eq_true rfl) (Nat.le_of_ble_eq_true rfl) dX10_init_100 (fun H G => ?_)
  obtain ⟨d19, hd19, hf⟩ := x_ob hf
  refine xr_putRF (ci := 10) (k := 4) S (hin rfl) G hd19 rfl rfl kw_1172 dX10_init_102 (fun H locs G => ?_)
  refine lv_aload_n hx hb dX10_init_105 rfl (lv_at hl 0 rfl) ?_
  refine lv_bipush (v := (16 : Int32)) hx hb dX10_init_106 (by decide) ?_
  refine xr_newa (atype := .int) (ty := .int) (q := (sh.length + 3)) (N := 16) (sh' := (sx_X10_init_4 sh)) 0 S G (sx_X10_init_3_len sh) (by rw [sx_X10_init_3_len]; omega) rfl rfl (sx_X10_init_3_len sh) rfl kw_73 (by decide) (by decide) (Nat.le_of_ble_eq_true rfl) (Nat.le_of_ble_eq_true rfl) (Nat.le_of_ble_eq_true rfl) dX10_init_108 (fun H G => ?_)
  obtain ⟨d20, hd20, hf⟩ := x_ob hf
  refine xr_putRF (ci := 10) (k := 5) S (hin rfl) G hd20 rfl rfl kw_1173 dX10_init_110 (fun H locs G => ?_)
  refine lv_aload_n hx hb dX10_init_113 rfl (lv_at hl 0 rfl) ?_
  refine lv_bipush (v := (16 : Int32)) hx hb dX10_init_114 (by decide) ?_
  refine xr_newa (atype := .int) (ty := .int) (q := (sh.length + 4)) (N := 16) (sh' := (sx_X10_init_5 sh)) 0 S G (sx_X10_init_4_len sh) (by rw [sx_X10_init_4_len]; omega) rfl rfl (sx_X10_init_4_len sh) rfl kw_73 (by decide) (by decide) (Nat.le_of_ble_eq_true rfl) (Nat.le_of_ble_eq_true rfl) (Nat.le_of_ble_eq_true rfl) dX10_init_116 (fun H G => ?_)
  obtain ⟨d21, hd21, hf⟩ := x_ob hf
  refine xr_putRF (ci := 10) (k := 6) S (hin rfl) G hd21 rfl rfl kw_1174 dX10_init_118 (fun H locs G => ?_)
  refine lv_aload_n hx hb dX10_init_121 rfl (lv_at hl 0 rfl) ?_
  refine lv_bipush (v := (12 : Int32)) hx hb dX10_init_122 (by decide) ?_
  refine xr_newa (atype := .int) (ty := .int) (q := (sh.length + 5)) (N := 12) (sh' := (sx_X10_init_6 sh)) 0 S G (sx_X10_init_5_len sh) (by rw [sx_X10_init_5_len]; omega) rfl rfl (sx_X10_init_5_len sh) rfl kw_73 (by decide) (by decide) (Nat.le_of_ble_eq_true rfl) (Nat.le_of_ble_eq_true rfl) (Nat.le_of_ble_eq_true rfl) dX10_init_124 (fun H G => ?_)
  obtain ⟨d22, hd22, hf⟩ := x_ob hf
  refine xr_putRF (ci := 10) (k := 7) S (hin rfl) G hd22 rfl rfl kw_1175 dX10_init_126 (fun H locs G => ?_)
  refine lv_aload_n hx hb dX10_init_129 rfl (lv_at hl 0 rfl) ?_
  refine lv_bipush (v := (12 : Int32)) hx hb dX10_init_130 (by decide) ?_
  refine xr_newa (atype := .int) (ty := .int) (q := (sh.length + 6)) (N := 12) (sh' := (sx_X10_init_7 sh)) 0 S G (sx_X10_init_6_len sh) (by rw [sx_X10_init_6_len]; omega) rfl rfl (sx_X10_init_6_len sh) rfl kw_73 (by decide) (by decide) (Nat.le_of_ble_eq_true rfl) (Nat.le_of_ble_eq_true rfl) (Nat.le_of_ble_eq_true rfl) dX10_init_132 (fun H G => ?_)
  obtain ⟨d23, hd23, hf⟩ := x_ob hf
  refine xr_putRF (ci := 10) (k := 8) S (hin rfl) G hd23 rfl rfl kw_1176 dX10_init_134 (fun H locs G => ?_)
  refine lv_aload_n hx hb dX10_init_137 rfl (lv_at hl 0 rfl) ?_
  refine lv_bipush (v := (12 : Int32)) hx hb dX10_init_138 (by decide) ?_
  refine xr_newa (atype := .int) (ty := .int) (q := (sh.length + 7)) (N := 12) (sh' := (sx_X10_init_8 sh)) 0 S G (sx_X10_init_7_len sh) (by rw [sx_X10_init_7_len]; omega) rfl rfl (sx_X10_init_7_len sh) rfl kw_73 (by decide) (by decide) (Nat.le_of_ble_eq_true rfl) (Nat.le_of_ble_eq_true rfl) (Nat.le_of_ble_eq_true rfl) dX10_init_140 (fun H G => ?_)
  obtain ⟨d24, hd24, hf⟩ := x_ob hf
  refine xr_putRF (ci := 10) (k := 9) S (hin rfl) G hd24 rfl rfl kw_1177 dX10_init_142 (fun H locs G => ?_)
  refine lv_aload_n hx hb dX10_init_145 rfl (lv_at hl 0 rfl) ?_
  refine lv_bipush (v := (12 : Int32)) hx hb dX10_init_146 (by decide) ?_
  refine xr_newa (atype := .int) (ty := .int) (q := (sh.length + 8)) (N := 12) (sh' := (sx_X10_init_9 sh)) 0 S G (sx_X10_init_8_len sh) (by rw [sx_X10_init_8_len]; omega) rfl rfl (sx_X10_init_8_len sh) rfl kw_73 (by decide) (by decide) (Nat.le_of_ble_eq_true rfl) (Nat.le_of_ble_eq_true rfl) (Nat.le_of_ble_eq_true rfl) dX10_init_148 (fun H G => ?_)
  obtain ⟨d25, hd25, hf⟩ := x_ob hf
  refine xr_putRF (ci := 10) (k := 10) S (hin rfl) G hd25 rfl rfl kw_1178 dX10_init_150 (fun H locs G => ?_)
  refine lv_aload_n hx hb dX10_init_153 rfl (lv_at hl 0 rfl) ?_
  refine lv_bipush (v := (12 : Int32)) hx hb dX10_init_154 (by decide) ?_
  refine xr_newa (atype := .int) (ty := .int) (q := (sh.length + 9)) (N := 12) (sh' := (sx_X10_init_10 sh)) 0 S G (sx_X10_init_9_len sh) (by rw [sx_X10_init_9_len]; omega) rfl rfl (sx_X10_init_9_len sh) rfl kw_73 (by decide) (by decide) (Nat.le_of_ble_eq_true rfl) (Nat.le_of_ble_eq_true rfl) (Nat.le_of_ble_eq_true rfl) dX10_init_156 (fun H G => ?_)
  obtain ⟨d26, hd26, hf⟩ := x_ob hf
  refine xr_putRF (ci := 10) (k := 11) S (hin rfl) G hd26 rfl rfl kw_1179 dX10_init_158 (fun H locs G => ?_)
  refine lv_aload_n hx hb dX10_init_161 rfl (lv_at hl 0 rfl) ?_
  refine lv_bipush (v := (24 : Int32)) hx hb dX10_init_162 (by decide) ?_
  refine xr_newa (atype := .int) (ty := .int) (q := (sh.length + 10)) (N := 24) (sh' := (sx_X10_init_11 sh)) 0 S G (sx_X10_init_10_len sh) (by rw [sx_X10_init_10_len]; omega) rfl rfl (sx_X10_init_10_len sh) rfl kw_73 (by decide) (by decide) (Nat.le_of_ble_eq_true rfl) (Nat.le_of_ble_eq_true rfl) (Nat.le_of_ble_eq_true rfl) dX10_init_164 (fun H G => ?_)
  obtain ⟨d27, hd27, hf⟩ := x_ob hf
  refine xr_putRF (ci := 10) (k := 12) S (hin rfl) G hd27 rfl rfl kw_1180 dX10_init_166 (fun H locs G => ?_)
  refine lv_aload_n hx hb dX10_init_169 rfl (lv_at hl 0 rfl) ?_
  refine lv_bipush (v := (24 : Int32)) hx hb dX10_init_170 (by decide) ?_
  refine xr_newa (atype := .int) (ty := .int) (q := (sh.length + 11)) (N := 24) (sh' := (sx_X10_init_12 sh)) 0 S G (sx_X10_init_11_len sh) (by rw [sx_X10_init_11_len]; omega) rfl rfl (sx_X10_init_11_len sh) rfl kw_73 (by decide) (by decide) (Nat.le_of_ble_eq_true rfl) (Nat.le_of_ble_eq_true rfl) (Nat.le_of_ble_eq_true rfl) dX10_init_172 (fun H G => ?_)
  obtain ⟨d28, hd28, hf⟩ := x_ob hf
  refine xr_putRF (ci := 10) (k := 13) S (hin rfl) G hd28 rfl rfl kw_1181 dX10_init_174 (fun H locs G => ?_)
  refine lv_aload_n hx hb dX10_init_177 rfl (lv_at hl 0 rfl) ?_
  refine lv_bipush (v := (24 : Int32)) hx hb dX10_init_178 (by decide) ?_
  refine xr_newa (atype := .int) (ty := .int) (q := (sh.length + 12)) (N := 24) (sh' := (sx_X10_init_13 sh)) 0 S G (sx_X10_init_12_len sh) (by rw [sx_X10_init_12_len]; omega) rfl rfl (sx_X10_init_12_len sh) rfl kw_73 (by decide) (by decide) (Nat.le_of_ble_eq_true rfl) (Nat.le_of_ble_eq_true rfl) (Nat.le_of_ble_eq_true rfl) dX10_init_180 (fun H G => ?_)
  obtain ⟨d29, hd29, hf⟩ := x_ob hf
  refine xr_putRF (ci := 10) (k := 14) S (hin rfl) G hd29 rfl rfl kw_1182 dX10_init_182 (fun H locs G => ?_)
  refine lv_aload_n hx hb dX10_init_185 rfl (lv_at hl 0 rfl) ?_
  refine lv_bipush (v := (6 : Int32)) hx hb dX10_init_186 (by decide) ?_
  refine xr_newa (atype := .int) (ty := .int) (q := (sh.length + 13)) (N := 6) (sh' := (sx_X10_init_14 sh)) 0 S G (sx_X10_init_13_len sh) (by rw [sx_X10_init_13_len]; omega) rfl rfl (sx_X10_init_13_len sh) rfl kw_73 (by decide) (by decide) (Nat.le_of_ble_eq_true rfl) (Nat.le_of_ble_eq_true rfl) (Nat.le_of_ble_eq_true rfl) dX10_init_188 (fun H G => ?_)
  obtain ⟨d30, hd30, hf⟩ := x_ob hf
  refine xr_putRF (ci := 10) (k := 15) S (hin rfl) G hd30 rfl rfl kw_1183 dX10_init_190 (fun H locs G => ?_)
  refine lv_aload_n hx hb dX10_init_193 rfl (lv_at hl 0 rfl) ?_
  refine lv_bipush (v := (6 : Int32)) hx hb dX10_init_194 (by decide) ?_
  refine xr_newa (atype := .int) (ty := .int) (q := (sh.length + 14)) (N := 6) (sh' := (sx_X10_init_15 sh)) 0 S G (sx_X10_init_14_len sh) (by rw [sx_X10_init_14_len]; omega) rfl rfl (sx_X10_init_14_len sh) rfl kw_73 (by decide) (by decide) (Nat.le_of_ble_eq_true rfl) (Nat.le_of_ble_eq_true rfl) (Nat.le_of_ble_eq_true rfl) dX10_init_196 (fun H G => ?_)
  obtain ⟨d31, hd31, hf⟩ := x_ob hf
  refine xr_putRF (ci := 10) (k := 16) S (hin rfl) G hd31 rfl rfl kw_1184 dX10_init_198 (fun H locs G => ?_)
  refine lv_aload_n hx hb dX10_init_201 rfl (lv_at hl 0 rfl) ?_
  refine lv_sipush (v := (128 : Int32)) hx hb dX10_init_202 (by decide) ?_
  refine xr_newa (atype := .int) (ty := .int) (q := (sh.length + 15)) (N := 128) (sh' := (sx_X10_init_16 sh)) 0 S G (sx_X10_init_15_len sh) (by rw [sx_X10_init_15_len]; omega) rfl rfl (sx_X10_init_15_len sh) rfl kw_73 (by decide) (by decide) (Nat.le_of_ble_eq_true rfl) (Nat.le_of_ble_eq_true rfl) (Nat.le_of_ble_eq_true rfl) dX10_init_205 (fun H G => ?_)
  obtain ⟨d32, hd32, hf⟩ := x_ob hf
  refine xr_putRF (ci := 10) (k := 17) S (hin rfl) G hd32 rfl rfl kw_1185 dX10_init_207 (fun H locs G => ?_)
  refine lv_aload_n hx hb dX10_init_210 rfl (lv_at hl 0 rfl) ?_
  refine lv_sipush (v := (128 : Int32)) hx hb dX10_init_211 (by decide) ?_
  refine xr_newa (atype := .int) (ty := .int) (q := (sh.length + 16)) (N := 128) (sh' := (sx_X10_init_17 sh)) 0 S G (sx_X10_init_16_len sh) (by rw [sx_X10_init_16_len]; omega) rfl rfl (sx_X10_init_16_len sh) rfl kw_73 (by decide) (by decide) (Nat.le_of_ble_eq_true rfl) (Nat.le_of_ble_eq_true rfl) (Nat.le_of_ble_eq_true rfl) dX10_init_214 (fun H G => ?_)
  obtain ⟨d33, hd33, hf⟩ := x_ob hf
  refine xr_putRF (ci := 10) (k := 18) S (hin rfl) G hd33 rfl rfl kw_1186 dX10_init_216 (fun H locs G => ?_)
  refine lv_aload_n hx hb dX10_init_219 rfl (lv_at hl 0 rfl) ?_
  refine lv_iconst (v := (-1 : Int32)) hx hb dX10_init_220 (by decide) ?_
  obtain ⟨d34, hd34, hf⟩ := x_ob hf
  refine xr_putI (ci := 10) (k := 29) S G hd34 rfl kw_1197 dX10_init_221 (fun H locs G => ?_)
  refine lv_aload_n hx hb dX10_init_224 rfl (lv_at hl 0 rfl) ?_
  refine lv_bipush (v := (7 : Int32)) hx hb dX10_init_225 (by decide) ?_
  refine xr_newa (atype := .long) (ty := .long) (q := (sh.length + 17)) (N := 7) (sh' := (sx_X10_init_18 sh)) 3 S G (sx_X10_init_17_len sh) (by rw [sx_X10_init_17_len]; omega) rfl rfl (sx_X10_init_17_len sh) rfl kw_74 (by decide) (by decide) (Nat.le_of_ble_eq_true rfl) (Nat.le_of_ble_eq_true rfl) (Nat.le_of_ble_eq_true rfl) dX10_init_227 (fun H G => ?_)
  obtain ⟨d35, hd35, hf⟩ := x_ob hf
  refine xr_putRF (ci := 10) (k := 32) S (hin rfl) G hd35 rfl rfl kw_1200 dX10_init_229 (fun H locs G => ?_)
  refine lv_aload_n hx hb dX10_init_232 rfl (lv_at hl 0 rfl) ?_
  refine lv_bipush (v := (64 : Int32)) hx hb dX10_init_233 (by decide) ?_
  refine xr_newa (atype := .long) (ty := .long) (q := (sh.length + 18)) (N := 64) (sh' := (sx_X10_init_19 sh)) 3 S G (sx_X10_init_18_len sh) (by rw [sx_X10_init_18_len]; omega) rfl rfl (sx_X10_init_18_len sh) rfl kw_74 (by decide) (by decide) (Nat.le_of_ble_eq_true rfl) (Nat.le_of_ble_eq_true rfl) (Nat.le_of_ble_eq_true rfl) dX10_init_235 (fun H G => ?_)
  obtain ⟨d36, hd36, hf⟩ := x_ob hf
  refine xr_putRF (ci := 10) (k := 33) S (hin rfl) G hd36 rfl rfl kw_1201 dX10_init_237 (fun H locs G => ?_)
  refine lv_aload_n hx hb dX10_init_240 rfl (lv_at hl 0 rfl) ?_
  refine lv_bipush (v := (23 : Int32)) hx hb dX10_init_241 (by decide) ?_
  refine xr_newa (atype := .int) (ty := .int) (q := (sh.length + 19)) (N := 23) (sh' := (sx_X10_init_20 sh)) 0 S G (sx_X10_init_19_len sh) (by rw [sx_X10_init_19_len]; omega) rfl rfl (sx_X10_init_19_len sh) rfl kw_73 (by decide) (by decide) (Nat.le_of_ble_eq_true rfl) (Nat.le_of_ble_eq_true rfl) (Nat.le_of_ble_eq_true rfl) dX10_init_243 (fun H G => ?_)
  obtain ⟨d37, hd37, hf⟩ := x_ob hf
  refine xr_putRF (ci := 10) (k := 35) S (hin rfl) G hd37 rfl rfl kw_1203 dX10_init_245 (fun H locs G => ?_)
  refine lv_aload_n hx hb dX10_init_248 rfl (lv_at hl 0 rfl) ?_
  refine lv_bipush (v := (23 : Int32)) hx hb dX10_init_249 (by decide) ?_
  refine xr_newa (atype := .int) (ty := .int) (q := (sh.length + 20)) (N := 23) (sh' := (sx_X10_init_21 sh)) 0 S G (sx_X10_init_20_len sh) (by rw [sx_X10_init_20_len]; omega) rfl rfl (sx_X10_init_20_len sh) rfl kw_73 (by decide) (by decide) (Nat.le_of_ble_eq_true rfl) (Nat.le_of_ble_eq_true rfl) (Nat.le_of_ble_eq_true rfl) dX10_init_251 (fun H G => ?_)
  obtain ⟨d38, hd38, hf⟩ := x_ob hf
  refine xr_putRF (ci := 10) (k := 36) S (hin rfl) G hd38 rfl rfl kw_1204 dX10_init_253 (fun H locs G => ?_)
  refine lv_aload_n hx hb dX10_init_256 rfl (lv_at hl 0 rfl) ?_
  refine lv_bipush (v := (23 : Int32)) hx hb dX10_init_257 (by decide) ?_
  refine xr_newa (atype := .int) (ty := .int) (q := (sh.length + 21)) (N := 23) (sh' := (sx_X10_init_22 sh)) 0 S G (sx_X10_init_21_len sh) (by rw [sx_X10_init_21_len]; omega) rfl rfl (sx_X10_init_21_len sh) rfl kw_73 (by decide) (by decide) (Nat.le_of_ble_eq_true rfl) (Nat.le_of_ble_eq_true rfl) (Nat.le_of_ble_eq_true rfl) dX10_init_259 (fun H G => ?_)
  obtain ⟨d39, hd39, hf⟩ := x_ob hf
  refine xr_putRF (ci := 10) (k := 37) S (hin rfl) G hd39 rfl rfl kw_1205 dX10_init_261 (fun H locs G => ?_)
  refine lv_aload_n hx hb dX10_init_264 rfl (lv_at hl 0 rfl) ?_
  refine lv_bipush (v := (23 : Int32)) hx hb dX10_init_265 (by decide) ?_
  refine xr_newa (atype := .int) (ty := .int) (q := (sh.length + 22)) (N := 23) (sh' := (sx_X10_init_23 sh)) 0 S G (sx_X10_init_22_len sh) (by rw [sx_X10_init_22_len]; omega) rfl rfl (sx_X10_init_22_len sh) rfl kw_73 (by decide) (by decide) (Nat.le_of_ble_eq_true rfl) (Nat.le_of_ble_eq_true rfl) (Nat.le_of_ble_eq_true rfl) dX10_init_267 (fun H G => ?_)
  obtain ⟨d40, hd40, hf⟩ := x_ob hf
  refine xr_putRF (ci := 10) (k := 38) S (hin rfl) G hd40 rfl rfl kw_1206 dX10_init_269 (fun H locs G => ?_)
  refine lv_aload_n hx hb dX10_init_272 rfl (lv_at hl 0 rfl) ?_
  refine lv_bipush (v := (23 : Int32)) hx hb dX10_init_273 (by decide) ?_
  refine xr_newa (atype := .int) (ty := .int) (q := (sh.length + 23)) (N := 23) (sh' := (sx_X10_init_24 sh)) 0 S G (sx_X10_init_23_len sh) (by rw [sx_X10_init_23_len]; omega) rfl rfl (sx_X10_init_23_len sh) rfl kw_73 (by decide) (by decide) (Nat.le_of_ble_eq_true rfl) (Nat.le_of_ble_eq_true rfl) (Nat.le_of_ble_eq_true rfl) dX10_init_275 (fun H G => ?_)
  obtain ⟨d41, hd41, hf⟩ := x_ob hf
  refine xr_putRF (ci := 10) (k := 39) S (hin rfl) G hd41 rfl rfl kw_1207 dX10_init_277 (fun H locs G => ?_)
  refine lv_aload_n hx hb dX10_init_280 rfl (lv_at hl 0 rfl) ?_
  refine lv_sipush (v := (138 : Int32)) hx hb dX10_init_281 (by decide) ?_
  refine xr_newa (atype := .int) (ty := .int) (q := (sh.length + 24)) (N := 138) (sh' := (sx_X10_init_25 sh)) 0 S G (sx_X10_init_24_len sh) (by rw [sx_X10_init_24_len]; omega) rfl rfl (sx_X10_init_24_len sh) rfl kw_73 (by decide) (by decide) (Nat.le_of_ble_eq_true rfl) (Nat.le_of_ble_eq_true rfl) (Nat.le_of_ble_eq_true rfl) dX10_init_284 (fun H G => ?_)
  obtain ⟨d42, hd42, hf⟩ := x_ob hf
  refine xr_putRF (ci := 10) (k := 40) S (hin rfl) G hd42 rfl rfl kw_1208 dX10_init_286 (fun H locs G => ?_)
  refine lv_aload_n hx hb dX10_init_289 rfl (lv_at hl 0 rfl) ?_
  refine lv_sipush (v := (138 : Int32)) hx hb dX10_init_290 (by decide) ?_
  refine xr_newa (atype := .int) (ty := .int) (q := (sh.length + 25)) (N := 138) (sh' := (sx_X10_init_26 sh)) 0 S G (sx_X10_init_25_len sh) (by rw [sx_X10_init_25_len]; omega) rfl rfl (sx_X10_init_25_len sh) rfl kw_73 (by decide) (by decide) (Nat.le_of_ble_eq_true rfl) (Nat.le_of_ble_eq_true rfl) (Nat.le_of_ble_eq_true rfl) dX10_init_293 (fun H G => ?_)
  obtain ⟨d43, hd43, hf⟩ := x_ob hf
  refine xr_putRF (ci := 10) (k := 41) S (hin rfl) G hd43 rfl rfl kw_1209 dX10_init_295 (fun H locs G => ?_)
  refine lv_aload_n hx hb dX10_init_298 rfl (lv_at hl 0 rfl) ?_
  refine lv_sipush (v := (138 : Int32)) hx hb dX10_init_299 (by decide) ?_
  refine xr_newa (atype := .int) (ty := .int) (q := (sh.length + 26)) (N := 138) (sh' := (sx_X10_init_27 sh)) 0 S G (sx_X10_init_26_len sh) (by rw [sx_X10_init_26_len]; omega) rfl rfl (sx_X10_init_26_len sh) rfl kw_73 (by decide) (by decide) (Nat.le_of_ble_eq_true rfl) (Nat.le_of_ble_eq_true rfl) (Nat.le_of_ble_eq_true rfl) dX10_init_302 (fun H G => ?_)
  obtain ⟨d44, hd44, hf⟩ := x_ob hf
  refine xr_putRF (ci := 10) (k := 42) S (hin rfl) G hd44 rfl rfl kw_1210 dX10_init_304 (fun H locs G => ?_)
  refine lv_aload_n hx hb dX10_init_307 rfl (lv_at hl 0 rfl) ?_
  refine lv_sipush (v := (138 : Int32)) hx hb dX10_init_308 (by decide) ?_
  refine xr_newa (atype := .int) (ty := .int) (q := (sh.length + 27)) (N := 138) (sh' := (sx_X10_init_28 sh)) 0 S G (sx_X10_init_27_len sh) (by rw [sx_X10_init_27_len]; omega) rfl rfl (sx_X10_init_27_len sh) rfl kw_73 (by decide) (by decide) (Nat.le_of_ble_eq_true rfl) (Nat.le_of_ble_eq_true rfl) (Nat.le_of_ble_eq_true rfl) dX10_init_311 (fun H G => ?_)
  obtain ⟨d45, hd45, hf⟩ := x_ob hf
  refine xr_putRF (ci := 10) (k := 43) S (hin rfl) G hd45 rfl rfl kw_1211 dX10_init_313 (fun H locs G => ?_)
  refine lv_aload_n hx hb dX10_init_316 rfl (lv_at hl 0 rfl) ?_
  refine lv_sipush (v := (138 : Int32)) hx hb dX10_init_317 (by decide) ?_
  refine xr_newa (atype := .int) (ty := .int) (q := (sh.length + 28)) (N := 138) (sh' := (sx_X10_init_29 sh)) 0 S G (sx_X10_init_28_len sh) (by rw [sx_X10_init_28_len]; omega) rfl rfl (sx_X10_init_28_len sh) rfl kw_73 (by decide) (by decide) (Nat.le_of_ble_eq_true rfl) (Nat.le_of_ble_eq_true rfl) (Nat.le_of_ble_eq_true rfl) dX10_init_320 (fun H G => ?_)
  obtain ⟨d46, hd46, hf⟩ := x_ob hf
  refine xr_putRF (ci := 10) (k := 44) S (hin rfl) G hd46 rfl rfl kw_1212 dX10_init_322 (fun H locs G => ?_)
  refine lv_aload_n hx hb dX10_init_325 rfl (lv_at hl 0 rfl) ?_
  refine lv_sipush (v := (138 : Int32)) hx hb dX10_init_326 (by decide) ?_
  refine xr_newa (atype := .int) (ty := .int) (q := (sh.length + 29)) (N := 138) (sh' := (sx_X10_init_30 sh)) 0 S G (sx_X10_init_29_len sh) (by rw [sx_X10_init_29_len]; omega) rfl rfl (sx_X10_init_29_len sh) rfl kw_73 (by decide) (by decide) (Nat.le_of_ble_eq_true rfl) (Nat.le_of_ble_eq_true rfl) (Nat.le_of_ble_eq_true rfl) dX10_init_329 (fun H G => ?_)
  obtain ⟨d47, hd47, hf⟩ := x_ob hf
  refine xr_putRF (ci := 10) (k := 45) S (hin rfl) G hd47 rfl rfl kw_1213 dX10_init_331 (fun H locs G => ?_)
  refine lv_aload_n hx hb dX10_init_334 rfl (lv_at hl 0 rfl) ?_
  refine lv_sipush (v := (138 : Int32)) hx hb dX10_init_335 (by decide) ?_
  refine xr_newa (atype := .int) (ty := .int) (q := (sh.length + 30)) (N := 138) (sh' := (sx_X10_init_31 sh)) 0 S G (sx_X10_init_30_len sh) (by rw [sx_X10_init_30_len]; omega) rfl rfl (sx_X10_init_30_len sh) rfl kw_73 (by decide) (by decide) (Nat.le_of_ble_eq_true rfl) (Nat.le_of_ble_eq_true rfl) (Nat.le_of_ble_eq_true rfl) dX10_init_338 (fun H G => ?_)
  obtain ⟨d48, hd48, hf⟩ := x_ob hf
  refine xr_putRF (ci := 10) (k := 46) S (hin rfl) G hd48 rfl rfl kw_1214 dX10_init_340 (fun H locs G => ?_)
  refine lv_aload_n hx hb dX10_init_343 rfl (lv_at hl 0 rfl) ?_
  refine lv_sipush (v := (184 : Int32)) hx hb dX10_init_344 (by decide) ?_
  refine xr_newa (atype := .int) (ty := .int) (q := (sh.length + 31)) (N := 184) (sh' := (sx_X10_init_32 sh)) 0 S G (sx_X10_init_31_len sh) (by rw [sx_X10_init_31_len]; omega) rfl rfl (sx_X10_init_31_len sh) rfl kw_73 (by decide) (by decide) (Nat.le_of_ble_eq_true rfl) (Nat.le_of_ble_eq_true rfl) (Nat.le_of_ble_eq_true rfl) dX10_init_347 (fun H G => ?_)
  obtain ⟨d49, hd49, hf⟩ := x_ob hf
  refine xr_putRF (ci := 10) (k := 47) S (hin rfl) G hd49 rfl rfl kw_1215 dX10_init_349 (fun H locs G => ?_)
  refine lv_aload_n hx hb dX10_init_352 rfl (lv_at hl 0 rfl) ?_
  refine lv_iconst (v := (-1 : Int32)) hx hb dX10_init_353 (by decide) ?_
  obtain ⟨d50, hd50, hf⟩ := x_ob hf
  refine xr_putI (ci := 10) (k := 51) S G hd50 rfl kw_1219 dX10_init_354 (fun H locs G => ?_)
  refine lv_aload_n hx hb dX10_init_357 rfl (lv_at hl 0 rfl) ?_
  refine lv_iconst (v := (-1 : Int32)) hx hb dX10_init_358 (by decide) ?_
  obtain ⟨d51, hd51, hf⟩ := x_ob hf
  refine xr_putI (ci := 10) (k := 53) S G hd51 rfl kw_1221 dX10_init_359 (fun H locs G => ?_)
  refine lv_aload_n hx hb dX10_init_362 rfl (lv_at hl 0 rfl) ?_
  refine lv_bipush (v := (64 : Int32)) hx hb dX10_init_363 (by decide) ?_
  refine xr_newa (atype := .int) (ty := .int) (q := (sh.length + 32)) (N := 64) (sh' := (sx_X10_init_33 sh)) 0 S G (sx_X10_init_32_len sh) (by rw [sx_X10_init_32_len]; omega) rfl rfl (sx_X10_init_32_len sh) rfl kw_73 (by decide) (by decide) (Nat.le_of_ble_eq_true rfl) (Nat.le_of_ble_eq_true rfl) (Nat.le_of_ble_eq_true rfl) dX10_init_365 (fun H G => ?_)
  obtain ⟨d52, hd52, hf⟩ := x_ob hf
  refine xr_putRF (ci := 10) (k := 56) S (hin rfl) G hd52 rfl rfl kw_1224 dX10_init_367 (fun H locs G => ?_)
  refine lv_aload_n hx hb dX10_init_370 rfl (lv_at hl 0 rfl) ?_
  refine lv_iconst (v := (-1 : Int32)) hx hb dX10_init_371 (by decide) ?_
  obtain ⟨d53, hd53, hf⟩ := x_ob hf
  refine xr_putI (ci := 10) (k := 58) S G hd53 rfl kw_1226 dX10_init_372 (fun H locs G => ?_)
  refine lv_aload_n hx hb dX10_init_375 rfl (lv_at hl 0 rfl) ?_
  refine lv_bipush (v := (24 : Int32)) hx hb dX10_init_376 (by decide) ?_
  refine xr_newa (atype := .int) (ty := .int) (q := (sh.length + 33)) (N := 24) (sh' := (sx_X10_init_34 sh)) 0 S G (sx_X10_init_33_len sh) (by rw [sx_X10_init_33_len]; omega) rfl rfl (sx_X10_init_33_len sh) rfl kw_73 (by decide) (by decide) (Nat.le_of_ble_eq_true rfl) (Nat.le_of_ble_eq_true rfl) (Nat.le_of_ble_eq_true rfl) dX10_init_378 (fun H G => ?_)
  obtain ⟨d54, hd54, hf⟩ := x_ob hf
  refine xr_putRF (ci := 10) (k := 59) S (hin rfl) G hd54 rfl rfl kw_1227 dX10_init_380 (fun H locs G => ?_)
  refine lv_aload_n hx hb dX10_init_383 rfl (lv_at hl 0 rfl) ?_
  refine lv_bipush (v := (24 : Int32)) hx hb dX10_init_384 (by decide) ?_
  refine xr_newa (atype := .int) (ty := .int) (q := (sh.length + 34)) (N := 24) (sh' := (sx_X10_init_35 sh)) 0 S G (sx_X10_init_34_len sh) (by rw [sx_X10_init_34_len]; omega) rfl rfl (sx_X10_init_34_len sh) rfl kw_73 (by decide) (by decide) (Nat.le_of_ble_eq_true rfl) (Nat.le_of_ble_eq_true rfl) (Nat.le_of_ble_eq_true rfl) dX10_init_386 (fun H G => ?_)
  obtain ⟨d55, hd55, hf⟩ := x_ob hf
  refine xr_putRF (ci := 10) (k := 60) S (hin rfl) G hd55 rfl rfl kw_1228 dX10_init_388 (fun H locs G => ?_)
  refine lv_aload_n hx hb dX10_init_391 rfl (lv_at hl 0 rfl) ?_
  refine lv_bipush (v := (24 : Int32)) hx hb dX10_init_392 (by decide) ?_
  refine xr_newa (atype := .int) (ty := .int) (q := (sh.length + 35)) (N := 24) (sh' := (sx_X10_init_36 sh)) 0 S G (sx_X10_init_35_len sh) (by rw [sx_X10_init_35_len]; omega) rfl rfl (sx_X10_init_35_len sh) rfl kw_73 (by decide) (by decide) (Nat.le_of_ble_eq_true rfl) (Nat.le_of_ble_eq_true rfl) (Nat.le_of_ble_eq_true rfl) dX10_init_394 (fun H G => ?_)
  obtain ⟨d56, hd56, hf⟩ := x_ob hf
  refine xr_putRF (ci := 10) (k := 61) S (hin rfl) G hd56 rfl rfl kw_1229 dX10_init_396 (fun H locs G => ?_)
  refine lv_aload_n hx hb dX10_init_399 rfl (lv_at hl 0 rfl) ?_
  refine lv_bipush (v := (24 : Int32)) hx hb dX10_init_400 (by decide) ?_
  refine xr_newa (atype := .boolean) (ty := .boolean) (q := (sh.length + 36)) (N := 24) (sh' := (sx_X10_init_37 sh)) 2 S G (sx_X10_init_36_len sh) (by rw [sx_X10_init_36_len]; omega) rfl rfl (sx_X10_init_36_len sh) rfl kw_468 (by decide) (by decide) (Nat.le_of_ble_eq_true rfl) (Nat.le_of_ble_eq_true rfl) (Nat.le_of_ble_eq_true rfl) dX10_init_402 (fun H G => ?_)
  obtain ⟨d57, hd57, hf⟩ := x_ob hf
  refine xr_putRF (ci := 10) (k := 62) S (hin rfl) G hd57 rfl rfl kw_1230 dX10_init_404 (fun H locs G => ?_)
  refine lv_aload_n hx hb dX10_init_407 rfl (lv_at hl 0 rfl) ?_
  refine lv_bipush (v := (24 : Int32)) hx hb dX10_init_408 (by decide) ?_
  refine xr_newa (atype := .int) (ty := .int) (q := (sh.length + 37)) (N := 24) (sh' := (sx_X10_init_38 sh)) 0 S G (sx_X10_init_37_len sh) (by rw [sx_X10_init_37_len]; omega) rfl rfl (sx_X10_init_37_len sh) rfl kw_73 (by decide) (by decide) (Nat.le_of_ble_eq_true rfl) (Nat.le_of_ble_eq_true rfl) (Nat.le_of_ble_eq_true rfl) dX10_init_410 (fun H G => ?_)
  obtain ⟨d58, hd58, hf⟩ := x_ob hf
  refine xr_putRF (ci := 10) (k := 63) S (hin rfl) G hd58 rfl rfl kw_1231 dX10_init_412 (fun H locs G => ?_)
  refine lv_aload_n hx hb dX10_init_415 rfl (lv_at hl 0 rfl) ?_
  refine lv_bipush (v := (24 : Int32)) hx hb dX10_init_416 (by decide) ?_
  refine xr_newa (atype := .boolean) (ty := .boolean) (q := (sh.length + 38)) (N := 24) (sh' := (sx_X10_init_39 sh)) 2 S G (sx_X10_init_38_len sh) (by rw [sx_X10_init_38_len]; omega) rfl rfl (sx_X10_init_38_len sh) rfl kw_468 (by decide) (by decide) (Nat.le_of_ble_eq_true rfl) (Nat.le_of_ble_eq_true rfl) (Nat.le_of_ble_eq_true rfl) dX10_init_418 (fun H G => ?_)
  obtain ⟨d59, hd59, hf⟩ := x_ob hf
  refine xr_putRF (ci := 10) (k := 64) S (hin rfl) G hd59 rfl rfl kw_1232 dX10_init_420 (fun H locs G => ?_)
  refine lv_aload_n hx hb dX10_init_423 rfl (lv_at hl 0 rfl) ?_
  obtain ⟨d60, hd60, hf⟩ := x_ob hf
  obtain ⟨hqd60, hd60⟩ := xon_of hd60
  refine xr_callV (ci := 10) (As := []) (rest := []) (st1 := []) S G hl.1 (fun _ => sx_X10_init_39_len sh) (mt_X10_begins l D cid b true sa sv B0 (sx_X10_init_39 sh) q0 d59 _ hd60) hqd60 (by decide) kw_1160 kw_1162 ks_35 kw_17 kw_1163 hd_X10_begins ⟨Nat.le_of_ble_eq_true rfl, Nat.le_of_ble_eq_true rfl⟩ rfl rfl rfl (Nat.le_of_ble_eq_true rfl) ⟨Nat.le_of_ble_eq_true rfl, Nat.le_of_ble_eq_true rfl⟩ dX10_init_424 (fun H locs G => ?_)
  cases hf
  exact xr_vret S G (fun _ => sx_X10_init_39_len sh) hr dX10_init_427
