theorem dX12_init_0 : decode cX12_init 0 = .ok (.aload_n 0, 1) := by decide +kernel
theorem dX12_init_1 : decode cX12_init 1 = .ok (.invokespecial 1, 3) := by decide +kernel
theorem dX12_init_4 : decode cX12_init 4 = .ok (.aload_n 0, 1) := by decide +kernel
theorem dX12_init_5 : decode cX12_init 5 = .ok (.sipush 4200, 3) := by decide +kernel
theorem dX12_init_8 : decode cX12_init 8 = .ok (.newarray .int, 2) := by decide +kernel
theorem dX12_init_10 : decode cX12_init 10 = .ok (.putfield 7, 3) := by decide +kernel
theorem dX12_init_13 : decode cX12_init 13 = .ok (.aload_n 0, 1) := by decide +kernel
theorem dX12_init_14 : decode cX12_init 14 = .ok (.sipush 4200, 3) := by decide +kernel
theorem dX12_init_17 : decode cX12_init 17 = .ok (.newarray .int, 2) := by decide +kernel
theorem dX12_init_19 : decode cX12_init 19 = .ok (.putfield 13, 3) := by decide +kernel
theorem dX12_init_22 : decode cX12_init 22 = .ok (.aload_n 0, 1) := by decide +kernel
theorem dX12_init_23 : decode cX12_init 23 = .ok (.sipush 4200, 3) := by decide +kernel
theorem dX12_init_26 : decode cX12_init 26 = .ok (.newarray .int, 2) := by decide +kernel
theorem dX12_init_28 : decode cX12_init 28 = .ok (.putfield 16, 3) := by decide +kernel
theorem dX12_init_31 : decode cX12_init 31 = .ok (.aload_n 0, 1) := by decide +kernel
theorem dX12_init_32 : decode cX12_init 32 = .ok (.sipush 144, 3) := by decide +kernel
theorem dX12_init_35 : decode cX12_init 35 = .ok (.newarray .int, 2) := by decide +kernel
theorem dX12_init_37 : decode cX12_init 37 = .ok (.putfield 19, 3) := by decide +kernel
theorem dX12_init_40 : decode cX12_init 40 = .ok (.aload_n 0, 1) := by decide +kernel
theorem dX12_init_41 : decode cX12_init 41 = .ok (.bipush 24, 2) := by decide +kernel
theorem dX12_init_43 : decode cX12_init 43 = .ok (.newarray .int, 2) := by decide +kernel
theorem dX12_init_45 : decode cX12_init 45 = .ok (.putfield 22, 3) := by decide +kernel
theorem dX12_init_48 : decode cX12_init 48 = .ok (.aload_n 0, 1) := by decide +kernel
theorem dX12_init_49 : decode cX12_init 49 = .ok (.bipush 24, 2) := by decide +kernel
theorem dX12_init_51 : decode cX12_init 51 = .ok (.newarray .int, 2) := by decide +kernel
theorem dX12_init_53 : decode cX12_init 53 = .ok (.putfield 25, 3) := by decide +kernel
theorem dX12_init_56 : decode cX12_init 56 = .ok (.aload_n 0, 1) := by decide +kernel
theorem dX12_init_57 : decode cX12_init 57 = .ok (.sipush 3000, 3) := by decide +kernel
theorem dX12_init_60 : decode cX12_init 60 = .ok (.newarray .int, 2) := by decide +kernel
theorem dX12_init_62 : decode cX12_init 62 = .ok (.putfield 28, 3) := by decide +kernel
theorem dX12_init_65 : decode cX12_init 65 = .ok (.aload_n 0, 1) := by decide +kernel
theorem dX12_init_66 : decode cX12_init 66 = .ok (.iconst (-1), 1) := by decide +kernel
theorem dX12_init_67 : decode cX12_init 67 = .ok (.putfield 31, 3) := by decide +kernel
theorem dX12_init_70 : decode cX12_init 70 = .ok (.aload_n 0, 1) := by decide +kernel
theorem dX12_init_71 : decode cX12_init 71 = .ok (.sipush 8100, 3) := by decide +kernel
theorem dX12_init_74 : decode cX12_init 74 = .ok (.newarray .byte, 2) := by decide +kernel
theorem dX12_init_76 : decode cX12_init 76 = .ok (.putfield 35, 3) := by decide +kernel
theorem dX12_init_79 : decode cX12_init 79 = .ok (.aload_n 0, 1) := by decide +kernel
theorem dX12_init_80 : decode cX12_init 80 = .ok (.sipush 8100, 3) := by decide +kernel
theorem dX12_init_83 : decode cX12_init 83 = .ok (.newarray .byte, 2) := by decide +kernel
theorem dX12_init_85 : decode cX12_init 85 = .ok (.putfield 39, 3) := by decide +kernel
theorem dX12_init_88 : decode cX12_init 88 = .ok (.aload_n 0, 1) := by decide +kernel
theorem dX12_init_89 : decode cX12_init 89 = .ok (.bipush 20, 2) := by decide +kernel
theorem dX12_init_91 : decode cX12_init 91 = .ok (.newarray .int, 2) := by decide +kernel
theorem dX12_init_93 : decode cX12_init 93 = .ok (.putfield 42, 3) := by decide +kernel
theorem dX12_init_96 : decode cX12_init 96 = .ok (.aload_n 0, 1) := by decide +kernel
theorem dX12_init_97 : decode cX12_init 97 = .ok (.sipush 400, 3) := by decide +kernel
theorem dX12_init_100 : decode cX12_init 100 = .ok (.newarray .int, 2) := by decide +kernel
theorem dX12_init_102 : decode cX12_init 102 = .ok (.putfield 45, 3) := by decide +kernel
theorem dX12_init_105 : decode cX12_init 105 = .ok (.aload_n 0, 1) := by decide +kernel
theorem dX12_init_106 : decode cX12_init 106 = .ok (.sipush 400, 3) := by decide +kernel
theorem dX12_init_109 : decode cX12_init 109 = .ok (.newarray .int, 2) := by decide +kernel
theorem dX12_init_111 : decode cX12_init 111 = .ok (.putfield 48, 3) := by decide +kernel
theorem dX12_init_114 : decode cX12_init 114 = .ok (.aload_n 0, 1) := by decide +kernel
theorem dX12_init_115 : decode cX12_init 115 = .ok (.sipush 400, 3) := by decide +kernel
theorem dX12_init_118 : decode cX12_init 118 = .ok (.newarray .int, 2) := by decide +kernel
theorem dX12_init_120 : decode cX12_init 120 = .ok (.putfield 51, 3) := by decide +kernel
theorem dX12_init_123 : decode cX12_init 123 = .ok (.aload_n 0, 1) := by decide +kernel
theorem dX12_init_124 : decode cX12_init 124 = .ok (.sipush 400, 3) := by decide +kernel
theorem dX12_init_127 : decode cX12_init 127 = .ok (.newarray .int, 2) := by decide +kernel
theorem dX12_init_129 : decode cX12_init 129 = .ok (.putfield 54, 3) := by decide +kernel
theorem dX12_init_132 : decode cX12_init 132 = .ok (.aload_n 0, 1) := by decide +kernel
theorem dX12_init_133 : decode cX12_init 133 = .ok (.ldc 57, 2) := by decide +kernel
theorem dX12_init_135 : decode cX12_init 135 = .ok (.newarray .int, 2) := by decide +kernel
theorem dX12_init_137 : decode cX12_init 137 = .ok (.putfield 58, 3) := by decide +kernel
theorem dX12_init_140 : decode cX12_init 140 = .ok (.aload_n 0, 1) := by decide +kernel
theorem dX12_init_141 : decode cX12_init 141 = .ok (.ldc 57, 2) := by decide +kernel
theorem dX12_init_143 : decode cX12_init 143 = .ok (.newarray .int, 2) := by decide +kernel
theorem dX12_init_145 : decode cX12_init 145 = .ok (.putfield 61, 3) := by decide +kernel
theorem dX12_init_148 : decode cX12_init 148 = .ok (.aload_n 0, 1) := by decide +kernel
theorem dX12_init_149 : decode cX12_init 149 = .ok (.ldc 57, 2) := by decide +kernel
theorem dX12_init_151 : decode cX12_init 151 = .ok (.newarray .int, 2) := by decide +kernel
theorem dX12_init_153 : decode cX12_init 153 = .ok (.putfield 64, 3) := by decide +kernel
theorem dX12_init_156 : decode cX12_init 156 = .ok (.aload_n 0, 1) := by decide +kernel
theorem dX12_init_157 : decode cX12_init 157 = .ok (.ldc 57, 2) := by decide +kernel
theorem dX12_init_159 : decode cX12_init 159 = .ok (.newarray .int, 2) := by decide +kernel
theorem dX12_init_161 : decode cX12_init 161 = .ok (.putfield 67, 3) := by decide +kernel
theorem dX12_init_164 : decode cX12_init 164 = .ok (.aload_n 0, 1) := by decide +kernel
theorem dX12_init_165 : decode cX12_init 165 = .ok (.ldc 57, 2) := by decide +kernel
theorem dX12_init_167 : decode cX12_init 167 = .ok (.newarray .int, 2) := by decide +kernel
theorem dX12_init_169 : decode cX12_init 169 = .ok (.putfield 70, 3) := by decide +kernel
theorem dX12_init_172 : decode cX12_init 172 = .ok (.aload_n 0, 1) := by decide +kernel
theorem dX12_init_173 : decode cX12_init 173 = .ok (.sipush 12060, 3) := by decide +kernel
theorem dX12_init_176 : decode cX12_init 176 = .ok (.newarray .int, 2) := by decide +kernel
theorem dX12_init_178 : decode cX12_init 178 = .ok (.putfield 73, 3) := by decide +kernel
theorem dX12_init_181 : decode cX12_init 181 = .ok (.aload_n 0, 1) := by decide +kernel
theorem dX12_init_182 : decode cX12_init 182 = .ok (.sipush 12060, 3) := by decide +kernel
theorem dX12_init_185 : decode cX12_init 185 = .ok (.newarray .int, 2) := by decide +kernel
theorem dX12_init_187 : decode cX12_init 187 = .ok (.putfield 76, 3) := by decide +kernel
theorem dX12_init_190 : decode cX12_init 190 = .ok (.aload_n 0, 1) := by decide +kernel
theorem dX12_init_191 : decode cX12_init 191 = .ok (.sipush 12060, 3) := by decide +kernel
theorem dX12_init_194 : decode cX12_init 194 = .ok (.newarray .int, 2) := by decide +kernel
theorem dX12_init_196 : decode cX12_init 196 = .ok (.putfield 79, 3) := by decide +kernel
theorem dX12_init_199 : decode cX12_init 199 = .ok (.aload_n 0, 1) := by decide +kernel
theorem dX12_init_200 : decode cX12_init 200 = .ok (.sipush 201, 3) := by decide +kernel
theorem dX12_init_203 : decode cX12_init 203 = .ok (.newarray .int, 2) := by decide +kernel
theorem dX12_init_205 : decode cX12_init 205 = .ok (.putfield 82, 3) := by decide +kernel
theorem dX12_init_208 : decode cX12_init 208 = .ok (.aload_n 0, 1) := by decide +kernel
theorem dX12_init_209 : decode cX12_init 209 = .ok (.sipush 201, 3) := by decide +kernel
theorem dX12_init_212 : decode cX12_init 212 = .ok (.newarray .int, 2) := by decide +kernel
theorem dX12_init_214 : decode cX12_init 214 = .ok (.putfield 85, 3) := by decide +kernel
theorem dX12_init_217 : decode cX12_init 217 = .ok (.aload_n 0, 1) := by decide +kernel
theorem dX12_init_218 : decode cX12_init 218 = .ok (.sipush 201, 3) := by decide +kernel
theorem dX12_init_221 : decode cX12_init 221 = .ok (.newarray .int, 2) := by decide +kernel
theorem dX12_init_223 : decode cX12_init 223 = .ok (.putfield 88, 3) := by decide +kernel
theorem dX12_init_226 : decode cX12_init 226 = .ok (.aload_n 0, 1) := by decide +kernel
theorem dX12_init_227 : decode cX12_init 227 = .ok (.sipush 201, 3) := by decide +kernel
theorem dX12_init_230 : decode cX12_init 230 = .ok (.newarray .int, 2) := by decide +kernel
theorem dX12_init_232 : decode cX12_init 232 = .ok (.putfield 91, 3) := by decide +kernel
theorem dX12_init_235 : decode cX12_init 235 = .ok (.aload_n 0, 1) := by decide +kernel
theorem dX12_init_236 : decode cX12_init 236 = .ok (.sipush 201, 3) := by decide +kernel
theorem dX12_init_239 : decode cX12_init 239 = .ok (.newarray .int, 2) := by decide +kernel
theorem dX12_init_241 : decode cX12_init 241 = .ok (.putfield 94, 3) := by decide +kernel
theorem dX12_init_244 : decode cX12_init 244 = .ok (.aload_n 0, 1) := by decide +kernel
theorem dX12_init_245 : decode cX12_init 245 = .ok (.sipush 201, 3) := by decide +kernel
theorem dX12_init_248 : decode cX12_init 248 = .ok (.newarray .int, 2) := by decide +kernel
theorem dX12_init_250 : decode cX12_init 250 = .ok (.putfield 97, 3) := by decide +kernel
theorem dX12_init_253 : decode cX12_init 253 = .ok (.aload_n 0, 1) := by decide +kernel
theorem dX12_init_254 : decode cX12_init 254 = .ok (.sipush 201, 3) := by decide +kernel
theorem dX12_init_257 : decode cX12_init 257 = .ok (.newarray .int, 2) := by decide +kernel
theorem dX12_init_259 : decode cX12_init 259 = .ok (.putfield 100, 3) := by decide +kernel
theorem dX12_init_262 : decode cX12_init 262 = .ok (.aload_n 0, 1) := by decide +kernel
theorem dX12_init_263 : decode cX12_init 263 = .ok (.bipush (-3), 2) := by decide +kernel
theorem dX12_init_265 : decode cX12_init 265 = .ok (.putfield 103, 3) := by decide +kernel
theorem dX12_init_268 : decode cX12_init 268 = .ok (.aload_n 0, 1) := by decide +kernel
theorem dX12_init_269 : decode cX12_init 269 = .ok (.sipush 2100, 3) := by decide +kernel
theorem dX12_init_272 : decode cX12_init 272 = .ok (.newarray .int, 2) := by decide +kernel
theorem dX12_init_274 : decode cX12_init 274 = .ok (.putfield 106, 3) := by decide +kernel
theorem dX12_init_277 : decode cX12_init 277 = .ok (.aload_n 0, 1) := by decide +kernel
theorem dX12_init_278 : decode cX12_init 278 = .ok (.sipush 2100, 3) := by decide +kernel
theorem dX12_init_281 : decode cX12_init 281 = .ok (.newarray .int, 2) := by decide +kernel
theorem dX12_init_283 : decode cX12_init 283 = .ok (.putfield 109, 3) := by decide +kernel
theorem dX12_init_286 : decode cX12_init 286 = .ok (.aload_n 0, 1) := by decide +kernel
theorem dX12_init_287 : decode cX12_init 287 = .ok (.sipush 2100, 3) := by decide +kernel
theorem dX12_init_290 : decode cX12_init 290 = .ok (.newarray .int, 2) := by decide +kernel
theorem dX12_init_292 : decode cX12_init 292 = .ok (.putfield 112, 3) := by decide +kernel
theorem dX12_init_295 : decode cX12_init 295 = .ok (.aload_n 0, 1) := by decide +kernel
theorem dX12_init_296 : decode cX12_init 296 = .ok (.sipush 2100, 3) := by decide +kernel
theorem dX12_init_299 : decode cX12_init 299 = .ok (.newarray .int, 2) := by decide +kernel
theorem dX12_init_301 : decode cX12_init 301 = .ok (.putfield 115, 3) := by decide +kernel
theorem dX12_init_304 : decode cX12_init 304 = .ok (.aload_n 0, 1) := by decide +kernel
theorem dX12_init_305 : decode cX12_init 305 = .ok (.sipush 30000, 3) := by decide +kernel
theorem dX12_init_308 : decode cX12_init 308 = .ok (.newarray .int, 2) := by decide +kernel
theorem dX12_init_310 : decode cX12_init 310 = .ok (.putfield 118, 3) := by decide +kernel
theorem dX12_init_313 : decode cX12_init 313 = .ok (.aload_n 0, 1) := by decide +kernel
theorem dX12_init_314 : decode cX12_init 314 = .ok (.sipush 30000, 3) := by decide +kernel
theorem dX12_init_317 : decode cX12_init 317 = .ok (.newarray .int, 2) := by decide +kernel
theorem dX12_init_319 : decode cX12_init 319 = .ok (.putfield 121, 3) := by decide +kernel
theorem dX12_init_322 : decode cX12_init 322 = .ok (.aload_n 0, 1) := by decide +kernel
theorem dX12_init_323 : decode cX12_init 323 = .ok (.sipush 30000, 3) := by decide +kernel
theorem dX12_init_326 : decode cX12_init 326 = .ok (.newarray .int, 2) := by decide +kernel
theorem dX12_init_328 : decode cX12_init 328 = .ok (.putfield 124, 3) := by decide +kernel
theorem dX12_init_331 : decode cX12_init 331 = .ok (.aload_n 0, 1) := by decide +kernel
theorem dX12_init_332 : decode cX12_init 332 = .ok (.sipush 30000, 3) := by decide +kernel
theorem dX12_init_335 : decode cX12_init 335 = .ok (.newarray .int, 2) := by decide +kernel
theorem dX12_init_337 : decode cX12_init 337 = .ok (.putfield 127, 3) := by decide +kernel
theorem dX12_init_340 : decode cX12_init 340 = .ok (.aload_n 0, 1) := by decide +kernel
theorem dX12_init_341 : decode cX12_init 341 = .ok (.ldc 57, 2) := by decide +kernel
theorem dX12_init_343 : decode cX12_init 343 = .ok (.newarray .int, 2) := by decide +kernel
theorem dX12_init_345 : decode cX12_init 345 = .ok (.putfield 130, 3) := by decide +kernel
theorem dX12_init_348 : decode cX12_init 348 = .ok (.aload_n 0, 1) := by decide +kernel
theorem dX12_init_349 : decode cX12_init 349 = .ok (.ldc 57, 2) := by decide +kernel
theorem dX12_init_351 : decode cX12_init 351 = .ok (.newarray .int, 2) := by decide +kernel
theorem dX12_init_353 : decode cX12_init 353 = .ok (.putfield 133, 3) := by decide +kernel
theorem dX12_init_356 : decode cX12_init 356 = .ok (.aload_n 0, 1) := by decide +kernel
theorem dX12_init_357 : decode cX12_init 357 = .ok (.ldc 57, 2) := by decide +kernel
theorem dX12_init_359 : decode cX12_init 359 = .ok (.newarray .int, 2) := by decide +kernel
theorem dX12_init_361 : decode cX12_init 361 = .ok (.putfield 136, 3) := by decide +kernel
theorem dX12_init_364 : decode cX12_init 364 = .ok (.aload_n 0, 1) := by decide +kernel
theorem dX12_init_365 : decode cX12_init 365 = .ok (.sipush 1600, 3) := by decide +kernel
theorem dX12_init_368 : decode cX12_init 368 = .ok (.newarray .int, 2) := by decide +kernel
theorem dX12_init_370 : decode cX12_init 370 = .ok (.putfield 139, 3) := by decide +kernel
theorem dX12_init_373 : decode cX12_init 373 = .ok (.aload_n 0, 1) := by decide +kernel
theorem dX12_init_374 : decode cX12_init 374 = .ok (.sipush 1600, 3) := by decide +kernel
theorem dX12_init_377 : decode cX12_init 377 = .ok (.newarray .int, 2) := by decide +kernel
theorem dX12_init_379 : decode cX12_init 379 = .ok (.putfield 142, 3) := by decide +kernel
theorem dX12_init_382 : decode cX12_init 382 = .ok (.aload_n 0, 1) := by decide +kernel
theorem dX12_init_383 : decode cX12_init 383 = .ok (.sipush 1600, 3) := by decide +kernel
theorem dX12_init_386 : decode cX12_init 386 = .ok (.newarray .int, 2) := by decide +kernel
theorem dX12_init_388 : decode cX12_init 388 = .ok (.putfield 145, 3) := by decide +kernel
theorem dX12_init_391 : decode cX12_init 391 = .ok (.aload_n 0, 1) := by decide +kernel
theorem dX12_init_392 : decode cX12_init 392 = .ok (.sipush 1600, 3) := by decide +kernel
theorem dX12_init_395 : decode cX12_init 395 = .ok (.newarray .int, 2) := by decide +kernel
theorem dX12_init_397 : decode cX12_init 397 = .ok (.putfield 148, 3) := by decide +kernel
theorem dX12_init_400 : decode cX12_init 400 = .ok (.aload_n 0, 1) := by decide +kernel
theorem dX12_init_401 : decode cX12_init 401 = .ok (.sipush 1600, 3) := by decide +kernel
theorem dX12_init_404 : decode cX12_init 404 = .ok (.newarray .int, 2) := by decide +kernel
theorem dX12_init_406 : decode cX12_init 406 = .ok (.putfield 151, 3) := by decide +kernel
theorem dX12_init_409 : decode cX12_init 409 = .ok (.aload_n 0, 1) := by decide +kernel
theorem dX12_init_410 : decode cX12_init 410 = .ok (.bipush 60, 2) := by decide +kernel
theorem dX12_init_412 : decode cX12_init 412 = .ok (.newarray .int, 2) := by decide +kernel
theorem dX12_init_414 : decode cX12_init 414 = .ok (.putfield 154, 3) := by decide +kernel
theorem dX12_init_417 : decode cX12_init 417 = .ok (.aload_n 0, 1) := by decide +kernel
theorem dX12_init_418 : decode cX12_init 418 = .ok (.bipush 60, 2) := by decide +kernel
theorem dX12_init_420 : decode cX12_init 420 = .ok (.newarray .int, 2) := by decide +kernel
theorem dX12_init_422 : decode cX12_init 422 = .ok (.putfield 157, 3) := by decide +kernel
theorem dX12_init_425 : decode cX12_init 425 = .ok (.aload_n 0, 1) := by decide +kernel
theorem dX12_init_426 : decode cX12_init 426 = .ok (.bipush 60, 2) := by decide +kernel
theorem dX12_init_428 : decode cX12_init 428 = .ok (.newarray .int, 2) := by decide +kernel
theorem dX12_init_430 : decode cX12_init 430 = .ok (.putfield 160, 3) := by decide +kernel
theorem dX12_init_433 : decode cX12_init 433 = .ok (.aload_n 0, 1) := by decide +kernel
theorem dX12_init_434 : decode cX12_init 434 = .ok (.bipush 80, 2) := by decide +kernel
theorem dX12_init_436 : decode cX12_init 436 = .ok (.newarray .int, 2) := by decide +kernel
theorem dX12_init_438 : decode cX12_init 438 = .ok (.putfield 163, 3) := by decide +kernel
theorem dX12_init_441 : decode cX12_init 441 = .ok (.aload_n 0, 1) := by decide +kernel
theorem dX12_init_442 : decode cX12_init 442 = .ok (.sipush 3300, 3) := by decide +kernel
theorem dX12_init_445 : decode cX12_init 445 = .ok (.newarray .int, 2) := by decide +kernel
theorem dX12_init_447 : decode cX12_init 447 = .ok (.putfield 166, 3) := by decide +kernel
theorem dX12_init_450 : decode cX12_init 450 = .ok (.aload_n 0, 1) := by decide +kernel
theorem dX12_init_451 : decode cX12_init 451 = .ok (.sipush 3300, 3) := by decide +kernel
theorem dX12_init_454 : decode cX12_init 454 = .ok (.newarray .int, 2) := by decide +kernel
theorem dX12_init_456 : decode cX12_init 456 = .ok (.putfield 169, 3) := by decide +kernel
theorem dX12_init_459 : decode cX12_init 459 = .ok (.aload_n 0, 1) := by decide +kernel
theorem dX12_init_460 : decode cX12_init 460 = .ok (.sipush 3300, 3) := by decide +kernel
theorem dX12_init_463 : decode cX12_init 463 = .ok (.newarray .int, 2) := by decide +kernel
theorem dX12_init_465 : decode cX12_init 465 = .ok (.putfield 172, 3) := by decide +kernel
theorem dX12_init_468 : decode cX12_init 468 = .ok (.aload_n 0, 1) := by decide +kernel
theorem dX12_init_469 : decode cX12_init 469 = .ok (.sipush 3300, 3) := by decide +kernel
theorem dX12_init_472 : decode cX12_init 472 = .ok (.newarray .int, 2) := by decide +kernel
theorem dX12_init_474 : decode cX12_init 474 = .ok (.putfield 175, 3) := by decide +kernel
theorem dX12_init_477 : decode cX12_init 477 = .ok (.aload_n 0, 1) := by decide +kernel
theorem dX12_init_478 : decode cX12_init 478 = .ok (.bipush 60, 2) := by decide +kernel
theorem dX12_init_480 : decode cX12_init 480 = .ok (.newarray .int, 2) := by decide +kernel
theorem dX12_init_482 : decode cX12_init 482 = .ok (.putfield 178, 3) := by decide +kernel
theorem dX12_init_485 : decode cX12_init 485 = .ok (.aload_n 0, 1) := by decide +kernel
theorem dX12_init_486 : decode cX12_init 486 = .ok (.bipush 60, 2) := by decide +kernel
theorem dX12_init_488 : decode cX12_init 488 = .ok (.newarray .int, 2) := by decide +kernel
theorem dX12_init_490 : decode cX12_init 490 = .ok (.putfield 181, 3) := by decide +kernel
theorem dX12_init_493 : decode cX12_init 493 = .ok (.aload_n 0, 1) := by decide +kernel
theorem dX12_init_494 : decode cX12_init 494 = .ok (.sipush 2000, 3) := by decide +kernel
theorem dX12_init_497 : decode cX12_init 497 = .ok (.newarray .long, 2) := by decide +kernel
theorem dX12_init_499 : decode cX12_init 499 = .ok (.putfield 184, 3) := by decide +kernel
theorem dX12_init_502 : decode cX12_init 502 = .ok (.aload_n 0, 1) := by decide +kernel
theorem dX12_init_503 : decode cX12_init 503 = .ok (.sipush 2000, 3) := by decide +kernel
theorem dX12_init_506 : decode cX12_init 506 = .ok (.newarray .boolean, 2) := by decide +kernel
theorem dX12_init_508 : decode cX12_init 508 = .ok (.putfield 188, 3) := by decide +kernel
theorem dX12_init_511 : decode cX12_init 511 = .ok (.aload_n 0, 1) := by decide +kernel
theorem dX12_init_512 : decode cX12_init 512 = .ok (.sipush 2100, 3) := by decide +kernel
theorem dX12_init_515 : decode cX12_init 515 = .ok (.newarray .int, 2) := by decide +kernel
theorem dX12_init_517 : decode cX12_init 517 = .ok (.putfield 192, 3) := by decide +kernel
theorem dX12_init_520 : decode cX12_init 520 = .ok (.aload_n 0, 1) := by decide +kernel
theorem dX12_init_521 : decode cX12_init 521 = .ok (.sipush 2100, 3) := by decide +kernel
theorem dX12_init_524 : decode cX12_init 524 = .ok (.newarray .int, 2) := by decide +kernel
theorem dX12_init_526 : decode cX12_init 526 = .ok (.putfield 195, 3) := by decide +kernel
theorem dX12_init_529 : decode cX12_init 529 = .ok (.aload_n 0, 1) := by decide +kernel
theorem dX12_init_530 : decode cX12_init 530 = .ok (.bipush 24, 2) := by decide +kernel
theorem dX12_init_532 : decode cX12_init 532 = .ok (.newarray .int, 2) := by decide +kernel
theorem dX12_init_534 : decode cX12_init 534 = .ok (.putfield 198, 3) := by decide +kernel
theorem dX12_init_537 : decode cX12_init 537 = .ok (.aload_n 0, 1) := by decide +kernel
theorem dX12_init_538 : decode cX12_init 538 = .ok (.sipush 2000, 3) := by decide +kernel
theorem dX12_init_541 : decode cX12_init 541 = .ok (.newarray .boolean, 2) := by decide +kernel
theorem dX12_init_543 : decode cX12_init 543 = .ok (.putfield 201, 3) := by decide +kernel
theorem dX12_init_546 : decode cX12_init 546 = .ok (.aload_n 0, 1) := by decide +kernel
theorem dX12_init_547 : decode cX12_init 547 = .ok (.getfield 7, 3) := by decide +kernel
theorem dX12_init_550 : decode cX12_init 550 = .ok (.iconst 0, 1) := by decide +kernel
theorem dX12_init_551 : decode cX12_init 551 = .ok (.iconst 0, 1) := by decide +kernel
theorem dX12_init_552 : decode cX12_init 552 = .ok (.iastore, 1) := by decide +kernel
theorem dX12_init_553 : decode cX12_init 553 = .ok (.aload_n 0, 1) := by decide +kernel
theorem dX12_init_554 : decode cX12_init 554 = .ok (.getfield 7, 3) := by decide +kernel
theorem dX12_init_557 : decode cX12_init 557 = .ok (.iconst 1, 1) := by decide +kernel
theorem dX12_init_558 : decode cX12_init 558 = .ok (.iconst 1, 1) := by decide +kernel
theorem dX12_init_559 : decode cX12_init 559 = .ok (.iastore, 1) := by decide +kernel
theorem dX12_init_560 : decode cX12_init 560 = .ok (.aload_n 0, 1) := by decide +kernel
theorem dX12_init_561 : decode cX12_init 561 = .ok (.iconst 2, 1) := by decide +kernel
theorem dX12_init_562 : decode cX12_init 562 = .ok (.putfield 204, 3) := by decide +kernel
theorem dX12_init_565 : decode cX12_init 565 = .ok (.aload_n 0, 1) := by decide +kernel
theorem dX12_init_566 : decode cX12_init 566 = .ok (.iconst 1, 1) := by decide +kernel
theorem dX12_init_567 : decode cX12_init 567 = .ok (.putfield 207, 3) := by decide +kernel
theorem dX12_init_570 : decode cX12_init 570 = .ok (.aload_n 0, 1) := by decide +kernel
theorem dX12_init_571 : decode cX12_init 571 = .ok (.getfield 178, 3) := by decide +kernel
theorem dX12_init_574 : decode cX12_init 574 = .ok (.iconst 0, 1) := by decide +kernel
theorem dX12_init_575 : decode cX12_init 575 = .ok (.iconst (-1), 1) := by decide +kernel
theorem dX12_init_576 : decode cX12_init 576 = .ok (.iastore, 1) := by decide +kernel
theorem dX12_init_577 : decode cX12_init 577 = .ok (.return_, 1) := by decide +kernel
theorem dX12_find_0 : decode cX12_find 0 = .ok (.iconst 0, 1) := by decide +kernel
theorem dX12_find_1 : decode cX12_find 1 = .ok (.istore 4, 2) := by decide +kernel
theorem dX12_find_3 : decode cX12_find 3 = .ok (.iload 4, 2) := by decide +kernel
theorem dX12_find_5 : decode cX12_find 5 = .ok (.aload_n 0, 1) := by decide +kernel
theorem dX12_find_6 : decode cX12_find 6 = .ok (.getfield 204, 3) := by decide +kernel
theorem dX12_find_9 : decode cX12_find 9 = .ok (.if_icmp .ge 45, 3) := by decide +kernel
theorem dX12_find_12 : decode cX12_find 12 = .ok (.aload_n 0, 1) := by decide +kernel
theorem dX12_find_13 : decode cX12_find 13 = .ok (.getfield 7, 3) := by decide +kernel
theorem dX12_find_16 : decode cX12_find 16 = .ok (.iload 4, 2) := by decide +kernel
theorem dX12_find_18 : decode cX12_find 18 = .ok (.iaload, 1) := by decide +kernel
theorem dX12_find_19 : decode cX12_find 19 = .ok (.iload_n 1, 1) := by decide +kernel
theorem dX12_find_20 : decode cX12_find 20 = .ok (.if_icmp .ne 28, 3) := by decide +kernel
theorem dX12_find_23 : decode cX12_find 23 = .ok (.aload_n 0, 1) := by decide +kernel
theorem dX12_find_24 : decode cX12_find 24 = .ok (.getfield 13, 3) := by decide +kernel
theorem dX12_find_27 : decode cX12_find 27 = .ok (.iload 4, 2) := by decide +kernel
theorem dX12_find_29 : decode cX12_find 29 = .ok (.iaload, 1) := by decide +kernel
theorem dX12_find_30 : decode cX12_find 30 = .ok (.iload_n 2, 1) := by decide +kernel
theorem dX12_find_31 : decode cX12_find 31 = .ok (.if_icmp .ne 17, 3) := by decide +kernel
theorem dX12_find_34 : decode cX12_find 34 = .ok (.aload_n 0, 1) := by decide +kernel
theorem dX12_find_35 : decode cX12_find 35 = .ok (.getfield 16, 3) := by decide +kernel
theorem dX12_find_38 : decode cX12_find 38 = .ok (.iload 4, 2) := by decide +kernel
theorem dX12_find_40 : decode cX12_find 40 = .ok (.iaload, 1) := by decide +kernel
theorem dX12_find_41 : decode cX12_find 41 = .ok (.iload_n 3, 1) := by decide +kernel
theorem dX12_find_42 : decode cX12_find 42 = .ok (.if_icmp .ne 6, 3) := by decide +kernel
theorem dX12_find_45 : decode cX12_find 45 = .ok (.iload 4, 2) := by decide +kernel
theorem dX12_find_47 : decode cX12_find 47 = .ok (.ireturn, 1) := by decide +kernel
theorem dX12_find_48 : decode cX12_find 48 = .ok (.iinc 4 1, 3) := by decide +kernel
theorem dX12_find_51 : decode cX12_find 51 = .ok (.goto (-48), 3) := by decide +kernel
theorem dX12_find_54 : decode cX12_find 54 = .ok (.iconst (-1), 1) := by decide +kernel
theorem dX12_find_55 : decode cX12_find 55 = .ok (.ireturn, 1) := by decide +kernel
theorem dX12_add_0 : decode cX12_add 0 = .ok (.aload_n 0, 1) := by decide +kernel
theorem dX12_add_1 : decode cX12_add 1 = .ok (.getfield 7, 3) := by decide +kernel
theorem dX12_add_4 : decode cX12_add 4 = .ok (.aload_n 0, 1) := by decide +kernel
theorem dX12_add_5 : decode cX12_add 5 = .ok (.getfield 204, 3) := by decide +kernel
theorem dX12_add_8 : decode cX12_add 8 = .ok (.iload_n 1, 1) := by decide +kernel
theorem dX12_add_9 : decode cX12_add 9 = .ok (.iastore, 1) := by decide +kernel
theorem dX12_add_10 : decode cX12_add 10 = .ok (.aload_n 0, 1) := by decide +kernel
theorem dX12_add_11 : decode cX12_add 11 = .ok (.getfield 13, 3) := by decide +kernel
theorem dX12_add_14 : decode cX12_add 14 = .ok (.aload_n 0, 1) := by decide +kernel
theorem dX12_add_15 : decode cX12_add 15 = .ok (.getfield 204, 3) := by decide +kernel
theorem dX12_add_18 : decode cX12_add 18 = .ok (.iload_n 2, 1) := by decide +kernel
theorem dX12_add_19 : decode cX12_add 19 = .ok (.iastore, 1) := by decide +kernel
theorem dX12_add_20 : decode cX12_add 20 = .ok (.aload_n 0, 1) := by decide +kernel
theorem dX12_add_21 : decode cX12_add 21 = .ok (.getfield 16, 3) := by decide +kernel
theorem dX12_add_24 : decode cX12_add 24 = .ok (.aload_n 0, 1) := by decide +kernel
theorem dX12_add_25 : decode cX12_add 25 = .ok (.getfield 204, 3) := by decide +kernel
theorem dX12_add_28 : decode cX12_add 28 = .ok (.iload_n 3, 1) := by decide +kernel
theorem dX12_add_29 : decode cX12_add 29 = .ok (.iastore, 1) := by decide +kernel
theorem dX12_add_30 : decode cX12_add 30 = .ok (.aload_n 0, 1) := by decide +kernel
theorem dX12_add_31 : decode cX12_add 31 = .ok (.dup, 1) := by decide +kernel
theorem dX12_add_32 : decode cX12_add 32 = .ok (.getfield 204, 3) := by decide +kernel
theorem dX12_add_35 : decode cX12_add 35 = .ok (.iconst 1, 1) := by decide +kernel
theorem dX12_add_36 : decode cX12_add 36 = .ok (.iadd, 1) := by decide +kernel
theorem dX12_add_37 : decode cX12_add 37 = .ok (.putfield 204, 3) := by decide +kernel
theorem dX12_add_40 : decode cX12_add 40 = .ok (.aload_n 0, 1) := by decide +kernel
theorem dX12_add_41 : decode cX12_add 41 = .ok (.getfield 204, 3) := by decide +kernel
theorem dX12_add_44 : decode cX12_add 44 = .ok (.iconst 1, 1) := by decide +kernel
theorem dX12_add_45 : decode cX12_add 45 = .ok (.isub, 1) := by decide +kernel
theorem dX12_add_46 : decode cX12_add 46 = .ok (.ireturn, 1) := by decide +kernel
theorem dX12_formulaOf_0 : decode cX12_formulaOf 0 = .ok (.aload_n 0, 1) := by decide +kernel
theorem dX12_formulaOf_1 : decode cX12_formulaOf 1 = .ok (.iload_n 1, 1) := by decide +kernel
theorem dX12_formulaOf_2 : decode cX12_formulaOf 2 = .ok (.iload_n 2, 1) := by decide +kernel
theorem dX12_formulaOf_3 : decode cX12_formulaOf 3 = .ok (.iload_n 3, 1) := by decide +kernel
theorem dX12_formulaOf_4 : decode cX12_formulaOf 4 = .ok (.invokevirtual 210, 3) := by decide +kernel
theorem dX12_formulaOf_7 : decode cX12_formulaOf 7 = .ok (.istore 4, 2) := by decide +kernel
theorem dX12_formulaOf_9 : decode cX12_formulaOf 9 = .ok (.iload 4, 2) := by decide +kernel
theorem dX12_formulaOf_11 : decode cX12_formulaOf 11 = .ok (.ifCond .lt 8, 3) := by decide +kernel
theorem dX12_formulaOf_14 : decode cX12_formulaOf 14 = .ok (.iload 4, 2) := by decide +kernel
theorem dX12_formulaOf_16 : decode cX12_formulaOf 16 = .ok (.goto 24, 3) := by decide +kernel
theorem dX12_formulaOf_19 : decode cX12_formulaOf 19 = .ok (.aload_n 0, 1) := by decide +kernel
theorem dX12_formulaOf_20 : decode cX12_formulaOf 20 = .ok (.getfield 204, 3) := by decide +kernel
theorem dX12_formulaOf_23 : decode cX12_formulaOf 23 = .ok (.sipush 2000, 3) := by decide +kernel
theorem dX12_formulaOf_26 : decode cX12_formulaOf 26 = .ok (.if_icmp .ne 7, 3) := by decide +kernel
theorem dX12_formulaOf_29 : decode cX12_formulaOf 29 = .ok (.iconst (-1), 1) := by decide +kernel
theorem dX12_formulaOf_30 : decode cX12_formulaOf 30 = .ok (.goto 10, 3) := by decide +kernel
theorem dX12_formulaOf_33 : decode cX12_formulaOf 33 = .ok (.aload_n 0, 1) := by decide +kernel
theorem dX12_formulaOf_34 : decode cX12_formulaOf 34 = .ok (.iload_n 1, 1) := by decide +kernel
theorem dX12_formulaOf_35 : decode cX12_formulaOf 35 = .ok (.iload_n 2, 1) := by decide +kernel
theorem dX12_formulaOf_36 : decode cX12_formulaOf 36 = .ok (.iload_n 3, 1) := by decide +kernel
theorem dX12_formulaOf_37 : decode cX12_formulaOf 37 = .ok (.invokevirtual 214, 3) := by decide +kernel
theorem dX12_formulaOf_40 : decode cX12_formulaOf 40 = .ok (.ireturn, 1) := by decide +kernel
theorem dX12_isSmall_0 : decode cX12_isSmall 0 = .ok (.iload_n 0, 1) := by decide +kernel
theorem dX12_isSmall_1 : decode cX12_isSmall 1 = .ok (.bipush 97, 2) := by decide +kernel
theorem dX12_isSmall_3 : decode cX12_isSmall 3 = .ok (.if_icmp .lt 13, 3) := by decide +kernel
theorem dX12_isSmall_6 : decode cX12_isSmall 6 = .ok (.iload_n 0, 1) := by decide +kernel
theorem dX12_isSmall_7 : decode cX12_isSmall 7 = .ok (.bipush 122, 2) := by decide +kernel
theorem dX12_isSmall_9 : decode cX12_isSmall 9 = .ok (.if_icmp .gt 7, 3) := by decide +kernel
theorem dX12_isSmall_12 : decode cX12_isSmall 12 = .ok (.iconst 1, 1) := by decide +kernel
theorem dX12_isSmall_13 : decode cX12_isSmall 13 = .ok (.goto 4, 3) := by decide +kernel
theorem dX12_isSmall_16 : decode cX12_isSmall 16 = .ok (.iconst 0, 1) := by decide +kernel
theorem dX12_isSmall_17 : decode cX12_isSmall 17 = .ok (.ireturn, 1) := by decide +kernel
theorem dX12_isDigit_0 : decode cX12_isDigit 0 = .ok (.iload_n 0, 1) := by decide +kernel
theorem dX12_isDigit_1 : decode cX12_isDigit 1 = .ok (.bipush 48, 2) := by decide +kernel
theorem dX12_isDigit_3 : decode cX12_isDigit 3 = .ok (.if_icmp .lt 13, 3) := by decide +kernel
theorem dX12_isDigit_6 : decode cX12_isDigit 6 = .ok (.iload_n 0, 1) := by decide +kernel
theorem dX12_isDigit_7 : decode cX12_isDigit 7 = .ok (.bipush 57, 2) := by decide +kernel
theorem dX12_isDigit_9 : decode cX12_isDigit 9 = .ok (.if_icmp .gt 7, 3) := by decide +kernel
theorem dX12_isDigit_12 : decode cX12_isDigit 12 = .ok (.iconst 1, 1) := by decide +kernel
theorem dX12_isDigit_13 : decode cX12_isDigit 13 = .ok (.goto 4, 3) := by decide +kernel
theorem dX12_isDigit_16 : decode cX12_isDigit 16 = .ok (.iconst 0, 1) := by decide +kernel
theorem dX12_isDigit_17 : decode cX12_isDigit 17 = .ok (.ireturn, 1) := by decide +kernel
theorem dX12_signAt_0 : decode cX12_signAt 0 = .ok (.iload_n 1, 1) := by decide +kernel
theorem dX12_signAt_1 : decode cX12_signAt 1 = .ok (.aload_n 0, 1) := by decide +kernel
theorem dX12_signAt_2 : decode cX12_signAt 2 = .ok (.getfield 217, 3) := by decide +kernel
theorem dX12_signAt_5 : decode cX12_signAt 5 = .ok (.if_icmp .ge 12, 3) := by decide +kernel
theorem dX12_signAt_8 : decode cX12_signAt 8 = .ok (.aload_n 0, 1) := by decide +kernel
theorem dX12_signAt_9 : decode cX12_signAt 9 = .ok (.getfield 28, 3) := by decide +kernel
theorem dX12_signAt_12 : decode cX12_signAt 12 = .ok (.iload_n 1, 1) := by decide +kernel
theorem dX12_signAt_13 : decode cX12_signAt 13 = .ok (.iaload, 1) := by decide +kernel
theorem dX12_signAt_14 : decode cX12_signAt 14 = .ok (.goto 4, 3) := by decide +kernel
theorem dX12_signAt_17 : decode cX12_signAt 17 = .ok (.iconst (-1), 1) := by decide +kernel
theorem dX12_signAt_18 : decode cX12_signAt 18 = .ok (.ireturn, 1) := by decide +kernel
theorem dX12_isSign_0 : decode cX12_isSign 0 = .ok (.iload_n 1, 1) := by decide +kernel
theorem dX12_isSign_1 : decode cX12_isSign 1 = .ok (.bipush 40, 2) := by decide +kernel
theorem dX12_isSign_3 : decode cX12_isSign 3 = .ok (.if_icmp .eq 27, 3) := by decide +kernel
theorem dX12_isSign_6 : decode cX12_isSign 6 = .ok (.iload_n 1, 1) := by decide +kernel
theorem dX12_isSign_7 : decode cX12_isSign 7 = .ok (.bipush 41, 2) := by decide +kernel
theorem dX12_isSign_9 : decode cX12_isSign 9 = .ok (.if_icmp .eq 21, 3) := by decide +kernel
theorem dX12_isSign_12 : decode cX12_isSign 12 = .ok (.iload_n 1, 1) := by decide +kernel
theorem dX12_isSign_13 : decode cX12_isSign 13 = .ok (.bipush 38, 2) := by decide +kernel
theorem dX12_isSign_15 : decode cX12_isSign 15 = .ok (.if_icmp .eq 15, 3) := by decide +kernel
theorem dX12_isSign_18 : decode cX12_isSign 18 = .ok (.iload_n 1, 1) := by decide +kernel
theorem dX12_isSign_19 : decode cX12_isSign 19 = .ok (.bipush 124, 2) := by decide +kernel
theorem dX12_isSign_21 : decode cX12_isSign 21 = .ok (.if_icmp .eq 9, 3) := by decide +kernel
theorem dX12_isSign_24 : decode cX12_isSign 24 = .ok (.iload_n 1, 1) := by decide +kernel
theorem dX12_isSign_25 : decode cX12_isSign 25 = .ok (.bipush 126, 2) := by decide +kernel
theorem dX12_isSign_27 : decode cX12_isSign 27 = .ok (.if_icmp .ne 5, 3) := by decide +kernel
theorem dX12_isSign_30 : decode cX12_isSign 30 = .ok (.iconst 1, 1) := by decide +kernel
theorem dX12_isSign_31 : decode cX12_isSign 31 = .ok (.ireturn, 1) := by decide +kernel
theorem dX12_isSign_32 : decode cX12_isSign 32 = .ok (.aload_n 0, 1) := by decide +kernel
theorem dX12_isSign_33 : decode cX12_isSign 33 = .ok (.getfield 220, 3) := by decide +kernel
theorem dX12_isSign_36 : decode cX12_isSign 36 = .ok (.ifCond .eq 73, 3) := by decide +kernel
theorem dX12_isSign_39 : decode cX12_isSign 39 = .ok (.iload_n 1, 1) := by decide +kernel
theorem dX12_isSign_40 : decode cX12_isSign 40 = .ok (.bipush 44, 2) := by decide +kernel
theorem dX12_isSign_42 : decode cX12_isSign 42 = .ok (.if_icmp .eq 63, 3) := by decide +kernel
theorem dX12_isSign_45 : decode cX12_isSign 45 = .ok (.iload_n 1, 1) := by decide +kernel
theorem dX12_isSign_46 : decode cX12_isSign 46 = .ok (.bipush 84, 2) := by decide +kernel
theorem dX12_isSign_48 : decode cX12_isSign 48 = .ok (.if_icmp .eq 57, 3) := by decide +kernel
theorem dX12_isSign_51 : decode cX12_isSign 51 = .ok (.iload_n 1, 1) := by decide +kernel
theorem dX12_isSign_52 : decode cX12_isSign 52 = .ok (.bipush 76, 2) := by decide +kernel
theorem dX12_isSign_54 : decode cX12_isSign 54 = .ok (.if_icmp .eq 51, 3) := by decide +kernel
theorem dX12_isSign_57 : decode cX12_isSign 57 = .ok (.iload_n 1, 1) := by decide +kernel
theorem dX12_isSign_58 : decode cX12_isSign 58 = .ok (.bipush 65, 2) := by decide +kernel
theorem dX12_isSign_60 : decode cX12_isSign 60 = .ok (.if_icmp .eq 45, 3) := by decide +kernel
theorem dX12_isSign_63 : decode cX12_isSign 63 = .ok (.iload_n 1, 1) := by decide +kernel
theorem dX12_isSign_64 : decode cX12_isSign 64 = .ok (.bipush 80, 2) := by decide +kernel
theorem dX12_isSign_66 : decode cX12_isSign 66 = .ok (.if_icmp .eq 39, 3) := by decide +kernel
theorem dX12_isSign_69 : decode cX12_isSign 69 = .ok (.iload_n 1, 1) := by decide +kernel
theorem dX12_isSign_70 : decode cX12_isSign 70 = .ok (.bipush 70, 2) := by decide +kernel
theorem dX12_isSign_72 : decode cX12_isSign 72 = .ok (.if_icmp .eq 33, 3) := by decide +kernel
theorem dX12_isSign_75 : decode cX12_isSign 75 = .ok (.iload_n 1, 1) := by decide +kernel
theorem dX12_isSign_76 : decode cX12_isSign 76 = .ok (.bipush 83, 2) := by decide +kernel
theorem dX12_isSign_78 : decode cX12_isSign 78 = .ok (.if_icmp .eq 27, 3) := by decide +kernel
theorem dX12_isSign_81 : decode cX12_isSign 81 = .ok (.iload_n 1, 1) := by decide +kernel
theorem dX12_isSign_82 : decode cX12_isSign 82 = .ok (.bipush 73, 2) := by decide +kernel
theorem dX12_isSign_84 : decode cX12_isSign 84 = .ok (.if_icmp .eq 21, 3) := by decide +kernel
theorem dX12_isSign_87 : decode cX12_isSign 87 = .ok (.iload_n 1, 1) := by decide +kernel
theorem dX12_isSign_88 : decode cX12_isSign 88 = .ok (.bipush 74, 2) := by decide +kernel
theorem dX12_isSign_90 : decode cX12_isSign 90 = .ok (.if_icmp .eq 15, 3) := by decide +kernel
theorem dX12_isSign_93 : decode cX12_isSign 93 = .ok (.iload_n 1, 1) := by decide +kernel
theorem dX12_isSign_94 : decode cX12_isSign 94 = .ok (.bipush 67, 2) := by decide +kernel
theorem dX12_isSign_96 : decode cX12_isSign 96 = .ok (.if_icmp .eq 9, 3) := by decide +kernel
theorem dX12_isSign_99 : decode cX12_isSign 99 = .ok (.iload_n 1, 1) := by decide +kernel
theorem dX12_isSign_100 : decode cX12_isSign 100 = .ok (.bipush 88, 2) := by decide +kernel
theorem dX12_isSign_102 : decode cX12_isSign 102 = .ok (.if_icmp .ne 7, 3) := by decide +kernel
theorem dX12_isSign_105 : decode cX12_isSign 105 = .ok (.iconst 1, 1) := by decide +kernel
theorem dX12_isSign_106 : decode cX12_isSign 106 = .ok (.goto 4, 3) := by decide +kernel
theorem dX12_isSign_109 : decode cX12_isSign 109 = .ok (.iconst 0, 1) := by decide +kernel
theorem dX12_isSign_110 : decode cX12_isSign 110 = .ok (.ireturn, 1) := by decide +kernel
theorem dX12_isWord_0 : decode cX12_isWord 0 = .ok (.iload 5, 2) := by decide +kernel
theorem dX12_isWord_2 : decode cX12_isWord 2 = .ok (.ifCond .le 7, 3) := by decide +kernel
theorem dX12_isWord_5 : decode cX12_isWord 5 = .ok (.iconst 1, 1) := by decide +kernel
theorem dX12_isWord_6 : decode cX12_isWord 6 = .ok (.goto 4, 3) := by decide +kernel
theorem dX12_isWord_9 : decode cX12_isWord 9 = .ok (.iconst 0, 1) := by decide +kernel
theorem dX12_isWord_10 : decode cX12_isWord 10 = .ok (.istore 6, 2) := by decide +kernel
theorem dX12_isWord_12 : decode cX12_isWord 12 = .ok (.aload_n 0, 1) := by decide +kernel
theorem dX12_isWord_13 : decode cX12_isWord 13 = .ok (.getfield 224, 3) := by decide +kernel
theorem dX12_isWord_16 : decode cX12_isWord 16 = .ok (.iload 6, 2) := by decide +kernel
theorem dX12_isWord_18 : decode cX12_isWord 18 = .ok (.ifCond .eq 7, 3) := by decide +kernel
theorem dX12_isWord_21 : decode cX12_isWord 21 = .ok (.iconst 5, 1) := by decide +kernel
theorem dX12_isWord_22 : decode cX12_isWord 22 = .ok (.goto 4, 3) := by decide +kernel
theorem dX12_isWord_25 : decode cX12_isWord 25 = .ok (.iconst 4, 1) := by decide +kernel
theorem dX12_isWord_26 : decode cX12_isWord 26 = .ok (.if_icmp .ne 87, 3) := by decide +kernel
theorem dX12_isWord_29 : decode cX12_isWord 29 = .ok (.aload_n 0, 1) := by decide +kernel
theorem dX12_isWord_30 : decode cX12_isWord 30 = .ok (.getfield 28, 3) := by decide +kernel
theorem dX12_isWord_33 : decode cX12_isWord 33 = .ok (.aload_n 0, 1) := by decide +kernel
theorem dX12_isWord_34 : decode cX12_isWord 34 = .ok (.getfield 227, 3) := by decide +kernel
theorem dX12_isWord_37 : decode cX12_isWord 37 = .ok (.iaload, 1) := by decide +kernel
theorem dX12_isWord_38 : decode cX12_isWord 38 = .ok (.iload_n 1, 1) := by decide +kernel
theorem dX12_isWord_39 : decode cX12_isWord 39 = .ok (.if_icmp .ne 74, 3) := by decide +kernel
theorem dX12_isWord_42 : decode cX12_isWord 42 = .ok (.aload_n 0, 1) := by decide +kernel
theorem dX12_isWord_43 : decode cX12_isWord 43 = .ok (.getfield 28, 3) := by decide +kernel
theorem dX12_isWord_46 : decode cX12_isWord 46 = .ok (.aload_n 0, 1) := by decide +kernel
theorem dX12_isWord_47 : decode cX12_isWord 47 = .ok (.getfield 227, 3) := by decide +kernel
theorem dX12_isWord_50 : decode cX12_isWord 50 = .ok (.iconst 1, 1) := by decide +kernel
theorem dX12_isWord_51 : decode cX12_isWord 51 = .ok (.iadd, 1) := by decide +kernel
theorem dX12_isWord_52 : decode cX12_isWord 52 = .ok (.iaload, 1) := by decide +kernel
theorem dX12_isWord_53 : decode cX12_isWord 53 = .ok (.iload_n 2, 1) := by decide +kernel
theorem dX12_isWord_54 : decode cX12_isWord 54 = .ok (.if_icmp .ne 59, 3) := by decide +kernel
theorem dX12_isWord_57 : decode cX12_isWord 57 = .ok (.aload_n 0, 1) := by decide +kernel
theorem dX12_isWord_58 : decode cX12_isWord 58 = .ok (.getfield 28, 3) := by decide +kernel
theorem dX12_isWord_61 : decode cX12_isWord 61 = .ok (.aload_n 0, 1) := by decide +kernel
theorem dX12_isWord_62 : decode cX12_isWord 62 = .ok (.getfield 227, 3) := by decide +kernel
theorem dX12_isWord_65 : decode cX12_isWord 65 = .ok (.iconst 2, 1) := by decide +kernel
theorem dX12_isWord_66 : decode cX12_isWord 66 = .ok (.iadd, 1) := by decide +kernel
theorem dX12_isWord_67 : decode cX12_isWord 67 = .ok (.iaload, 1) := by decide +kernel
theorem dX12_isWord_68 : decode cX12_isWord 68 = .ok (.iload_n 3, 1) := by decide +kernel
theorem dX12_isWord_69 : decode cX12_isWord 69 = .ok (.if_icmp .ne 44, 3) := by decide +kernel
theorem dX12_isWord_72 : decode cX12_isWord 72 = .ok (.aload_n 0, 1) := by decide +kernel
theorem dX12_isWord_73 : decode cX12_isWord 73 = .ok (.getfield 28, 3) := by decide +kernel
theorem dX12_isWord_76 : decode cX12_isWord 76 = .ok (.aload_n 0, 1) := by decide +kernel
theorem dX12_isWord_77 : decode cX12_isWord 77 = .ok (.getfield 227, 3) := by decide +kernel
theorem dX12_isWord_80 : decode cX12_isWord 80 = .ok (.iconst 3, 1) := by decide +kernel
theorem dX12_isWord_81 : decode cX12_isWord 81 = .ok (.iadd, 1) := by decide +kernel
theorem dX12_isWord_82 : decode cX12_isWord 82 = .ok (.iaload, 1) := by decide +kernel
theorem dX12_isWord_83 : decode cX12_isWord 83 = .ok (.iload 4, 2) := by decide +kernel
theorem dX12_isWord_85 : decode cX12_isWord 85 = .ok (.if_icmp .ne 28, 3) := by decide +kernel
theorem dX12_isWord_88 : decode cX12_isWord 88 = .ok (.iload 6, 2) := by decide +kernel
theorem dX12_isWord_90 : decode cX12_isWord 90 = .ok (.ifCond .eq 19, 3) := by decide +kernel
theorem dX12_isWord_93 : decode cX12_isWord 93 = .ok (.aload_n 0, 1) := by decide +kernel
theorem dX12_isWord_94 : decode cX12_isWord 94 = .ok (.getfield 28, 3) := by decide +kernel
theorem dX12_isWord_97 : decode cX12_isWord 97 = .ok (.aload_n 0, 1) := by decide +kernel
theorem dX12_isWord_98 : decode cX12_isWord 98 = .ok (.getfield 227, 3) := by decide +kernel
theorem dX12_isWord_101 : decode cX12_isWord 101 = .ok (.iconst 4, 1) := by decide +kernel
theorem dX12_isWord_102 : decode cX12_isWord 102 = .ok (.iadd, 1) := by decide +kernel
theorem dX12_isWord_103 : decode cX12_isWord 103 = .ok (.iaload, 1) := by decide +kernel
theorem dX12_isWord_104 : decode cX12_isWord 104 = .ok (.iload 5, 2) := by decide +kernel
theorem dX12_isWord_106 : decode cX12_isWord 106 = .ok (.if_icmp .ne 7, 3) := by decide +kernel
theorem dX12_isWord_109 : decode cX12_isWord 109 = .ok (.iconst 1, 1) := by decide +kernel
theorem dX12_isWord_110 : decode cX12_isWord 110 = .ok (.goto 4, 3) := by decide +kernel
theorem dX12_isWord_113 : decode cX12_isWord 113 = .ok (.iconst 0, 1) := by decide +kernel
theorem dX12_isWord_114 : decode cX12_isWord 114 = .ok (.ireturn, 1) := by decide +kernel
theorem dX12_scan_0 : decode cX12_scan 0 = .ok (.aload_n 0, 1) := by decide +kernel
theorem dX12_scan_1 : decode cX12_scan 1 = .ok (.getfield 230, 3) := by decide +kernel
theorem dX12_scan_4 : decode cX12_scan 4 = .ok (.aload_n 0, 1) := by decide +kernel
theorem dX12_scan_5 : decode cX12_scan 5 = .ok (.getfield 217, 3) := by decide +kernel
theorem dX12_scan_8 : decode cX12_scan 8 = .ok (.if_icmp .ge 72, 3) := by decide +kernel
theorem dX12_scan_11 : decode cX12_scan 11 = .ok (.aload_n 0, 1) := by decide +kernel
theorem dX12_scan_12 : decode cX12_scan 12 = .ok (.getfield 28, 3) := by decide +kernel
theorem dX12_scan_15 : decode cX12_scan 15 = .ok (.aload_n 0, 1) := by decide +kernel
theorem dX12_scan_16 : decode cX12_scan 16 = .ok (.getfield 230, 3) := by decide +kernel
theorem dX12_scan_19 : decode cX12_scan 19 = .ok (.iaload, 1) := by decide +kernel
theorem dX12_scan_20 : decode cX12_scan 20 = .ok (.bipush 9, 2) := by decide +kernel
theorem dX12_scan_22 : decode cX12_scan 22 = .ok (.if_icmp .eq 45, 3) := by decide +kernel
theorem dX12_scan_25 : decode cX12_scan 25 = .ok (.aload_n 0, 1) := by decide +kernel
theorem dX12_scan_26 : decode cX12_scan 26 = .ok (.getfield 28, 3) := by decide +kernel
theorem dX12_scan_29 : decode cX12_scan 29 = .ok (.aload_n 0, 1) := by decide +kernel
theorem dX12_scan_30 : decode cX12_scan 30 = .ok (.getfield 230, 3) := by decide +kernel
theorem dX12_scan_33 : decode cX12_scan 33 = .ok (.iaload, 1) := by decide +kernel
theorem dX12_scan_34 : decode cX12_scan 34 = .ok (.bipush 10, 2) := by decide +kernel
theorem dX12_scan_36 : decode cX12_scan 36 = .ok (.if_icmp .eq 31, 3) := by decide +kernel
theorem dX12_scan_39 : decode cX12_scan 39 = .ok (.aload_n 0, 1) := by decide +kernel
theorem dX12_scan_40 : decode cX12_scan 40 = .ok (.getfield 28, 3) := by decide +kernel
theorem dX12_scan_43 : decode cX12_scan 43 = .ok (.aload_n 0, 1) := by decide +kernel
theorem dX12_scan_44 : decode cX12_scan 44 = .ok (.getfield 230, 3) := by decide +kernel
theorem dX12_scan_47 : decode cX12_scan 47 = .ok (.iaload, 1) := by decide +kernel
theorem dX12_scan_48 : decode cX12_scan 48 = .ok (.bipush 13, 2) := by decide +kernel
theorem dX12_scan_50 : decode cX12_scan 50 = .ok (.if_icmp .eq 17, 3) := by decide +kernel
theorem dX12_scan_53 : decode cX12_scan 53 = .ok (.aload_n 0, 1) := by decide +kernel
theorem dX12_scan_54 : decode cX12_scan 54 = .ok (.getfield 28, 3) := by decide +kernel
theorem dX12_scan_57 : decode cX12_scan 57 = .ok (.aload_n 0, 1) := by decide +kernel
theorem dX12_scan_58 : decode cX12_scan 58 = .ok (.getfield 230, 3) := by decide +kernel
theorem dX12_scan_61 : decode cX12_scan 61 = .ok (.iaload, 1) := by decide +kernel
theorem dX12_scan_62 : decode cX12_scan 62 = .ok (.bipush 32, 2) := by decide +kernel
theorem dX12_scan_64 : decode cX12_scan 64 = .ok (.if_icmp .ne 16, 3) := by decide +kernel
theorem dX12_scan_67 : decode cX12_scan 67 = .ok (.aload_n 0, 1) := by decide +kernel
theorem dX12_scan_68 : decode cX12_scan 68 = .ok (.dup, 1) := by decide +kernel
theorem dX12_scan_69 : decode cX12_scan 69 = .ok (.getfield 230, 3) := by decide +kernel
theorem dX12_scan_72 : decode cX12_scan 72 = .ok (.iconst 1, 1) := by decide +kernel
theorem dX12_scan_73 : decode cX12_scan 73 = .ok (.iadd, 1) := by decide +kernel
theorem dX12_scan_74 : decode cX12_scan 74 = .ok (.putfield 230, 3) := by decide +kernel
theorem dX12_scan_77 : decode cX12_scan 77 = .ok (.goto (-77), 3) := by decide +kernel
theorem dX12_scan_80 : decode cX12_scan 80 = .ok (.aload_n 0, 1) := by decide +kernel
theorem dX12_scan_81 : decode cX12_scan 81 = .ok (.aload_n 0, 1) := by decide +kernel
theorem dX12_scan_82 : decode cX12_scan 82 = .ok (.getfield 230, 3) := by decide +kernel
theorem dX12_scan_85 : decode cX12_scan 85 = .ok (.putfield 227, 3) := by decide +kernel
theorem dX12_scan_88 : decode cX12_scan 88 = .ok (.aload_n 0, 1) := by decide +kernel
theorem dX12_scan_89 : decode cX12_scan 89 = .ok (.iconst 1, 1) := by decide +kernel
theorem dX12_scan_90 : decode cX12_scan 90 = .ok (.putfield 224, 3) := by decide +kernel
theorem dX12_scan_93 : decode cX12_scan 93 = .ok (.aload_n 0, 1) := by decide +kernel
theorem dX12_scan_94 : decode cX12_scan 94 = .ok (.iconst 1, 1) := by decide +kernel
theorem dX12_scan_95 : decode cX12_scan 95 = .ok (.putfield 233, 3) := by decide +kernel
theorem dX12_scan_98 : decode cX12_scan 98 = .ok (.aload_n 0, 1) := by decide +kernel
theorem dX12_scan_99 : decode cX12_scan 99 = .ok (.aload_n 0, 1) := by decide +kernel
theorem dX12_scan_100 : decode cX12_scan 100 = .ok (.getfield 230, 3) := by decide +kernel
theorem dX12_scan_103 : decode cX12_scan 103 = .ok (.invokevirtual 236, 3) := by decide +kernel
theorem dX12_scan_106 : decode cX12_scan 106 = .ok (.istore_n 1, 1) := by decide +kernel
theorem dX12_scan_107 : decode cX12_scan 107 = .ok (.aload_n 0, 1) := by decide +kernel
theorem dX12_scan_108 : decode cX12_scan 108 = .ok (.getfield 230, 3) := by decide +kernel
theorem dX12_scan_111 : decode cX12_scan 111 = .ok (.aload_n 0, 1) := by decide +kernel
theorem dX12_scan_112 : decode cX12_scan 112 = .ok (.getfield 217, 3) := by decide +kernel
theorem dX12_scan_115 : decode cX12_scan 115 = .ok (.if_icmp .ne 18, 3) := by decide +kernel
theorem dX12_scan_118 : decode cX12_scan 118 = .ok (.aload_n 0, 1) := by decide +kernel
theorem dX12_scan_119 : decode cX12_scan 119 = .ok (.sipush 256, 3) := by decide +kernel
theorem dX12_scan_122 : decode cX12_scan 122 = .ok (.putfield 240, 3) := by decide +kernel
theorem dX12_scan_125 : decode cX12_scan 125 = .ok (.aload_n 0, 1) := by decide +kernel
theorem dX12_scan_126 : decode cX12_scan 126 = .ok (.iconst 0, 1) := by decide +kernel
theorem dX12_scan_127 : decode cX12_scan 127 = .ok (.putfield 224, 3) := by decide +kernel
theorem dX12_scan_130 : decode cX12_scan 130 = .ok (.goto 237, 3) := by decide +kernel
theorem dX12_scan_133 : decode cX12_scan 133 = .ok (.iload_n 1, 1) := by decide +kernel
theorem dX12_scan_134 : decode cX12_scan 134 = .ok (.invokestatic 243, 3) := by decide +kernel
theorem dX12_scan_137 : decode cX12_scan 137 = .ok (.ifCond .eq 124, 3) := by decide +kernel
theorem dX12_scan_140 : decode cX12_scan 140 = .ok (.aload_n 0, 1) := by decide +kernel
theorem dX12_scan_141 : decode cX12_scan 141 = .ok (.aload_n 0, 1) := by decide +kernel
theorem dX12_scan_142 : decode cX12_scan 142 = .ok (.getfield 230, 3) := by decide +kernel
theorem dX12_scan_145 : decode cX12_scan 145 = .ok (.aload_n 0, 1) := by decide +kernel
theorem dX12_scan_146 : decode cX12_scan 146 = .ok (.getfield 224, 3) := by decide +kernel
theorem dX12_scan_149 : decode cX12_scan 149 = .ok (.iadd, 1) := by decide +kernel
theorem dX12_scan_150 : decode cX12_scan 150 = .ok (.invokevirtual 236, 3) := by decide +kernel
theorem dX12_scan_153 : decode cX12_scan 153 = .ok (.invokestatic 243, 3) := by decide +kernel
theorem dX12_scan_156 : decode cX12_scan 156 = .ok (.ifCond .ne 22, 3) := by decide +kernel
theorem dX12_scan_159 : decode cX12_scan 159 = .ok (.aload_n 0, 1) := by decide +kernel
theorem dX12_scan_160 : decode cX12_scan 160 = .ok (.aload_n 0, 1) := by decide +kernel
theorem dX12_scan_161 : decode cX12_scan 161 = .ok (.getfield 230, 3) := by decide +kernel
theorem dX12_scan_164 : decode cX12_scan 164 = .ok (.aload_n 0, 1) := by decide +kernel
theorem dX12_scan_165 : decode cX12_scan 165 = .ok (.getfield 224, 3) := by decide +kernel
theorem dX12_scan_168 : decode cX12_scan 168 = .ok (.iadd, 1) := by decide +kernel
theorem dX12_scan_169 : decode cX12_scan 169 = .ok (.invokevirtual 236, 3) := by decide +kernel
theorem dX12_scan_172 : decode cX12_scan 172 = .ok (.invokestatic 247, 3) := by decide +kernel
theorem dX12_scan_175 : decode cX12_scan 175 = .ok (.ifCond .eq 16, 3) := by decide +kernel
theorem dX12_scan_178 : decode cX12_scan 178 = .ok (.aload_n 0, 1) := by decide +kernel
theorem dX12_scan_179 : decode cX12_scan 179 = .ok (.dup, 1) := by decide +kernel
theorem dX12_scan_180 : decode cX12_scan 180 = .ok (.getfield 224, 3) := by decide +kernel
theorem dX12_scan_183 : decode cX12_scan 183 = .ok (.iconst 1, 1) := by decide +kernel
theorem dX12_scan_184 : decode cX12_scan 184 = .ok (.iadd, 1) := by decide +kernel
theorem dX12_scan_185 : decode cX12_scan 185 = .ok (.putfield 224, 3) := by decide +kernel
theorem dX12_scan_188 : decode cX12_scan 188 = .ok (.goto (-48), 3) := by decide +kernel
theorem dX12_scan_191 : decode cX12_scan 191 = .ok (.aload_n 0, 1) := by decide +kernel
theorem dX12_scan_192 : decode cX12_scan 192 = .ok (.aload_n 0, 1) := by decide +kernel
theorem dX12_scan_193 : decode cX12_scan 193 = .ok (.getfield 224, 3) := by decide +kernel
theorem dX12_scan_196 : decode cX12_scan 196 = .ok (.bipush 6, 2) := by decide +kernel
theorem dX12_scan_198 : decode cX12_scan 198 = .ok (.if_icmp .le 9, 3) := by decide +kernel
theorem dX12_scan_201 : decode cX12_scan 201 = .ok (.sipush 262, 3) := by decide +kernel
theorem dX12_scan_204 : decode cX12_scan 204 = .ok (.goto 51, 3) := by decide +kernel
theorem dX12_scan_207 : decode cX12_scan 207 = .ok (.aload_n 0, 1) := by decide +kernel
theorem dX12_scan_208 : decode cX12_scan 208 = .ok (.bipush 116, 2) := by decide +kernel
theorem dX12_scan_210 : decode cX12_scan 210 = .ok (.bipush 114, 2) := by decide +kernel
theorem dX12_scan_212 : decode cX12_scan 212 = .ok (.bipush 117, 2) := by decide +kernel
theorem dX12_scan_214 : decode cX12_scan 214 = .ok (.bipush 101, 2) := by decide +kernel
theorem dX12_scan_216 : decode cX12_scan 216 = .ok (.iconst 0, 1) := by decide +kernel
theorem dX12_scan_217 : decode cX12_scan 217 = .ok (.invokevirtual 250, 3) := by decide +kernel
theorem dX12_scan_220 : decode cX12_scan 220 = .ok (.ifCond .eq 9, 3) := by decide +kernel
theorem dX12_scan_223 : decode cX12_scan 223 = .ok (.sipush 258, 3) := by decide +kernel
theorem dX12_scan_226 : decode cX12_scan 226 = .ok (.goto 29, 3) := by decide +kernel
theorem dX12_scan_229 : decode cX12_scan 229 = .ok (.aload_n 0, 1) := by decide +kernel
theorem dX12_scan_230 : decode cX12_scan 230 = .ok (.bipush 102, 2) := by decide +kernel
theorem dX12_scan_232 : decode cX12_scan 232 = .ok (.bipush 97, 2) := by decide +kernel
theorem dX12_scan_234 : decode cX12_scan 234 = .ok (.bipush 108, 2) := by decide +kernel
theorem dX12_scan_236 : decode cX12_scan 236 = .ok (.bipush 115, 2) := by decide +kernel
theorem dX12_scan_238 : decode cX12_scan 238 = .ok (.bipush 101, 2) := by decide +kernel
theorem dX12_scan_240 : decode cX12_scan 240 = .ok (.invokevirtual 250, 3) := by decide +kernel
theorem dX12_scan_243 : decode cX12_scan 243 = .ok (.ifCond .eq 9, 3) := by decide +kernel
theorem dX12_scan_246 : decode cX12_scan 246 = .ok (.sipush 259, 3) := by decide +kernel
theorem dX12_scan_249 : decode cX12_scan 249 = .ok (.goto 6, 3) := by decide +kernel
theorem dX12_scan_252 : decode cX12_scan 252 = .ok (.sipush 257, 3) := by decide +kernel
theorem dX12_scan_255 : decode cX12_scan 255 = .ok (.putfield 240, 3) := by decide +kernel
theorem dX12_scan_258 : decode cX12_scan 258 = .ok (.goto 109, 3) := by decide +kernel
theorem dX12_scan_261 : decode cX12_scan 261 = .ok (.iload_n 1, 1) := by decide +kernel
theorem dX12_scan_262 : decode cX12_scan 262 = .ok (.bipush 45, 2) := by decide +kernel
theorem dX12_scan_264 : decode cX12_scan 264 = .ok (.if_icmp .ne 33, 3) := by decide +kernel
theorem dX12_scan_267 : decode cX12_scan 267 = .ok (.aload_n 0, 1) := by decide +kernel
theorem dX12_scan_268 : decode cX12_scan 268 = .ok (.aload_n 0, 1) := by decide +kernel
theorem dX12_scan_269 : decode cX12_scan 269 = .ok (.getfield 230, 3) := by decide +kernel
theorem dX12_scan_272 : decode cX12_scan 272 = .ok (.iconst 1, 1) := by decide +kernel
theorem dX12_scan_273 : decode cX12_scan 273 = .ok (.iadd, 1) := by decide +kernel
theorem dX12_scan_274 : decode cX12_scan 274 = .ok (.invokevirtual 236, 3) := by decide +kernel
theorem dX12_scan_277 : decode cX12_scan 277 = .ok (.bipush 62, 2) := by decide +kernel
theorem dX12_scan_279 : decode cX12_scan 279 = .ok (.if_icmp .ne 18, 3) := by decide +kernel
theorem dX12_scan_282 : decode cX12_scan 282 = .ok (.aload_n 0, 1) := by decide +kernel
theorem dX12_scan_283 : decode cX12_scan 283 = .ok (.sipush 260, 3) := by decide +kernel
theorem dX12_scan_286 : decode cX12_scan 286 = .ok (.putfield 240, 3) := by decide +kernel
theorem dX12_scan_289 : decode cX12_scan 289 = .ok (.aload_n 0, 1) := by decide +kernel
theorem dX12_scan_290 : decode cX12_scan 290 = .ok (.iconst 2, 1) := by decide +kernel
theorem dX12_scan_291 : decode cX12_scan 291 = .ok (.putfield 224, 3) := by decide +kernel
theorem dX12_scan_294 : decode cX12_scan 294 = .ok (.goto 73, 3) := by decide +kernel
theorem dX12_scan_297 : decode cX12_scan 297 = .ok (.iload_n 1, 1) := by decide +kernel
theorem dX12_scan_298 : decode cX12_scan 298 = .ok (.bipush 60, 2) := by decide +kernel
theorem dX12_scan_300 : decode cX12_scan 300 = .ok (.if_icmp .ne 48, 3) := by decide +kernel
theorem dX12_scan_303 : decode cX12_scan 303 = .ok (.aload_n 0, 1) := by decide +kernel
theorem dX12_scan_304 : decode cX12_scan 304 = .ok (.aload_n 0, 1) := by decide +kernel
theorem dX12_scan_305 : decode cX12_scan 305 = .ok (.getfield 230, 3) := by decide +kernel
theorem dX12_scan_308 : decode cX12_scan 308 = .ok (.iconst 1, 1) := by decide +kernel
theorem dX12_scan_309 : decode cX12_scan 309 = .ok (.iadd, 1) := by decide +kernel
theorem dX12_scan_310 : decode cX12_scan 310 = .ok (.invokevirtual 236, 3) := by decide +kernel
theorem dX12_scan_313 : decode cX12_scan 313 = .ok (.bipush 45, 2) := by decide +kernel
theorem dX12_scan_315 : decode cX12_scan 315 = .ok (.if_icmp .ne 33, 3) := by decide +kernel
theorem dX12_scan_318 : decode cX12_scan 318 = .ok (.aload_n 0, 1) := by decide +kernel
theorem dX12_scan_319 : decode cX12_scan 319 = .ok (.aload_n 0, 1) := by decide +kernel
theorem dX12_scan_320 : decode cX12_scan 320 = .ok (.getfield 230, 3) := by decide +kernel
theorem dX12_scan_323 : decode cX12_scan 323 = .ok (.iconst 2, 1) := by decide +kernel
theorem dX12_scan_324 : decode cX12_scan 324 = .ok (.iadd, 1) := by decide +kernel
theorem dX12_scan_325 : decode cX12_scan 325 = .ok (.invokevirtual 236, 3) := by decide +kernel
theorem dX12_scan_328 : decode cX12_scan 328 = .ok (.bipush 62, 2) := by decide +kernel
theorem dX12_scan_330 : decode cX12_scan 330 = .ok (.if_icmp .ne 18, 3) := by decide +kernel
theorem dX12_scan_333 : decode cX12_scan 333 = .ok (.aload_n 0, 1) := by decide +kernel
theorem dX12_scan_334 : decode cX12_scan 334 = .ok (.sipush 261, 3) := by decide +kernel
theorem dX12_scan_337 : decode cX12_scan 337 = .ok (.putfield 240, 3) := by decide +kernel
theorem dX12_scan_340 : decode cX12_scan 340 = .ok (.aload_n 0, 1) := by decide +kernel
theorem dX12_scan_341 : decode cX12_scan 341 = .ok (.iconst 3, 1) := by decide +kernel
theorem dX12_scan_342 : decode cX12_scan 342 = .ok (.putfield 224, 3) := by decide +kernel
theorem dX12_scan_345 : decode cX12_scan 345 = .ok (.goto 22, 3) := by decide +kernel
theorem dX12_scan_348 : decode cX12_scan 348 = .ok (.aload_n 0, 1) := by decide +kernel
theorem dX12_scan_349 : decode cX12_scan 349 = .ok (.aload_n 0, 1) := by decide +kernel
theorem dX12_scan_350 : decode cX12_scan 350 = .ok (.iload_n 1, 1) := by decide +kernel
theorem dX12_scan_351 : decode cX12_scan 351 = .ok (.invokevirtual 254, 3) := by decide +kernel
theorem dX12_scan_354 : decode cX12_scan 354 = .ok (.ifCond .eq 7, 3) := by decide +kernel
theorem dX12_scan_357 : decode cX12_scan 357 = .ok (.iload_n 1, 1) := by decide +kernel
theorem dX12_scan_358 : decode cX12_scan 358 = .ok (.goto 6, 3) := by decide +kernel
theorem dX12_scan_361 : decode cX12_scan 361 = .ok (.sipush 262, 3) := by decide +kernel
theorem dX12_scan_364 : decode cX12_scan 364 = .ok (.putfield 240, 3) := by decide +kernel
theorem dX12_scan_367 : decode cX12_scan 367 = .ok (.return_, 1) := by decide +kernel
theorem dX12_fail_0 : decode cX12_fail 0 = .ok (.aload_n 0, 1) := by decide +kernel
theorem dX12_fail_1 : decode cX12_fail 1 = .ok (.getfield 257, 3) := by decide +kernel
theorem dX12_fail_4 : decode cX12_fail 4 = .ok (.ifCond .ne 13, 3) := by decide +kernel
theorem dX12_fail_7 : decode cX12_fail 7 = .ok (.aload_n 0, 1) := by decide +kernel
theorem dX12_fail_8 : decode cX12_fail 8 = .ok (.iload_n 1, 1) := by decide +kernel
theorem dX12_fail_9 : decode cX12_fail 9 = .ok (.putfield 257, 3) := by decide +kernel
theorem dX12_fail_12 : decode cX12_fail 12 = .ok (.aload_n 0, 1) := by decide +kernel
theorem dX12_fail_13 : decode cX12_fail 13 = .ok (.iload_n 2, 1) := by decide +kernel
theorem dX12_fail_14 : decode cX12_fail 14 = .ok (.putfield 260, 3) := by decide +kernel
theorem dX12_fail_17 : decode cX12_fail 17 = .ok (.iconst 0, 1) := by decide +kernel
theorem dX12_fail_18 : decode cX12_fail 18 = .ok (.ireturn, 1) := by decide +kernel
theorem dX12_look_0 : decode cX12_look 0 = .ok (.aload_n 0, 1) := by decide +kernel
theorem dX12_look_1 : decode cX12_look 1 = .ok (.getfield 233, 3) := by decide +kernel
theorem dX12_look_4 : decode cX12_look 4 = .ok (.ifCond .ne 27, 3) := by decide +kernel
theorem dX12_look_7 : decode cX12_look 7 = .ok (.aload_n 0, 1) := by decide +kernel
theorem dX12_look_8 : decode cX12_look 8 = .ok (.invokevirtual 263, 3) := by decide +kernel
theorem dX12_look_11 : decode cX12_look 11 = .ok (.aload_n 0, 1) := by decide +kernel
theorem dX12_look_12 : decode cX12_look 12 = .ok (.getfield 240, 3) := by decide +kernel
theorem dX12_look_15 : decode cX12_look 15 = .ok (.sipush 262, 3) := by decide +kernel
theorem dX12_look_18 : decode cX12_look 18 = .ok (.if_icmp .ne 13, 3) := by decide +kernel
theorem dX12_look_21 : decode cX12_look 21 = .ok (.aload_n 0, 1) := by decide +kernel
theorem dX12_look_22 : decode cX12_look 22 = .ok (.iconst 1, 1) := by decide +kernel
theorem dX12_look_23 : decode cX12_look 23 = .ok (.aload_n 0, 1) := by decide +kernel
theorem dX12_look_24 : decode cX12_look 24 = .ok (.getfield 227, 3) := by decide +kernel
theorem dX12_look_27 : decode cX12_look 27 = .ok (.invokevirtual 266, 3) := by decide +kernel
theorem dX12_look_30 : decode cX12_look 30 = .ok (.istore_n 1, 1) := by decide +kernel
theorem dX12_look_31 : decode cX12_look 31 = .ok (.aload_n 0, 1) := by decide +kernel
theorem dX12_look_32 : decode cX12_look 32 = .ok (.getfield 257, 3) := by decide +kernel
theorem dX12_look_35 : decode cX12_look 35 = .ok (.ifCond .ne 10, 3) := by decide +kernel
theorem dX12_look_38 : decode cX12_look 38 = .ok (.aload_n 0, 1) := by decide +kernel
theorem dX12_look_39 : decode cX12_look 39 = .ok (.getfield 240, 3) := by decide +kernel
theorem dX12_look_42 : decode cX12_look 42 = .ok (.goto 6, 3) := by decide +kernel
theorem dX12_look_45 : decode cX12_look 45 = .ok (.sipush 262, 3) := by decide +kernel
theorem dX12_look_48 : decode cX12_look 48 = .ok (.ireturn, 1) := by decide +kernel
theorem dX12_pass_0 : decode cX12_pass 0 = .ok (.aload_n 0, 1) := by decide +kernel
theorem dX12_pass_1 : decode cX12_pass 1 = .ok (.aload_n 0, 1) := by decide +kernel
theorem dX12_pass_2 : decode cX12_pass 2 = .ok (.getfield 227, 3) := by decide +kernel
theorem dX12_pass_5 : decode cX12_pass 5 = .ok (.aload_n 0, 1) := by decide +kernel
theorem dX12_pass_6 : decode cX12_pass 6 = .ok (.getfield 224, 3) := by decide +kernel
theorem dX12_pass_9 : decode cX12_pass 9 = .ok (.iadd, 1) := by decide +kernel
theorem dX12_pass_10 : decode cX12_pass 10 = .ok (.putfield 230, 3) := by decide +kernel
theorem dX12_pass_13 : decode cX12_pass 13 = .ok (.aload_n 0, 1) := by decide +kernel
theorem dX12_pass_14 : decode cX12_pass 14 = .ok (.iconst 0, 1) := by decide +kernel
theorem dX12_pass_15 : decode cX12_pass 15 = .ok (.putfield 233, 3) := by decide +kernel
theorem dX12_pass_18 : decode cX12_pass 18 = .ok (.return_, 1) := by decide +kernel
theorem dX12_want_0 : decode cX12_want 0 = .ok (.aload_n 0, 1) := by decide +kernel
theorem dX12_want_1 : decode cX12_want 1 = .ok (.invokevirtual 270, 3) := by decide +kernel
theorem dX12_want_4 : decode cX12_want 4 = .ok (.iload_n 1, 1) := by decide +kernel
theorem dX12_want_5 : decode cX12_want 5 = .ok (.if_icmp .eq 13, 3) := by decide +kernel
theorem dX12_want_8 : decode cX12_want 8 = .ok (.aload_n 0, 1) := by decide +kernel
theorem dX12_want_9 : decode cX12_want 9 = .ok (.iconst 2, 1) := by decide +kernel
theorem dX12_want_10 : decode cX12_want 10 = .ok (.aload_n 0, 1) := by decide +kernel
theorem dX12_want_11 : decode cX12_want 11 = .ok (.getfield 227, 3) := by decide +kernel
theorem dX12_want_14 : decode cX12_want 14 = .ok (.invokevirtual 266, 3) := by decide +kernel
theorem dX12_want_17 : decode cX12_want 17 = .ok (.ireturn, 1) := by decide +kernel
theorem dX12_want_18 : decode cX12_want 18 = .ok (.aload_n 0, 1) := by decide +kernel
theorem dX12_want_19 : decode cX12_want 19 = .ok (.invokevirtual 274, 3) := by decide +kernel
theorem dX12_want_22 : decode cX12_want 22 = .ok (.iconst 1, 1) := by decide +kernel
theorem dX12_want_23 : decode cX12_want 23 = .ok (.ireturn, 1) := by decide +kernel
theorem dX12_nest_0 : decode cX12_nest 0 = .ok (.aload_n 0, 1) := by decide +kernel
theorem dX12_nest_1 : decode cX12_nest 1 = .ok (.getfield 277, 3) := by decide +kernel
theorem dX12_nest_4 : decode cX12_nest 4 = .ok (.bipush 40, 2) := by decide +kernel
theorem dX12_nest_6 : decode cX12_nest 6 = .ok (.if_icmp .ne 13, 3) := by decide +kernel
theorem dX12_nest_9 : decode cX12_nest 9 = .ok (.aload_n 0, 1) := by decide +kernel
theorem dX12_nest_10 : decode cX12_nest 10 = .ok (.iconst 3, 1) := by decide +kernel
theorem dX12_nest_11 : decode cX12_nest 11 = .ok (.aload_n 0, 1) := by decide +kernel
theorem dX12_nest_12 : decode cX12_nest 12 = .ok (.getfield 227, 3) := by decide +kernel
theorem dX12_nest_15 : decode cX12_nest 15 = .ok (.invokevirtual 266, 3) := by decide +kernel
theorem dX12_nest_18 : decode cX12_nest 18 = .ok (.ireturn, 1) := by decide +kernel
theorem dX12_nest_19 : decode cX12_nest 19 = .ok (.aload_n 0, 1) := by decide +kernel
theorem dX12_nest_20 : decode cX12_nest 20 = .ok (.dup, 1) := by decide +kernel
theorem dX12_nest_21 : decode cX12_nest 21 = .ok (.getfield 277, 3) := by decide +kernel
theorem dX12_nest_24 : decode cX12_nest 24 = .ok (.iconst 1, 1) := by decide +kernel
theorem dX12_nest_25 : decode cX12_nest 25 = .ok (.iadd, 1) := by decide +kernel
theorem dX12_nest_26 : decode cX12_nest 26 = .ok (.putfield 277, 3) := by decide +kernel
theorem dX12_nest_29 : decode cX12_nest 29 = .ok (.iconst 1, 1) := by decide +kernel
theorem dX12_nest_30 : decode cX12_nest 30 = .ok (.ireturn, 1) := by decide +kernel
theorem dX12_variableOf_0 : decode cX12_variableOf 0 = .ok (.iconst 0, 1) := by decide +kernel
theorem dX12_variableOf_1 : decode cX12_variableOf 1 = .ok (.istore_n 1, 1) := by decide +kernel
theorem dX12_variableOf_2 : decode cX12_variableOf 2 = .ok (.iload_n 1, 1) := by decide +kernel
theorem dX12_variableOf_3 : decode cX12_variableOf 3 = .ok (.aload_n 0, 1) := by decide +kernel
theorem dX12_variableOf_4 : decode cX12_variableOf 4 = .ok (.getfield 280, 3) := by decide +kernel
theorem dX12_variableOf_7 : decode cX12_variableOf 7 = .ok (.if_icmp .ge 90, 3) := by decide +kernel
theorem dX12_variableOf_10 : decode cX12_variableOf 10 = .ok (.aload_n 0, 1) := by decide +kernel
theorem dX12_variableOf_11 : decode cX12_variableOf 11 = .ok (.getfield 22, 3) := by decide +kernel
theorem dX12_variableOf_14 : decode cX12_variableOf 14 = .ok (.iload_n 1, 1) := by decide +kernel
theorem dX12_variableOf_15 : decode cX12_variableOf 15 = .ok (.iaload, 1) := by decide +kernel
theorem dX12_variableOf_16 : decode cX12_variableOf 16 = .ok (.aload_n 0, 1) := by decide +kernel
theorem dX12_variableOf_17 : decode cX12_variableOf 17 = .ok (.getfield 224, 3) := by decide +kernel
theorem dX12_variableOf_20 : decode cX12_variableOf 20 = .ok (.if_icmp .ne 7, 3) := by decide +kernel
theorem dX12_variableOf_23 : decode cX12_variableOf 23 = .ok (.iconst 1, 1) := by decide +kernel
theorem dX12_variableOf_24 : decode cX12_variableOf 24 = .ok (.goto 4, 3) := by decide +kernel
theorem dX12_variableOf_27 : decode cX12_variableOf 27 = .ok (.iconst 0, 1) := by decide +kernel
theorem dX12_variableOf_28 : decode cX12_variableOf 28 = .ok (.istore_n 2, 1) := by decide +kernel
theorem dX12_variableOf_29 : decode cX12_variableOf 29 = .ok (.iconst 0, 1) := by decide +kernel
theorem dX12_variableOf_30 : decode cX12_variableOf 30 = .ok (.istore_n 3, 1) := by decide +kernel
theorem dX12_variableOf_31 : decode cX12_variableOf 31 = .ok (.iload_n 3, 1) := by decide +kernel
theorem dX12_variableOf_32 : decode cX12_variableOf 32 = .ok (.aload_n 0, 1) := by decide +kernel
theorem dX12_variableOf_33 : decode cX12_variableOf 33 = .ok (.getfield 224, 3) := by decide +kernel
theorem dX12_variableOf_36 : decode cX12_variableOf 36 = .ok (.if_icmp .ge 44, 3) := by decide +kernel
theorem dX12_variableOf_39 : decode cX12_variableOf 39 = .ok (.iload_n 2, 1) := by decide +kernel
theorem dX12_variableOf_40 : decode cX12_variableOf 40 = .ok (.ifCond .eq 40, 3) := by decide +kernel
theorem dX12_variableOf_43 : decode cX12_variableOf 43 = .ok (.aload_n 0, 1) := by decide +kernel
theorem dX12_variableOf_44 : decode cX12_variableOf 44 = .ok (.getfield 19, 3) := by decide +kernel
theorem dX12_variableOf_47 : decode cX12_variableOf 47 = .ok (.bipush 6, 2) := by decide +kernel
theorem dX12_variableOf_49 : decode cX12_variableOf 49 = .ok (.iload_n 1, 1) := by decide +kernel
theorem dX12_variableOf_50 : decode cX12_variableOf 50 = .ok (.imul, 1) := by decide +kernel
theorem dX12_variableOf_51 : decode cX12_variableOf 51 = .ok (.iload_n 3, 1) := by decide +kernel
theorem dX12_variableOf_52 : decode cX12_variableOf 52 = .ok (.iadd, 1) := by decide +kernel
theorem dX12_variableOf_53 : decode cX12_variableOf 53 = .ok (.iaload, 1) := by decide +kernel
theorem dX12_variableOf_54 : decode cX12_variableOf 54 = .ok (.aload_n 0, 1) := by decide +kernel
theorem dX12_variableOf_55 : decode cX12_variableOf 55 = .ok (.getfield 28, 3) := by decide +kernel
theorem dX12_variableOf_58 : decode cX12_variableOf 58 = .ok (.aload_n 0, 1) := by decide +kernel
theorem dX12_variableOf_59 : decode cX12_variableOf 59 = .ok (.getfield 227, 3) := by decide +kernel
theorem dX12_variableOf_62 : decode cX12_variableOf 62 = .ok (.iload_n 3, 1) := by decide +kernel
theorem dX12_variableOf_63 : decode cX12_variableOf 63 = .ok (.iadd, 1) := by decide +kernel
theorem dX12_variableOf_64 : decode cX12_variableOf 64 = .ok (.iaload, 1) := by decide +kernel
theorem dX12_variableOf_65 : decode cX12_variableOf 65 = .ok (.if_icmp .ne 7, 3) := by decide +kernel
theorem dX12_variableOf_68 : decode cX12_variableOf 68 = .ok (.iconst 1, 1) := by decide +kernel
theorem dX12_variableOf_69 : decode cX12_variableOf 69 = .ok (.goto 4, 3) := by decide +kernel
theorem dX12_variableOf_72 : decode cX12_variableOf 72 = .ok (.iconst 0, 1) := by decide +kernel
theorem dX12_variableOf_73 : decode cX12_variableOf 73 = .ok (.istore_n 2, 1) := by decide +kernel
theorem dX12_variableOf_74 : decode cX12_variableOf 74 = .ok (.iinc 3 1, 3) := by decide +kernel
theorem dX12_variableOf_77 : decode cX12_variableOf 77 = .ok (.goto (-46), 3) := by decide +kernel
theorem dX12_variableOf_80 : decode cX12_variableOf 80 = .ok (.iload_n 2, 1) := by decide +kernel
theorem dX12_variableOf_81 : decode cX12_variableOf 81 = .ok (.ifCond .eq 10, 3) := by decide +kernel
theorem dX12_variableOf_84 : decode cX12_variableOf 84 = .ok (.aload_n 0, 1) := by decide +kernel
theorem dX12_variableOf_85 : decode cX12_variableOf 85 = .ok (.getfield 25, 3) := by decide +kernel
theorem dX12_variableOf_88 : decode cX12_variableOf 88 = .ok (.iload_n 1, 1) := by decide +kernel
theorem dX12_variableOf_89 : decode cX12_variableOf 89 = .ok (.iaload, 1) := by decide +kernel
theorem dX12_variableOf_90 : decode cX12_variableOf 90 = .ok (.ireturn, 1) := by decide +kernel
theorem dX12_variableOf_91 : decode cX12_variableOf 91 = .ok (.iinc 1 1, 3) := by decide +kernel
theorem dX12_variableOf_94 : decode cX12_variableOf 94 = .ok (.goto (-92), 3) := by decide +kernel
theorem dX12_variableOf_97 : decode cX12_variableOf 97 = .ok (.aload_n 0, 1) := by decide +kernel
theorem dX12_variableOf_98 : decode cX12_variableOf 98 = .ok (.getfield 280, 3) := by decide +kernel
theorem dX12_variableOf_101 : decode cX12_variableOf 101 = .ok (.bipush 24, 2) := by decide +kernel
theorem dX12_variableOf_103 : decode cX12_variableOf 103 = .ok (.if_icmp .ne 15, 3) := by decide +kernel
theorem dX12_variableOf_106 : decode cX12_variableOf 106 = .ok (.aload_n 0, 1) := by decide +kernel
theorem dX12_variableOf_107 : decode cX12_variableOf 107 = .ok (.iconst 4, 1) := by decide +kernel
theorem dX12_variableOf_108 : decode cX12_variableOf 108 = .ok (.aload_n 0, 1) := by decide +kernel
theorem dX12_variableOf_109 : decode cX12_variableOf 109 = .ok (.getfield 227, 3) := by decide +kernel
theorem dX12_variableOf_112 : decode cX12_variableOf 112 = .ok (.invokevirtual 266, 3) := by decide +kernel
theorem dX12_variableOf_115 : decode cX12_variableOf 115 = .ok (.istore_n 1, 1) := by decide +kernel
theorem dX12_variableOf_116 : decode cX12_variableOf 116 = .ok (.iconst (-1), 1) := by decide +kernel
theorem dX12_variableOf_117 : decode cX12_variableOf 117 = .ok (.ireturn, 1) := by decide +kernel
theorem dX12_variableOf_118 : decode cX12_variableOf 118 = .ok (.aload_n 0, 1) := by decide +kernel
theorem dX12_variableOf_119 : decode cX12_variableOf 119 = .ok (.getfield 204, 3) := by decide +kernel
theorem dX12_variableOf_122 : decode cX12_variableOf 122 = .ok (.sipush 2000, 3) := by decide +kernel
theorem dX12_variableOf_125 : decode cX12_variableOf 125 = .ok (.if_icmp .ne 15, 3) := by decide +kernel
theorem dX12_variableOf_128 : decode cX12_variableOf 128 = .ok (.aload_n 0, 1) := by decide +kernel
theorem dX12_variableOf_129 : decode cX12_variableOf 129 = .ok (.iconst 5, 1) := by decide +kernel
theorem dX12_variableOf_130 : decode cX12_variableOf 130 = .ok (.aload_n 0, 1) := by decide +kernel
theorem dX12_variableOf_131 : decode cX12_variableOf 131 = .ok (.getfield 227, 3) := by decide +kernel
theorem dX12_variableOf_134 : decode cX12_variableOf 134 = .ok (.invokevirtual 266, 3) := by decide +kernel
theorem dX12_variableOf_137 : decode cX12_variableOf 137 = .ok (.istore_n 1, 1) := by decide +kernel
theorem dX12_variableOf_138 : decode cX12_variableOf 138 = .ok (.iconst (-1), 1) := by decide +kernel
theorem dX12_variableOf_139 : decode cX12_variableOf 139 = .ok (.ireturn, 1) := by decide +kernel
theorem dX12_variableOf_140 : decode cX12_variableOf 140 = .ok (.iconst 0, 1) := by decide +kernel
theorem dX12_variableOf_141 : decode cX12_variableOf 141 = .ok (.istore_n 1, 1) := by decide +kernel
theorem dX12_variableOf_142 : decode cX12_variableOf 142 = .ok (.iload_n 1, 1) := by decide +kernel
theorem dX12_variableOf_143 : decode cX12_variableOf 143 = .ok (.aload_n 0, 1) := by decide +kernel
theorem dX12_variableOf_144 : decode cX12_variableOf 144 = .ok (.getfield 224, 3) := by decide +kernel
theorem dX12_variableOf_147 : decode cX12_variableOf 147 = .ok (.if_icmp .ge 34, 3) := by decide +kernel
theorem dX12_variableOf_150 : decode cX12_variableOf 150 = .ok (.aload_n 0, 1) := by decide +kernel
theorem dX12_variableOf_151 : decode cX12_variableOf 151 = .ok (.getfield 19, 3) := by decide +kernel
theorem dX12_variableOf_154 : decode cX12_variableOf 154 = .ok (.bipush 6, 2) := by decide +kernel
theorem dX12_variableOf_156 : decode cX12_variableOf 156 = .ok (.aload_n 0, 1) := by decide +kernel
theorem dX12_variableOf_157 : decode cX12_variableOf 157 = .ok (.getfield 280, 3) := by decide +kernel
theorem dX12_variableOf_160 : decode cX12_variableOf 160 = .ok (.imul, 1) := by decide +kernel
theorem dX12_variableOf_161 : decode cX12_variableOf 161 = .ok (.iload_n 1, 1) := by decide +kernel
theorem dX12_variableOf_162 : decode cX12_variableOf 162 = .ok (.iadd, 1) := by decide +kernel
theorem dX12_variableOf_163 : decode cX12_variableOf 163 = .ok (.aload_n 0, 1) := by decide +kernel
theorem dX12_variableOf_164 : decode cX12_variableOf 164 = .ok (.getfield 28, 3) := by decide +kernel
theorem dX12_variableOf_167 : decode cX12_variableOf 167 = .ok (.aload_n 0, 1) := by decide +kernel
theorem dX12_variableOf_168 : decode cX12_variableOf 168 = .ok (.getfield 227, 3) := by decide +kernel
theorem dX12_variableOf_171 : decode cX12_variableOf 171 = .ok (.iload_n 1, 1) := by decide +kernel
theorem dX12_variableOf_172 : decode cX12_variableOf 172 = .ok (.iadd, 1) := by decide +kernel
theorem dX12_variableOf_173 : decode cX12_variableOf 173 = .ok (.iaload, 1) := by decide +kernel
theorem dX12_variableOf_174 : decode cX12_variableOf 174 = .ok (.iastore, 1) := by decide +kernel
theorem dX12_variableOf_175 : decode cX12_variableOf 175 = .ok (.iinc 1 1, 3) := by decide +kernel
theorem dX12_variableOf_178 : decode cX12_variableOf 178 = .ok (.goto (-36), 3) := by decide +kernel
theorem dX12_variableOf_181 : decode cX12_variableOf 181 = .ok (.aload_n 0, 1) := by decide +kernel
theorem dX12_variableOf_182 : decode cX12_variableOf 182 = .ok (.getfield 22, 3) := by decide +kernel
theorem dX12_variableOf_185 : decode cX12_variableOf 185 = .ok (.aload_n 0, 1) := by decide +kernel
theorem dX12_variableOf_186 : decode cX12_variableOf 186 = .ok (.getfield 280, 3) := by decide +kernel
theorem dX12_variableOf_189 : decode cX12_variableOf 189 = .ok (.aload_n 0, 1) := by decide +kernel
theorem dX12_variableOf_190 : decode cX12_variableOf 190 = .ok (.getfield 224, 3) := by decide +kernel
theorem dX12_variableOf_193 : decode cX12_variableOf 193 = .ok (.iastore, 1) := by decide +kernel
theorem dX12_variableOf_194 : decode cX12_variableOf 194 = .ok (.aload_n 0, 1) := by decide +kernel
theorem dX12_variableOf_195 : decode cX12_variableOf 195 = .ok (.getfield 25, 3) := by decide +kernel
theorem dX12_variableOf_198 : decode cX12_variableOf 198 = .ok (.aload_n 0, 1) := by decide +kernel
theorem dX12_variableOf_199 : decode cX12_variableOf 199 = .ok (.getfield 280, 3) := by decide +kernel
theorem dX12_variableOf_202 : decode cX12_variableOf 202 = .ok (.aload_n 0, 1) := by decide +kernel
theorem dX12_variableOf_203 : decode cX12_variableOf 203 = .ok (.iconst 2, 1) := by decide +kernel
theorem dX12_variableOf_204 : decode cX12_variableOf 204 = .ok (.aload_n 0, 1) := by decide +kernel
theorem dX12_variableOf_205 : decode cX12_variableOf 205 = .ok (.getfield 280, 3) := by decide +kernel
theorem dX12_variableOf_208 : decode cX12_variableOf 208 = .ok (.iconst 0, 1) := by decide +kernel
theorem dX12_variableOf_209 : decode cX12_variableOf 209 = .ok (.invokevirtual 214, 3) := by decide +kernel
theorem dX12_variableOf_212 : decode cX12_variableOf 212 = .ok (.iastore, 1) := by decide +kernel
theorem dX12_variableOf_213 : decode cX12_variableOf 213 = .ok (.aload_n 0, 1) := by decide +kernel
theorem dX12_variableOf_214 : decode cX12_variableOf 214 = .ok (.dup, 1) := by decide +kernel
theorem dX12_variableOf_215 : decode cX12_variableOf 215 = .ok (.getfield 280, 3) := by decide +kernel
theorem dX12_variableOf_218 : decode cX12_variableOf 218 = .ok (.iconst 1, 1) := by decide +kernel
theorem dX12_variableOf_219 : decode cX12_variableOf 219 = .ok (.iadd, 1) := by decide +kernel
theorem dX12_variableOf_220 : decode cX12_variableOf 220 = .ok (.putfield 280, 3) := by decide +kernel
theorem dX12_variableOf_223 : decode cX12_variableOf 223 = .ok (.aload_n 0, 1) := by decide +kernel
theorem dX12_variableOf_224 : decode cX12_variableOf 224 = .ok (.getfield 204, 3) := by decide +kernel
theorem dX12_variableOf_227 : decode cX12_variableOf 227 = .ok (.iconst 1, 1) := by decide +kernel
theorem dX12_variableOf_228 : decode cX12_variableOf 228 = .ok (.isub, 1) := by decide +kernel
theorem dX12_variableOf_229 : decode cX12_variableOf 229 = .ok (.ireturn, 1) := by decide +kernel
theorem dX12_madeAt_0 : decode cX12_madeAt 0 = .ok (.aload_n 0, 1) := by decide +kernel
theorem dX12_madeAt_1 : decode cX12_madeAt 1 = .ok (.iload_n 1, 1) := by decide +kernel
theorem dX12_madeAt_2 : decode cX12_madeAt 2 = .ok (.iload_n 2, 1) := by decide +kernel
theorem dX12_madeAt_3 : decode cX12_madeAt 3 = .ok (.iload_n 3, 1) := by decide +kernel
theorem dX12_madeAt_4 : decode cX12_madeAt 4 = .ok (.invokevirtual 283, 3) := by decide +kernel
theorem dX12_madeAt_7 : decode cX12_madeAt 7 = .ok (.istore 5, 2) := by decide +kernel
theorem dX12_madeAt_9 : decode cX12_madeAt 9 = .ok (.iload 5, 2) := by decide +kernel
theorem dX12_madeAt_11 : decode cX12_madeAt 11 = .ok (.ifCond .ge 12, 3) := by decide +kernel
theorem dX12_madeAt_14 : decode cX12_madeAt 14 = .ok (.aload_n 0, 1) := by decide +kernel
theorem dX12_madeAt_15 : decode cX12_madeAt 15 = .ok (.iconst 5, 1) := by decide +kernel
theorem dX12_madeAt_16 : decode cX12_madeAt 16 = .ok (.iload 4, 2) := by decide +kernel
theorem dX12_madeAt_18 : decode cX12_madeAt 18 = .ok (.invokevirtual 266, 3) := by decide +kernel
theorem dX12_madeAt_21 : decode cX12_madeAt 21 = .ok (.istore 6, 2) := by decide +kernel
theorem dX12_madeAt_23 : decode cX12_madeAt 23 = .ok (.iload 5, 2) := by decide +kernel
theorem dX12_madeAt_25 : decode cX12_madeAt 25 = .ok (.ireturn, 1) := by decide +kernel
theorem dX12_beginNot_0 : decode cX12_beginNot 0 = .ok (.aload_n 0, 1) := by decide +kernel
theorem dX12_beginNot_1 : decode cX12_beginNot 1 = .ok (.invokevirtual 270, 3) := by decide +kernel
theorem dX12_beginNot_4 : decode cX12_beginNot 4 = .ok (.istore_n 2, 1) := by decide +kernel
theorem dX12_beginNot_5 : decode cX12_beginNot 5 = .ok (.aload_n 0, 1) := by decide +kernel
theorem dX12_beginNot_6 : decode cX12_beginNot 6 = .ok (.getfield 257, 3) := by decide +kernel
theorem dX12_beginNot_9 : decode cX12_beginNot 9 = .ok (.ifCond .eq 5, 3) := by decide +kernel
theorem dX12_beginNot_12 : decode cX12_beginNot 12 = .ok (.iconst (-1), 1) := by decide +kernel
theorem dX12_beginNot_13 : decode cX12_beginNot 13 = .ok (.ireturn, 1) := by decide +kernel
theorem dX12_beginNot_14 : decode cX12_beginNot 14 = .ok (.iload_n 2, 1) := by decide +kernel
theorem dX12_beginNot_15 : decode cX12_beginNot 15 = .ok (.bipush 126, 2) := by decide +kernel
theorem dX12_beginNot_17 : decode cX12_beginNot 17 = .ok (.if_icmp .ne 33, 3) := by decide +kernel
theorem dX12_beginNot_20 : decode cX12_beginNot 20 = .ok (.aload_n 0, 1) := by decide +kernel
theorem dX12_beginNot_21 : decode cX12_beginNot 21 = .ok (.getfield 54, 3) := by decide +kernel
theorem dX12_beginNot_24 : decode cX12_beginNot 24 = .ok (.iload_n 1, 1) := by decide +kernel
theorem dX12_beginNot_25 : decode cX12_beginNot 25 = .ok (.aload_n 0, 1) := by decide +kernel
theorem dX12_beginNot_26 : decode cX12_beginNot 26 = .ok (.getfield 227, 3) := by decide +kernel
theorem dX12_beginNot_29 : decode cX12_beginNot 29 = .ok (.iastore, 1) := by decide +kernel
theorem dX12_beginNot_30 : decode cX12_beginNot 30 = .ok (.aload_n 0, 1) := by decide +kernel
theorem dX12_beginNot_31 : decode cX12_beginNot 31 = .ok (.invokevirtual 286, 3) := by decide +kernel
theorem dX12_beginNot_34 : decode cX12_beginNot 34 = .ok (.ifCond .eq 111, 3) := by decide +kernel
theorem dX12_beginNot_37 : decode cX12_beginNot 37 = .ok (.aload_n 0, 1) := by decide +kernel
theorem dX12_beginNot_38 : decode cX12_beginNot 38 = .ok (.invokevirtual 274, 3) := by decide +kernel
theorem dX12_beginNot_41 : decode cX12_beginNot 41 = .ok (.aload_n 0, 1) := by decide +kernel
theorem dX12_beginNot_42 : decode cX12_beginNot 42 = .ok (.getfield 48, 3) := by decide +kernel
theorem dX12_beginNot_45 : decode cX12_beginNot 45 = .ok (.iload_n 1, 1) := by decide +kernel
theorem dX12_beginNot_46 : decode cX12_beginNot 46 = .ok (.iconst 1, 1) := by decide +kernel
theorem dX12_beginNot_47 : decode cX12_beginNot 47 = .ok (.iastore, 1) := by decide +kernel
theorem dX12_beginNot_48 : decode cX12_beginNot 48 = .ok (.iconst 4, 1) := by decide +kernel
theorem dX12_beginNot_49 : decode cX12_beginNot 49 = .ok (.ireturn, 1) := by decide +kernel
theorem dX12_beginNot_50 : decode cX12_beginNot 50 = .ok (.iload_n 2, 1) := by decide +kernel
theorem dX12_beginNot_51 : decode cX12_beginNot 51 = .ok (.bipush 40, 2) := by decide +kernel
theorem dX12_beginNot_53 : decode cX12_beginNot 53 = .ok (.if_icmp .ne 23, 3) := by decide +kernel
theorem dX12_beginNot_56 : decode cX12_beginNot 56 = .ok (.aload_n 0, 1) := by decide +kernel
theorem dX12_beginNot_57 : decode cX12_beginNot 57 = .ok (.invokevirtual 286, 3) := by decide +kernel
theorem dX12_beginNot_60 : decode cX12_beginNot 60 = .ok (.ifCond .eq 85, 3) := by decide +kernel
theorem dX12_beginNot_63 : decode cX12_beginNot 63 = .ok (.aload_n 0, 1) := by decide +kernel
theorem dX12_beginNot_64 : decode cX12_beginNot 64 = .ok (.invokevirtual 274, 3) := by decide +kernel
theorem dX12_beginNot_67 : decode cX12_beginNot 67 = .ok (.aload_n 0, 1) := by decide +kernel
theorem dX12_beginNot_68 : decode cX12_beginNot 68 = .ok (.getfield 48, 3) := by decide +kernel
theorem dX12_beginNot_71 : decode cX12_beginNot 71 = .ok (.iload_n 1, 1) := by decide +kernel
theorem dX12_beginNot_72 : decode cX12_beginNot 72 = .ok (.iconst 2, 1) := by decide +kernel
theorem dX12_beginNot_73 : decode cX12_beginNot 73 = .ok (.iastore, 1) := by decide +kernel
theorem dX12_beginNot_74 : decode cX12_beginNot 74 = .ok (.iconst 0, 1) := by decide +kernel
theorem dX12_beginNot_75 : decode cX12_beginNot 75 = .ok (.ireturn, 1) := by decide +kernel
theorem dX12_beginNot_76 : decode cX12_beginNot 76 = .ok (.iload_n 2, 1) := by decide +kernel
theorem dX12_beginNot_77 : decode cX12_beginNot 77 = .ok (.sipush 257, 3) := by decide +kernel
theorem dX12_beginNot_80 : decode cX12_beginNot 80 = .ok (.if_icmp .ne 18, 3) := by decide +kernel
theorem dX12_beginNot_83 : decode cX12_beginNot 83 = .ok (.aload_n 0, 1) := by decide +kernel
theorem dX12_beginNot_84 : decode cX12_beginNot 84 = .ok (.aload_n 0, 1) := by decide +kernel
theorem dX12_beginNot_85 : decode cX12_beginNot 85 = .ok (.invokevirtual 290, 3) := by decide +kernel
theorem dX12_beginNot_88 : decode cX12_beginNot 88 = .ok (.putfield 293, 3) := by decide +kernel
theorem dX12_beginNot_91 : decode cX12_beginNot 91 = .ok (.aload_n 0, 1) := by decide +kernel
theorem dX12_beginNot_92 : decode cX12_beginNot 92 = .ok (.invokevirtual 274, 3) := by decide +kernel
theorem dX12_beginNot_95 : decode cX12_beginNot 95 = .ok (.goto 50, 3) := by decide +kernel
theorem dX12_beginNot_98 : decode cX12_beginNot 98 = .ok (.iload_n 2, 1) := by decide +kernel
theorem dX12_beginNot_99 : decode cX12_beginNot 99 = .ok (.sipush 258, 3) := by decide +kernel
theorem dX12_beginNot_102 : decode cX12_beginNot 102 = .ok (.if_icmp .eq 10, 3) := by decide +kernel
theorem dX12_beginNot_105 : decode cX12_beginNot 105 = .ok (.iload_n 2, 1) := by decide +kernel
theorem dX12_beginNot_106 : decode cX12_beginNot 106 = .ok (.sipush 259, 3) := by decide +kernel
theorem dX12_beginNot_109 : decode cX12_beginNot 109 = .ok (.if_icmp .ne 26, 3) := by decide +kernel
theorem dX12_beginNot_112 : decode cX12_beginNot 112 = .ok (.aload_n 0, 1) := by decide +kernel
theorem dX12_beginNot_113 : decode cX12_beginNot 113 = .ok (.iload_n 2, 1) := by decide +kernel
theorem dX12_beginNot_114 : decode cX12_beginNot 114 = .ok (.sipush 258, 3) := by decide +kernel
theorem dX12_beginNot_117 : decode cX12_beginNot 117 = .ok (.if_icmp .ne 7, 3) := by decide +kernel
theorem dX12_beginNot_120 : decode cX12_beginNot 120 = .ok (.iconst 1, 1) := by decide +kernel
theorem dX12_beginNot_121 : decode cX12_beginNot 121 = .ok (.goto 4, 3) := by decide +kernel
theorem dX12_beginNot_124 : decode cX12_beginNot 124 = .ok (.iconst 0, 1) := by decide +kernel
theorem dX12_beginNot_125 : decode cX12_beginNot 125 = .ok (.putfield 293, 3) := by decide +kernel
theorem dX12_beginNot_128 : decode cX12_beginNot 128 = .ok (.aload_n 0, 1) := by decide +kernel
theorem dX12_beginNot_129 : decode cX12_beginNot 129 = .ok (.invokevirtual 274, 3) := by decide +kernel
theorem dX12_beginNot_132 : decode cX12_beginNot 132 = .ok (.goto 13, 3) := by decide +kernel
theorem dX12_beginNot_135 : decode cX12_beginNot 135 = .ok (.aload_n 0, 1) := by decide +kernel
theorem dX12_beginNot_136 : decode cX12_beginNot 136 = .ok (.iconst 2, 1) := by decide +kernel
theorem dX12_beginNot_137 : decode cX12_beginNot 137 = .ok (.aload_n 0, 1) := by decide +kernel
theorem dX12_beginNot_138 : decode cX12_beginNot 138 = .ok (.getfield 227, 3) := by decide +kernel
theorem dX12_beginNot_141 : decode cX12_beginNot 141 = .ok (.invokevirtual 266, 3) := by decide +kernel
theorem dX12_beginNot_144 : decode cX12_beginNot 144 = .ok (.istore_n 3, 1) := by decide +kernel
theorem dX12_beginNot_145 : decode cX12_beginNot 145 = .ok (.iconst (-1), 1) := by decide +kernel
theorem dX12_beginNot_146 : decode cX12_beginNot 146 = .ok (.ireturn, 1) := by decide +kernel
theorem dX12_goOn_0 : decode cX12_goOn 0 = .ok (.aload_n 0, 1) := by decide +kernel
theorem dX12_goOn_1 : decode cX12_goOn 1 = .ok (.getfield 293, 3) := by decide +kernel
theorem dX12_goOn_4 : decode cX12_goOn 4 = .ok (.istore_n 2, 1) := by decide +kernel
theorem dX12_goOn_5 : decode cX12_goOn 5 = .ok (.aload_n 0, 1) := by decide +kernel
theorem dX12_goOn_6 : decode cX12_goOn 6 = .ok (.getfield 45, 3) := by decide +kernel
theorem dX12_goOn_9 : decode cX12_goOn 9 = .ok (.iload_n 1, 1) := by decide +kernel
theorem dX12_goOn_10 : decode cX12_goOn 10 = .ok (.iaload, 1) := by decide +kernel
theorem dX12_goOn_11 : decode cX12_goOn 11 = .ok (.tableswitch 218 1 4 #[164, 126, 88, 29], 29) := by decide +kernel
theorem dX12_goOn_40 : decode cX12_goOn 40 = .ok (.aload_n 0, 1) := by decide +kernel
theorem dX12_goOn_41 : decode cX12_goOn 41 = .ok (.getfield 48, 3) := by decide +kernel
theorem dX12_goOn_44 : decode cX12_goOn 44 = .ok (.iload_n 1, 1) := by decide +kernel
theorem dX12_goOn_45 : decode cX12_goOn 45 = .ok (.iaload, 1) := by decide +kernel
theorem dX12_goOn_46 : decode cX12_goOn 46 = .ok (.iconst 1, 1) := by decide +kernel
theorem dX12_goOn_47 : decode cX12_goOn 47 = .ok (.if_icmp .ne 33, 3) := by decide +kernel
theorem dX12_goOn_50 : decode cX12_goOn 50 = .ok (.aload_n 0, 1) := by decide +kernel
theorem dX12_goOn_51 : decode cX12_goOn 51 = .ok (.dup, 1) := by decide +kernel
theorem dX12_goOn_52 : decode cX12_goOn 52 = .ok (.getfield 277, 3) := by decide +kernel
theorem dX12_goOn_55 : decode cX12_goOn 55 = .ok (.iconst 1, 1) := by decide +kernel
theorem dX12_goOn_56 : decode cX12_goOn 56 = .ok (.isub, 1) := by decide +kernel
theorem dX12_goOn_57 : decode cX12_goOn 57 = .ok (.putfield 277, 3) := by decide +kernel
theorem dX12_goOn_60 : decode cX12_goOn 60 = .ok (.aload_n 0, 1) := by decide +kernel
theorem dX12_goOn_61 : decode cX12_goOn 61 = .ok (.aload_n 0, 1) := by decide +kernel
theorem dX12_goOn_62 : decode cX12_goOn 62 = .ok (.iconst 5, 1) := by decide +kernel
theorem dX12_goOn_63 : decode cX12_goOn 63 = .ok (.iload_n 2, 1) := by decide +kernel
theorem dX12_goOn_64 : decode cX12_goOn 64 = .ok (.iconst 0, 1) := by decide +kernel
theorem dX12_goOn_65 : decode cX12_goOn 65 = .ok (.aload_n 0, 1) := by decide +kernel
theorem dX12_goOn_66 : decode cX12_goOn 66 = .ok (.getfield 54, 3) := by decide +kernel
theorem dX12_goOn_69 : decode cX12_goOn 69 = .ok (.iload_n 1, 1) := by decide +kernel
theorem dX12_goOn_70 : decode cX12_goOn 70 = .ok (.iaload, 1) := by decide +kernel
theorem dX12_goOn_71 : decode cX12_goOn 71 = .ok (.invokevirtual 296, 3) := by decide +kernel
theorem dX12_goOn_74 : decode cX12_goOn 74 = .ok (.putfield 293, 3) := by decide +kernel
theorem dX12_goOn_77 : decode cX12_goOn 77 = .ok (.goto 20, 3) := by decide +kernel
theorem dX12_goOn_80 : decode cX12_goOn 80 = .ok (.aload_n 0, 1) := by decide +kernel
theorem dX12_goOn_81 : decode cX12_goOn 81 = .ok (.bipush 41, 2) := by decide +kernel
theorem dX12_goOn_83 : decode cX12_goOn 83 = .ok (.invokevirtual 300, 3) := by decide +kernel
theorem dX12_goOn_86 : decode cX12_goOn 86 = .ok (.istore_n 3, 1) := by decide +kernel
theorem dX12_goOn_87 : decode cX12_goOn 87 = .ok (.aload_n 0, 1) := by decide +kernel
theorem dX12_goOn_88 : decode cX12_goOn 88 = .ok (.dup, 1) := by decide +kernel
theorem dX12_goOn_89 : decode cX12_goOn 89 = .ok (.getfield 277, 3) := by decide +kernel
theorem dX12_goOn_92 : decode cX12_goOn 92 = .ok (.iconst 1, 1) := by decide +kernel
theorem dX12_goOn_93 : decode cX12_goOn 93 = .ok (.isub, 1) := by decide +kernel
theorem dX12_goOn_94 : decode cX12_goOn 94 = .ok (.putfield 277, 3) := by decide +kernel
theorem dX12_goOn_97 : decode cX12_goOn 97 = .ok (.iconst (-1), 1) := by decide +kernel
theorem dX12_goOn_98 : decode cX12_goOn 98 = .ok (.ireturn, 1) := by decide +kernel
theorem dX12_goOn_99 : decode cX12_goOn 99 = .ok (.aload_n 0, 1) := by decide +kernel
theorem dX12_goOn_100 : decode cX12_goOn 100 = .ok (.getfield 48, 3) := by decide +kernel
theorem dX12_goOn_103 : decode cX12_goOn 103 = .ok (.iload_n 1, 1) := by decide +kernel
theorem dX12_goOn_104 : decode cX12_goOn 104 = .ok (.iaload, 1) := by decide +kernel
theorem dX12_goOn_105 : decode cX12_goOn 105 = .ok (.iconst 1, 1) := by decide +kernel
theorem dX12_goOn_106 : decode cX12_goOn 106 = .ok (.if_icmp .ne 22, 3) := by decide +kernel
theorem dX12_goOn_109 : decode cX12_goOn 109 = .ok (.aload_n 0, 1) := by decide +kernel
theorem dX12_goOn_110 : decode cX12_goOn 110 = .ok (.iconst 3, 1) := by decide +kernel
theorem dX12_goOn_111 : decode cX12_goOn 111 = .ok (.aload_n 0, 1) := by decide +kernel
theorem dX12_goOn_112 : decode cX12_goOn 112 = .ok (.getfield 51, 3) := by decide +kernel
theorem dX12_goOn_115 : decode cX12_goOn 115 = .ok (.iload_n 1, 1) := by decide +kernel
theorem dX12_goOn_116 : decode cX12_goOn 116 = .ok (.iaload, 1) := by decide +kernel
theorem dX12_goOn_117 : decode cX12_goOn 117 = .ok (.iload_n 2, 1) := by decide +kernel
theorem dX12_goOn_118 : decode cX12_goOn 118 = .ok (.aload_n 0, 1) := by decide +kernel
theorem dX12_goOn_119 : decode cX12_goOn 119 = .ok (.getfield 54, 3) := by decide +kernel
theorem dX12_goOn_122 : decode cX12_goOn 122 = .ok (.iload_n 1, 1) := by decide +kernel
theorem dX12_goOn_123 : decode cX12_goOn 123 = .ok (.iaload, 1) := by decide +kernel
theorem dX12_goOn_124 : decode cX12_goOn 124 = .ok (.invokevirtual 296, 3) := by decide +kernel
theorem dX12_goOn_127 : decode cX12_goOn 127 = .ok (.istore_n 2, 1) := by decide +kernel
theorem dX12_goOn_128 : decode cX12_goOn 128 = .ok (.aload_n 0, 1) := by decide +kernel
theorem dX12_goOn_129 : decode cX12_goOn 129 = .ok (.iload_n 1, 1) := by decide +kernel
theorem dX12_goOn_130 : decode cX12_goOn 130 = .ok (.iload_n 2, 1) := by decide +kernel
theorem dX12_goOn_131 : decode cX12_goOn 131 = .ok (.bipush 38, 2) := by decide +kernel
theorem dX12_goOn_133 : decode cX12_goOn 133 = .ok (.invokevirtual 303, 3) := by decide +kernel
theorem dX12_goOn_136 : decode cX12_goOn 136 = .ok (.ireturn, 1) := by decide +kernel
theorem dX12_goOn_137 : decode cX12_goOn 137 = .ok (.aload_n 0, 1) := by decide +kernel
theorem dX12_goOn_138 : decode cX12_goOn 138 = .ok (.getfield 48, 3) := by decide +kernel
theorem dX12_goOn_141 : decode cX12_goOn 141 = .ok (.iload_n 1, 1) := by decide +kernel
theorem dX12_goOn_142 : decode cX12_goOn 142 = .ok (.iaload, 1) := by decide +kernel
theorem dX12_goOn_143 : decode cX12_goOn 143 = .ok (.iconst 1, 1) := by decide +kernel
theorem dX12_goOn_144 : decode cX12_goOn 144 = .ok (.if_icmp .ne 22, 3) := by decide +kernel
theorem dX12_goOn_147 : decode cX12_goOn 147 = .ok (.aload_n 0, 1) := by decide +kernel
theorem dX12_goOn_148 : decode cX12_goOn 148 = .ok (.iconst 4, 1) := by decide +kernel
theorem dX12_goOn_149 : decode cX12_goOn 149 = .ok (.aload_n 0, 1) := by decide +kernel
theorem dX12_goOn_150 : decode cX12_goOn 150 = .ok (.getfield 51, 3) := by decide +kernel
theorem dX12_goOn_153 : decode cX12_goOn 153 = .ok (.iload_n 1, 1) := by decide +kernel
theorem dX12_goOn_154 : decode cX12_goOn 154 = .ok (.iaload, 1) := by decide +kernel
theorem dX12_goOn_155 : decode cX12_goOn 155 = .ok (.iload_n 2, 1) := by decide +kernel
theorem dX12_goOn_156 : decode cX12_goOn 156 = .ok (.aload_n 0, 1) := by decide +kernel
theorem dX12_goOn_157 : decode cX12_goOn 157 = .ok (.getfield 54, 3) := by decide +kernel
theorem dX12_goOn_160 : decode cX12_goOn 160 = .ok (.iload_n 1, 1) := by decide +kernel
theorem dX12_goOn_161 : decode cX12_goOn 161 = .ok (.iaload, 1) := by decide +kernel
theorem dX12_goOn_162 : decode cX12_goOn 162 = .ok (.invokevirtual 296, 3) := by decide +kernel
theorem dX12_goOn_165 : decode cX12_goOn 165 = .ok (.istore_n 2, 1) := by decide +kernel
theorem dX12_goOn_166 : decode cX12_goOn 166 = .ok (.aload_n 0, 1) := by decide +kernel
theorem dX12_goOn_167 : decode cX12_goOn 167 = .ok (.iload_n 1, 1) := by decide +kernel
theorem dX12_goOn_168 : decode cX12_goOn 168 = .ok (.iload_n 2, 1) := by decide +kernel
theorem dX12_goOn_169 : decode cX12_goOn 169 = .ok (.bipush 124, 2) := by decide +kernel
theorem dX12_goOn_171 : decode cX12_goOn 171 = .ok (.invokevirtual 303, 3) := by decide +kernel
theorem dX12_goOn_174 : decode cX12_goOn 174 = .ok (.ireturn, 1) := by decide +kernel
theorem dX12_goOn_175 : decode cX12_goOn 175 = .ok (.aload_n 0, 1) := by decide +kernel
theorem dX12_goOn_176 : decode cX12_goOn 176 = .ok (.getfield 48, 3) := by decide +kernel
theorem dX12_goOn_179 : decode cX12_goOn 179 = .ok (.iload_n 1, 1) := by decide +kernel
theorem dX12_goOn_180 : decode cX12_goOn 180 = .ok (.iaload, 1) := by decide +kernel
theorem dX12_goOn_181 : decode cX12_goOn 181 = .ok (.iconst 1, 1) := by decide +kernel
theorem dX12_goOn_182 : decode cX12_goOn 182 = .ok (.if_icmp .ne 37, 3) := by decide +kernel
theorem dX12_goOn_185 : decode cX12_goOn 185 = .ok (.aload_n 0, 1) := by decide +kernel
theorem dX12_goOn_186 : decode cX12_goOn 186 = .ok (.dup, 1) := by decide +kernel
theorem dX12_goOn_187 : decode cX12_goOn 187 = .ok (.getfield 277, 3) := by decide +kernel
theorem dX12_goOn_190 : decode cX12_goOn 190 = .ok (.iconst 1, 1) := by decide +kernel
theorem dX12_goOn_191 : decode cX12_goOn 191 = .ok (.isub, 1) := by decide +kernel
theorem dX12_goOn_192 : decode cX12_goOn 192 = .ok (.putfield 277, 3) := by decide +kernel
theorem dX12_goOn_195 : decode cX12_goOn 195 = .ok (.aload_n 0, 1) := by decide +kernel
theorem dX12_goOn_196 : decode cX12_goOn 196 = .ok (.aload_n 0, 1) := by decide +kernel
theorem dX12_goOn_197 : decode cX12_goOn 197 = .ok (.iconst 5, 1) := by decide +kernel
theorem dX12_goOn_198 : decode cX12_goOn 198 = .ok (.aload_n 0, 1) := by decide +kernel
theorem dX12_goOn_199 : decode cX12_goOn 199 = .ok (.getfield 51, 3) := by decide +kernel
theorem dX12_goOn_202 : decode cX12_goOn 202 = .ok (.iload_n 1, 1) := by decide +kernel
theorem dX12_goOn_203 : decode cX12_goOn 203 = .ok (.iaload, 1) := by decide +kernel
theorem dX12_goOn_204 : decode cX12_goOn 204 = .ok (.iload_n 2, 1) := by decide +kernel
theorem dX12_goOn_205 : decode cX12_goOn 205 = .ok (.aload_n 0, 1) := by decide +kernel
theorem dX12_goOn_206 : decode cX12_goOn 206 = .ok (.getfield 54, 3) := by decide +kernel
theorem dX12_goOn_209 : decode cX12_goOn 209 = .ok (.iload_n 1, 1) := by decide +kernel
theorem dX12_goOn_210 : decode cX12_goOn 210 = .ok (.iaload, 1) := by decide +kernel
theorem dX12_goOn_211 : decode cX12_goOn 211 = .ok (.invokevirtual 296, 3) := by decide +kernel
theorem dX12_goOn_214 : decode cX12_goOn 214 = .ok (.putfield 293, 3) := by decide +kernel
theorem dX12_goOn_217 : decode cX12_goOn 217 = .ok (.iconst (-1), 1) := by decide +kernel
theorem dX12_goOn_218 : decode cX12_goOn 218 = .ok (.ireturn, 1) := by decide +kernel
theorem dX12_goOn_219 : decode cX12_goOn 219 = .ok (.aload_n 0, 1) := by decide +kernel
theorem dX12_goOn_220 : decode cX12_goOn 220 = .ok (.iload_n 1, 1) := by decide +kernel
theorem dX12_goOn_221 : decode cX12_goOn 221 = .ok (.iload_n 2, 1) := by decide +kernel
theorem dX12_goOn_222 : decode cX12_goOn 222 = .ok (.sipush 260, 3) := by decide +kernel
theorem dX12_goOn_225 : decode cX12_goOn 225 = .ok (.invokevirtual 306, 3) := by decide +kernel
theorem dX12_goOn_228 : decode cX12_goOn 228 = .ok (.ireturn, 1) := by decide +kernel
theorem dX12_goOn_229 : decode cX12_goOn 229 = .ok (.aload_n 0, 1) := by decide +kernel
theorem dX12_goOn_230 : decode cX12_goOn 230 = .ok (.getfield 48, 3) := by decide +kernel
theorem dX12_goOn_233 : decode cX12_goOn 233 = .ok (.iload_n 1, 1) := by decide +kernel
theorem dX12_goOn_234 : decode cX12_goOn 234 = .ok (.iaload, 1) := by decide +kernel
theorem dX12_goOn_235 : decode cX12_goOn 235 = .ok (.iconst 1, 1) := by decide +kernel
theorem dX12_goOn_236 : decode cX12_goOn 236 = .ok (.if_icmp .ne 94, 3) := by decide +kernel
theorem dX12_goOn_239 : decode cX12_goOn 239 = .ok (.aload_n 0, 1) := by decide +kernel
theorem dX12_goOn_240 : decode cX12_goOn 240 = .ok (.dup, 1) := by decide +kernel
theorem dX12_goOn_241 : decode cX12_goOn 241 = .ok (.getfield 277, 3) := by decide +kernel
theorem dX12_goOn_244 : decode cX12_goOn 244 = .ok (.iconst 1, 1) := by decide +kernel
theorem dX12_goOn_245 : decode cX12_goOn 245 = .ok (.isub, 1) := by decide +kernel
theorem dX12_goOn_246 : decode cX12_goOn 246 = .ok (.putfield 277, 3) := by decide +kernel
theorem dX12_goOn_249 : decode cX12_goOn 249 = .ok (.aload_n 0, 1) := by decide +kernel
theorem dX12_goOn_250 : decode cX12_goOn 250 = .ok (.iconst 5, 1) := by decide +kernel
theorem dX12_goOn_251 : decode cX12_goOn 251 = .ok (.aload_n 0, 1) := by decide +kernel
theorem dX12_goOn_252 : decode cX12_goOn 252 = .ok (.getfield 51, 3) := by decide +kernel
theorem dX12_goOn_255 : decode cX12_goOn 255 = .ok (.iload_n 1, 1) := by decide +kernel
theorem dX12_goOn_256 : decode cX12_goOn 256 = .ok (.iaload, 1) := by decide +kernel
theorem dX12_goOn_257 : decode cX12_goOn 257 = .ok (.iload_n 2, 1) := by decide +kernel
theorem dX12_goOn_258 : decode cX12_goOn 258 = .ok (.aload_n 0, 1) := by decide +kernel
theorem dX12_goOn_259 : decode cX12_goOn 259 = .ok (.getfield 54, 3) := by decide +kernel
theorem dX12_goOn_262 : decode cX12_goOn 262 = .ok (.iload_n 1, 1) := by decide +kernel
theorem dX12_goOn_263 : decode cX12_goOn 263 = .ok (.iaload, 1) := by decide +kernel
theorem dX12_goOn_264 : decode cX12_goOn 264 = .ok (.invokevirtual 296, 3) := by decide +kernel
theorem dX12_goOn_267 : decode cX12_goOn 267 = .ok (.istore_n 3, 1) := by decide +kernel
theorem dX12_goOn_268 : decode cX12_goOn 268 = .ok (.aload_n 0, 1) := by decide +kernel
theorem dX12_goOn_269 : decode cX12_goOn 269 = .ok (.getfield 257, 3) := by decide +kernel
theorem dX12_goOn_272 : decode cX12_goOn 272 = .ok (.ifCond .ne 24, 3) := by decide +kernel
theorem dX12_goOn_275 : decode cX12_goOn 275 = .ok (.aload_n 0, 1) := by decide +kernel
theorem dX12_goOn_276 : decode cX12_goOn 276 = .ok (.iconst 5, 1) := by decide +kernel
theorem dX12_goOn_277 : decode cX12_goOn 277 = .ok (.iload_n 2, 1) := by decide +kernel
theorem dX12_goOn_278 : decode cX12_goOn 278 = .ok (.aload_n 0, 1) := by decide +kernel
theorem dX12_goOn_279 : decode cX12_goOn 279 = .ok (.getfield 51, 3) := by decide +kernel
theorem dX12_goOn_282 : decode cX12_goOn 282 = .ok (.iload_n 1, 1) := by decide +kernel
theorem dX12_goOn_283 : decode cX12_goOn 283 = .ok (.iaload, 1) := by decide +kernel
theorem dX12_goOn_284 : decode cX12_goOn 284 = .ok (.aload_n 0, 1) := by decide +kernel
theorem dX12_goOn_285 : decode cX12_goOn 285 = .ok (.getfield 54, 3) := by decide +kernel
theorem dX12_goOn_288 : decode cX12_goOn 288 = .ok (.iload_n 1, 1) := by decide +kernel
theorem dX12_goOn_289 : decode cX12_goOn 289 = .ok (.iaload, 1) := by decide +kernel
theorem dX12_goOn_290 : decode cX12_goOn 290 = .ok (.invokevirtual 296, 3) := by decide +kernel
theorem dX12_goOn_293 : decode cX12_goOn 293 = .ok (.goto 4, 3) := by decide +kernel
theorem dX12_goOn_296 : decode cX12_goOn 296 = .ok (.iconst (-1), 1) := by decide +kernel
theorem dX12_goOn_297 : decode cX12_goOn 297 = .ok (.istore 4, 2) := by decide +kernel
theorem dX12_goOn_299 : decode cX12_goOn 299 = .ok (.aload_n 0, 1) := by decide +kernel
theorem dX12_goOn_300 : decode cX12_goOn 300 = .ok (.aload_n 0, 1) := by decide +kernel
theorem dX12_goOn_301 : decode cX12_goOn 301 = .ok (.getfield 257, 3) := by decide +kernel
theorem dX12_goOn_304 : decode cX12_goOn 304 = .ok (.ifCond .ne 20, 3) := by decide +kernel
theorem dX12_goOn_307 : decode cX12_goOn 307 = .ok (.aload_n 0, 1) := by decide +kernel
theorem dX12_goOn_308 : decode cX12_goOn 308 = .ok (.iconst 3, 1) := by decide +kernel
theorem dX12_goOn_309 : decode cX12_goOn 309 = .ok (.iload_n 3, 1) := by decide +kernel
theorem dX12_goOn_310 : decode cX12_goOn 310 = .ok (.iload 4, 2) := by decide +kernel
theorem dX12_goOn_312 : decode cX12_goOn 312 = .ok (.aload_n 0, 1) := by decide +kernel
theorem dX12_goOn_313 : decode cX12_goOn 313 = .ok (.getfield 54, 3) := by decide +kernel
theorem dX12_goOn_316 : decode cX12_goOn 316 = .ok (.iload_n 1, 1) := by decide +kernel
theorem dX12_goOn_317 : decode cX12_goOn 317 = .ok (.iaload, 1) := by decide +kernel
theorem dX12_goOn_318 : decode cX12_goOn 318 = .ok (.invokevirtual 296, 3) := by decide +kernel
theorem dX12_goOn_321 : decode cX12_goOn 321 = .ok (.goto 4, 3) := by decide +kernel
theorem dX12_goOn_324 : decode cX12_goOn 324 = .ok (.iconst (-1), 1) := by decide +kernel
theorem dX12_goOn_325 : decode cX12_goOn 325 = .ok (.putfield 293, 3) := by decide +kernel
theorem dX12_goOn_328 : decode cX12_goOn 328 = .ok (.iconst (-1), 1) := by decide +kernel
theorem dX12_goOn_329 : decode cX12_goOn 329 = .ok (.ireturn, 1) := by decide +kernel
theorem dX12_goOn_330 : decode cX12_goOn 330 = .ok (.aload_n 0, 1) := by decide +kernel
theorem dX12_goOn_331 : decode cX12_goOn 331 = .ok (.iload_n 1, 1) := by decide +kernel
theorem dX12_goOn_332 : decode cX12_goOn 332 = .ok (.iload_n 2, 1) := by decide +kernel
theorem dX12_goOn_333 : decode cX12_goOn 333 = .ok (.sipush 261, 3) := by decide +kernel
theorem dX12_goOn_336 : decode cX12_goOn 336 = .ok (.invokevirtual 306, 3) := by decide +kernel
theorem dX12_goOn_339 : decode cX12_goOn 339 = .ok (.ireturn, 1) := by decide +kernel
theorem dX12_series_0 : decode cX12_series 0 = .ok (.aload_n 0, 1) := by decide +kernel
theorem dX12_series_1 : decode cX12_series 1 = .ok (.iload_n 2, 1) := by decide +kernel
theorem dX12_series_2 : decode cX12_series 2 = .ok (.putfield 293, 3) := by decide +kernel
theorem dX12_series_5 : decode cX12_series 5 = .ok (.aload_n 0, 1) := by decide +kernel
theorem dX12_series_6 : decode cX12_series 6 = .ok (.getfield 257, 3) := by decide +kernel
theorem dX12_series_9 : decode cX12_series 9 = .ok (.ifCond .ne 11, 3) := by decide +kernel
theorem dX12_series_12 : decode cX12_series 12 = .ok (.aload_n 0, 1) := by decide +kernel
theorem dX12_series_13 : decode cX12_series 13 = .ok (.invokevirtual 270, 3) := by decide +kernel
theorem dX12_series_16 : decode cX12_series 16 = .ok (.iload_n 3, 1) := by decide +kernel
theorem dX12_series_17 : decode cX12_series 17 = .ok (.if_icmp .eq 5, 3) := by decide +kernel
theorem dX12_series_20 : decode cX12_series 20 = .ok (.iconst (-1), 1) := by decide +kernel
theorem dX12_series_21 : decode cX12_series 21 = .ok (.ireturn, 1) := by decide +kernel
theorem dX12_series_22 : decode cX12_series 22 = .ok (.aload_n 0, 1) := by decide +kernel
theorem dX12_series_23 : decode cX12_series 23 = .ok (.getfield 51, 3) := by decide +kernel
theorem dX12_series_26 : decode cX12_series 26 = .ok (.iload_n 1, 1) := by decide +kernel
theorem dX12_series_27 : decode cX12_series 27 = .ok (.iload_n 2, 1) := by decide +kernel
theorem dX12_series_28 : decode cX12_series 28 = .ok (.iastore, 1) := by decide +kernel
theorem dX12_series_29 : decode cX12_series 29 = .ok (.aload_n 0, 1) := by decide +kernel
theorem dX12_series_30 : decode cX12_series 30 = .ok (.getfield 54, 3) := by decide +kernel
theorem dX12_series_33 : decode cX12_series 33 = .ok (.iload_n 1, 1) := by decide +kernel
theorem dX12_series_34 : decode cX12_series 34 = .ok (.aload_n 0, 1) := by decide +kernel
theorem dX12_series_35 : decode cX12_series 35 = .ok (.getfield 227, 3) := by decide +kernel
theorem dX12_series_38 : decode cX12_series 38 = .ok (.iastore, 1) := by decide +kernel
theorem dX12_series_39 : decode cX12_series 39 = .ok (.aload_n 0, 1) := by decide +kernel
theorem dX12_series_40 : decode cX12_series 40 = .ok (.getfield 48, 3) := by decide +kernel
theorem dX12_series_43 : decode cX12_series 43 = .ok (.iload_n 1, 1) := by decide +kernel
theorem dX12_series_44 : decode cX12_series 44 = .ok (.iconst 1, 1) := by decide +kernel
theorem dX12_series_45 : decode cX12_series 45 = .ok (.iastore, 1) := by decide +kernel
theorem dX12_series_46 : decode cX12_series 46 = .ok (.aload_n 0, 1) := by decide +kernel
theorem dX12_series_47 : decode cX12_series 47 = .ok (.invokevirtual 274, 3) := by decide +kernel
theorem dX12_series_50 : decode cX12_series 50 = .ok (.aload_n 0, 1) := by decide +kernel
theorem dX12_series_51 : decode cX12_series 51 = .ok (.getfield 45, 3) := by decide +kernel
theorem dX12_series_54 : decode cX12_series 54 = .ok (.iload_n 1, 1) := by decide +kernel
theorem dX12_series_55 : decode cX12_series 55 = .ok (.iaload, 1) := by decide +kernel
theorem dX12_series_56 : decode cX12_series 56 = .ok (.iconst 1, 1) := by decide +kernel
theorem dX12_series_57 : decode cX12_series 57 = .ok (.iadd, 1) := by decide +kernel
theorem dX12_series_58 : decode cX12_series 58 = .ok (.ireturn, 1) := by decide +kernel
theorem dX12_arrow_0 : decode cX12_arrow 0 = .ok (.aload_n 0, 1) := by decide +kernel
theorem dX12_arrow_1 : decode cX12_arrow 1 = .ok (.iload_n 2, 1) := by decide +kernel
theorem dX12_arrow_2 : decode cX12_arrow 2 = .ok (.putfield 293, 3) := by decide +kernel
theorem dX12_arrow_5 : decode cX12_arrow 5 = .ok (.aload_n 0, 1) := by decide +kernel
theorem dX12_arrow_6 : decode cX12_arrow 6 = .ok (.invokevirtual 270, 3) := by decide +kernel
theorem dX12_arrow_9 : decode cX12_arrow 9 = .ok (.iload_n 3, 1) := by decide +kernel
theorem dX12_arrow_10 : decode cX12_arrow 10 = .ok (.if_icmp .ne 10, 3) := by decide +kernel
theorem dX12_arrow_13 : decode cX12_arrow 13 = .ok (.aload_n 0, 1) := by decide +kernel
theorem dX12_arrow_14 : decode cX12_arrow 14 = .ok (.invokevirtual 286, 3) := by decide +kernel
theorem dX12_arrow_17 : decode cX12_arrow 17 = .ok (.ifCond .ne 5, 3) := by decide +kernel
theorem dX12_arrow_20 : decode cX12_arrow 20 = .ok (.iconst (-1), 1) := by decide +kernel
theorem dX12_arrow_21 : decode cX12_arrow 21 = .ok (.ireturn, 1) := by decide +kernel
theorem dX12_arrow_22 : decode cX12_arrow 22 = .ok (.aload_n 0, 1) := by decide +kernel
theorem dX12_arrow_23 : decode cX12_arrow 23 = .ok (.getfield 51, 3) := by decide +kernel
theorem dX12_arrow_26 : decode cX12_arrow 26 = .ok (.iload_n 1, 1) := by decide +kernel
theorem dX12_arrow_27 : decode cX12_arrow 27 = .ok (.iload_n 2, 1) := by decide +kernel
theorem dX12_arrow_28 : decode cX12_arrow 28 = .ok (.iastore, 1) := by decide +kernel
theorem dX12_arrow_29 : decode cX12_arrow 29 = .ok (.aload_n 0, 1) := by decide +kernel
theorem dX12_arrow_30 : decode cX12_arrow 30 = .ok (.getfield 54, 3) := by decide +kernel
theorem dX12_arrow_33 : decode cX12_arrow 33 = .ok (.iload_n 1, 1) := by decide +kernel
theorem dX12_arrow_34 : decode cX12_arrow 34 = .ok (.aload_n 0, 1) := by decide +kernel
theorem dX12_arrow_35 : decode cX12_arrow 35 = .ok (.getfield 227, 3) := by decide +kernel
theorem dX12_arrow_38 : decode cX12_arrow 38 = .ok (.iastore, 1) := by decide +kernel
theorem dX12_arrow_39 : decode cX12_arrow 39 = .ok (.aload_n 0, 1) := by decide +kernel
theorem dX12_arrow_40 : decode cX12_arrow 40 = .ok (.getfield 48, 3) := by decide +kernel
theorem dX12_arrow_43 : decode cX12_arrow 43 = .ok (.iload_n 1, 1) := by decide +kernel
theorem dX12_arrow_44 : decode cX12_arrow 44 = .ok (.iconst 1, 1) := by decide +kernel
theorem dX12_arrow_45 : decode cX12_arrow 45 = .ok (.iastore, 1) := by decide +kernel
theorem dX12_arrow_46 : decode cX12_arrow 46 = .ok (.aload_n 0, 1) := by decide +kernel
theorem dX12_arrow_47 : decode cX12_arrow 47 = .ok (.invokevirtual 274, 3) := by decide +kernel
theorem dX12_arrow_50 : decode cX12_arrow 50 = .ok (.iconst 1, 1) := by decide +kernel
theorem dX12_arrow_51 : decode cX12_arrow 51 = .ok (.ireturn, 1) := by decide +kernel
theorem dX12_readFormula_0 : decode cX12_readFormula 0 = .ok (.iconst 0, 1) := by decide +kernel
theorem dX12_readFormula_1 : decode cX12_readFormula 1 = .ok (.istore_n 1, 1) := by decide +kernel
theorem dX12_readFormula_2 : decode cX12_readFormula 2 = .ok (.aload_n 0, 1) := by decide +kernel
theorem dX12_readFormula_3 : decode cX12_readFormula 3 = .ok (.getfield 45, 3) := by decide +kernel
theorem dX12_readFormula_6 : decode cX12_readFormula 6 = .ok (.iconst 0, 1) := by decide +kernel
theorem dX12_readFormula_7 : decode cX12_readFormula 7 = .ok (.iconst 0, 1) := by decide +kernel
theorem dX12_readFormula_8 : decode cX12_readFormula 8 = .ok (.iastore, 1) := by decide +kernel
theorem dX12_readFormula_9 : decode cX12_readFormula 9 = .ok (.aload_n 0, 1) := by decide +kernel
theorem dX12_readFormula_10 : decode cX12_readFormula 10 = .ok (.getfield 48, 3) := by decide +kernel
theorem dX12_readFormula_13 : decode cX12_readFormula 13 = .ok (.iconst 0, 1) := by decide +kernel
theorem dX12_readFormula_14 : decode cX12_readFormula 14 = .ok (.iconst 0, 1) := by decide +kernel
theorem dX12_readFormula_15 : decode cX12_readFormula 15 = .ok (.iastore, 1) := by decide +kernel
theorem dX12_readFormula_16 : decode cX12_readFormula 16 = .ok (.iconst 1, 1) := by decide +kernel
theorem dX12_readFormula_17 : decode cX12_readFormula 17 = .ok (.istore_n 2, 1) := by decide +kernel
theorem dX12_readFormula_18 : decode cX12_readFormula 18 = .ok (.iconst 1, 1) := by decide +kernel
theorem dX12_readFormula_19 : decode cX12_readFormula 19 = .ok (.istore_n 1, 1) := by decide +kernel
theorem dX12_readFormula_20 : decode cX12_readFormula 20 = .ok (.aload_n 0, 1) := by decide +kernel
theorem dX12_readFormula_21 : decode cX12_readFormula 21 = .ok (.getfield 45, 3) := by decide +kernel
theorem dX12_readFormula_24 : decode cX12_readFormula 24 = .ok (.iconst 1, 1) := by decide +kernel
theorem dX12_readFormula_25 : decode cX12_readFormula 25 = .ok (.iconst 1, 1) := by decide +kernel
theorem dX12_readFormula_26 : decode cX12_readFormula 26 = .ok (.iastore, 1) := by decide +kernel
theorem dX12_readFormula_27 : decode cX12_readFormula 27 = .ok (.aload_n 0, 1) := by decide +kernel
theorem dX12_readFormula_28 : decode cX12_readFormula 28 = .ok (.getfield 48, 3) := by decide +kernel
theorem dX12_readFormula_31 : decode cX12_readFormula 31 = .ok (.iconst 1, 1) := by decide +kernel
theorem dX12_readFormula_32 : decode cX12_readFormula 32 = .ok (.iconst 0, 1) := by decide +kernel
theorem dX12_readFormula_33 : decode cX12_readFormula 33 = .ok (.iastore, 1) := by decide +kernel
theorem dX12_readFormula_34 : decode cX12_readFormula 34 = .ok (.iload_n 1, 1) := by decide +kernel
theorem dX12_readFormula_35 : decode cX12_readFormula 35 = .ok (.ifCond .lt 128, 3) := by decide +kernel
theorem dX12_readFormula_38 : decode cX12_readFormula 38 = .ok (.aload_n 0, 1) := by decide +kernel
theorem dX12_readFormula_39 : decode cX12_readFormula 39 = .ok (.getfield 257, 3) := by decide +kernel
theorem dX12_readFormula_42 : decode cX12_readFormula 42 = .ok (.ifCond .ne 121, 3) := by decide +kernel
theorem dX12_readFormula_45 : decode cX12_readFormula 45 = .ok (.aload_n 0, 1) := by decide +kernel
theorem dX12_readFormula_46 : decode cX12_readFormula 46 = .ok (.getfield 45, 3) := by decide +kernel
theorem dX12_readFormula_49 : decode cX12_readFormula 49 = .ok (.iload_n 1, 1) := by decide +kernel
theorem dX12_readFormula_50 : decode cX12_readFormula 50 = .ok (.iaload, 1) := by decide +kernel
theorem dX12_readFormula_51 : decode cX12_readFormula 51 = .ok (.iconst 4, 1) := by decide +kernel
theorem dX12_readFormula_52 : decode cX12_readFormula 52 = .ok (.if_icmp .ge 34, 3) := by decide +kernel
theorem dX12_readFormula_55 : decode cX12_readFormula 55 = .ok (.aload_n 0, 1) := by decide +kernel
theorem dX12_readFormula_56 : decode cX12_readFormula 56 = .ok (.getfield 45, 3) := by decide +kernel
theorem dX12_readFormula_59 : decode cX12_readFormula 59 = .ok (.iload_n 1, 1) := by decide +kernel
theorem dX12_readFormula_60 : decode cX12_readFormula 60 = .ok (.iconst 1, 1) := by decide +kernel
theorem dX12_readFormula_61 : decode cX12_readFormula 61 = .ok (.iadd, 1) := by decide +kernel
theorem dX12_readFormula_62 : decode cX12_readFormula 62 = .ok (.aload_n 0, 1) := by decide +kernel
theorem dX12_readFormula_63 : decode cX12_readFormula 63 = .ok (.getfield 45, 3) := by decide +kernel
theorem dX12_readFormula_66 : decode cX12_readFormula 66 = .ok (.iload_n 1, 1) := by decide +kernel
theorem dX12_readFormula_67 : decode cX12_readFormula 67 = .ok (.iaload, 1) := by decide +kernel
theorem dX12_readFormula_68 : decode cX12_readFormula 68 = .ok (.iconst 1, 1) := by decide +kernel
theorem dX12_readFormula_69 : decode cX12_readFormula 69 = .ok (.iadd, 1) := by decide +kernel
theorem dX12_readFormula_70 : decode cX12_readFormula 70 = .ok (.iastore, 1) := by decide +kernel
theorem dX12_readFormula_71 : decode cX12_readFormula 71 = .ok (.aload_n 0, 1) := by decide +kernel
theorem dX12_readFormula_72 : decode cX12_readFormula 72 = .ok (.getfield 48, 3) := by decide +kernel
theorem dX12_readFormula_75 : decode cX12_readFormula 75 = .ok (.iload_n 1, 1) := by decide +kernel
theorem dX12_readFormula_76 : decode cX12_readFormula 76 = .ok (.iconst 1, 1) := by decide +kernel
theorem dX12_readFormula_77 : decode cX12_readFormula 77 = .ok (.iadd, 1) := by decide +kernel
theorem dX12_readFormula_78 : decode cX12_readFormula 78 = .ok (.iconst 0, 1) := by decide +kernel
theorem dX12_readFormula_79 : decode cX12_readFormula 79 = .ok (.iastore, 1) := by decide +kernel
theorem dX12_readFormula_80 : decode cX12_readFormula 80 = .ok (.iinc 1 1, 3) := by decide +kernel
theorem dX12_readFormula_83 : decode cX12_readFormula 83 = .ok (.goto (-38), 3) := by decide +kernel
theorem dX12_readFormula_86 : decode cX12_readFormula 86 = .ok (.aload_n 0, 1) := by decide +kernel
theorem dX12_readFormula_87 : decode cX12_readFormula 87 = .ok (.iload_n 1, 1) := by decide +kernel
theorem dX12_readFormula_88 : decode cX12_readFormula 88 = .ok (.invokevirtual 309, 3) := by decide +kernel
theorem dX12_readFormula_91 : decode cX12_readFormula 91 = .ok (.istore_n 2, 1) := by decide +kernel
theorem dX12_readFormula_92 : decode cX12_readFormula 92 = .ok (.iload_n 2, 1) := by decide +kernel
theorem dX12_readFormula_93 : decode cX12_readFormula 93 = .ok (.ifCond .ge 26, 3) := by decide +kernel
theorem dX12_readFormula_96 : decode cX12_readFormula 96 = .ok (.iload_n 1, 1) := by decide +kernel
theorem dX12_readFormula_97 : decode cX12_readFormula 97 = .ok (.ifCond .le 22, 3) := by decide +kernel
theorem dX12_readFormula_100 : decode cX12_readFormula 100 = .ok (.aload_n 0, 1) := by decide +kernel
theorem dX12_readFormula_101 : decode cX12_readFormula 101 = .ok (.getfield 257, 3) := by decide +kernel
theorem dX12_readFormula_104 : decode cX12_readFormula 104 = .ok (.ifCond .ne 15, 3) := by decide +kernel
theorem dX12_readFormula_107 : decode cX12_readFormula 107 = .ok (.iinc 1 (-1), 3) := by decide +kernel
theorem dX12_readFormula_110 : decode cX12_readFormula 110 = .ok (.aload_n 0, 1) := by decide +kernel
theorem dX12_readFormula_111 : decode cX12_readFormula 111 = .ok (.iload_n 1, 1) := by decide +kernel
theorem dX12_readFormula_112 : decode cX12_readFormula 112 = .ok (.invokevirtual 312, 3) := by decide +kernel
theorem dX12_readFormula_115 : decode cX12_readFormula 115 = .ok (.istore_n 2, 1) := by decide +kernel
theorem dX12_readFormula_116 : decode cX12_readFormula 116 = .ok (.goto (-24), 3) := by decide +kernel
theorem dX12_readFormula_119 : decode cX12_readFormula 119 = .ok (.iload_n 2, 1) := by decide +kernel
theorem dX12_readFormula_120 : decode cX12_readFormula 120 = .ok (.ifCond .ge 19, 3) := by decide +kernel
theorem dX12_readFormula_123 : decode cX12_readFormula 123 = .ok (.aload_n 0, 1) := by decide +kernel
theorem dX12_readFormula_124 : decode cX12_readFormula 124 = .ok (.getfield 257, 3) := by decide +kernel
theorem dX12_readFormula_127 : decode cX12_readFormula 127 = .ok (.ifCond .ne 10, 3) := by decide +kernel
theorem dX12_readFormula_130 : decode cX12_readFormula 130 = .ok (.aload_n 0, 1) := by decide +kernel
theorem dX12_readFormula_131 : decode cX12_readFormula 131 = .ok (.getfield 293, 3) := by decide +kernel
theorem dX12_readFormula_134 : decode cX12_readFormula 134 = .ok (.goto 4, 3) := by decide +kernel
theorem dX12_readFormula_137 : decode cX12_readFormula 137 = .ok (.iconst (-1), 1) := by decide +kernel
theorem dX12_readFormula_138 : decode cX12_readFormula 138 = .ok (.ireturn, 1) := by decide +kernel
theorem dX12_readFormula_139 : decode cX12_readFormula 139 = .ok (.aload_n 0, 1) := by decide +kernel
theorem dX12_readFormula_140 : decode cX12_readFormula 140 = .ok (.getfield 45, 3) := by decide +kernel
theorem dX12_readFormula_143 : decode cX12_readFormula 143 = .ok (.iload_n 1, 1) := by decide +kernel
theorem dX12_readFormula_144 : decode cX12_readFormula 144 = .ok (.iconst 1, 1) := by decide +kernel
theorem dX12_readFormula_145 : decode cX12_readFormula 145 = .ok (.iadd, 1) := by decide +kernel
theorem dX12_readFormula_146 : decode cX12_readFormula 146 = .ok (.iload_n 2, 1) := by decide +kernel
theorem dX12_readFormula_147 : decode cX12_readFormula 147 = .ok (.iastore, 1) := by decide +kernel
theorem dX12_readFormula_148 : decode cX12_readFormula 148 = .ok (.aload_n 0, 1) := by decide +kernel
theorem dX12_readFormula_149 : decode cX12_readFormula 149 = .ok (.getfield 48, 3) := by decide +kernel
theorem dX12_readFormula_152 : decode cX12_readFormula 152 = .ok (.iload_n 1, 1) := by decide +kernel
theorem dX12_readFormula_153 : decode cX12_readFormula 153 = .ok (.iconst 1, 1) := by decide +kernel
theorem dX12_readFormula_154 : decode cX12_readFormula 154 = .ok (.iadd, 1) := by decide +kernel
theorem dX12_readFormula_155 : decode cX12_readFormula 155 = .ok (.iconst 0, 1) := by decide +kernel
theorem dX12_readFormula_156 : decode cX12_readFormula 156 = .ok (.iastore, 1) := by decide +kernel
theorem dX12_readFormula_157 : decode cX12_readFormula 157 = .ok (.iinc 1 1, 3) := by decide +kernel
theorem dX12_readFormula_160 : decode cX12_readFormula 160 = .ok (.goto (-126), 3) := by decide +kernel
theorem dX12_readFormula_163 : decode cX12_readFormula 163 = .ok (.iconst (-1), 1) := by decide +kernel
theorem dX12_readFormula_164 : decode cX12_readFormula 164 = .ok (.ireturn, 1) := by decide +kernel
theorem dX12_term_0 : decode cX12_term 0 = .ok (.aload_n 0, 1) := by decide +kernel
theorem dX12_term_1 : decode cX12_term 1 = .ok (.getfield 58, 3) := by decide +kernel
theorem dX12_term_4 : decode cX12_term 4 = .ok (.aload_n 0, 1) := by decide +kernel
theorem dX12_term_5 : decode cX12_term 5 = .ok (.getfield 315, 3) := by decide +kernel
theorem dX12_term_8 : decode cX12_term 8 = .ok (.iload_n 1, 1) := by decide +kernel
theorem dX12_term_9 : decode cX12_term 9 = .ok (.iastore, 1) := by decide +kernel
theorem dX12_term_10 : decode cX12_term 10 = .ok (.aload_n 0, 1) := by decide +kernel
theorem dX12_term_11 : decode cX12_term 11 = .ok (.getfield 61, 3) := by decide +kernel
theorem dX12_term_14 : decode cX12_term 14 = .ok (.aload_n 0, 1) := by decide +kernel
theorem dX12_term_15 : decode cX12_term 15 = .ok (.getfield 315, 3) := by decide +kernel
theorem dX12_term_18 : decode cX12_term 18 = .ok (.iload_n 2, 1) := by decide +kernel
theorem dX12_term_19 : decode cX12_term 19 = .ok (.iastore, 1) := by decide +kernel
theorem dX12_term_20 : decode cX12_term 20 = .ok (.aload_n 0, 1) := by decide +kernel
theorem dX12_term_21 : decode cX12_term 21 = .ok (.getfield 64, 3) := by decide +kernel
theorem dX12_term_24 : decode cX12_term 24 = .ok (.aload_n 0, 1) := by decide +kernel
theorem dX12_term_25 : decode cX12_term 25 = .ok (.getfield 315, 3) := by decide +kernel
theorem dX12_term_28 : decode cX12_term 28 = .ok (.iload_n 3, 1) := by decide +kernel
theorem dX12_term_29 : decode cX12_term 29 = .ok (.iastore, 1) := by decide +kernel
theorem dX12_term_30 : decode cX12_term 30 = .ok (.aload_n 0, 1) := by decide +kernel
theorem dX12_term_31 : decode cX12_term 31 = .ok (.getfield 67, 3) := by decide +kernel
theorem dX12_term_34 : decode cX12_term 34 = .ok (.aload_n 0, 1) := by decide +kernel
theorem dX12_term_35 : decode cX12_term 35 = .ok (.getfield 315, 3) := by decide +kernel
theorem dX12_term_38 : decode cX12_term 38 = .ok (.iload 4, 2) := by decide +kernel
theorem dX12_term_40 : decode cX12_term 40 = .ok (.iastore, 1) := by decide +kernel
theorem dX12_term_41 : decode cX12_term 41 = .ok (.aload_n 0, 1) := by decide +kernel
theorem dX12_term_42 : decode cX12_term 42 = .ok (.getfield 70, 3) := by decide +kernel
theorem dX12_term_45 : decode cX12_term 45 = .ok (.aload_n 0, 1) := by decide +kernel
theorem dX12_term_46 : decode cX12_term 46 = .ok (.getfield 315, 3) := by decide +kernel
theorem dX12_term_49 : decode cX12_term 49 = .ok (.iload 5, 2) := by decide +kernel
theorem dX12_term_51 : decode cX12_term 51 = .ok (.iastore, 1) := by decide +kernel
theorem dX12_term_52 : decode cX12_term 52 = .ok (.aload_n 0, 1) := by decide +kernel
theorem dX12_term_53 : decode cX12_term 53 = .ok (.dup, 1) := by decide +kernel
theorem dX12_term_54 : decode cX12_term 54 = .ok (.getfield 315, 3) := by decide +kernel
theorem dX12_term_57 : decode cX12_term 57 = .ok (.iconst 1, 1) := by decide +kernel
theorem dX12_term_58 : decode cX12_term 58 = .ok (.iadd, 1) := by decide +kernel
theorem dX12_term_59 : decode cX12_term 59 = .ok (.putfield 315, 3) := by decide +kernel
theorem dX12_term_62 : decode cX12_term 62 = .ok (.aload_n 0, 1) := by decide +kernel
theorem dX12_term_63 : decode cX12_term 63 = .ok (.getfield 315, 3) := by decide +kernel
theorem dX12_term_66 : decode cX12_term 66 = .ok (.iconst 1, 1) := by decide +kernel
theorem dX12_term_67 : decode cX12_term 67 = .ok (.isub, 1) := by decide +kernel
theorem dX12_term_68 : decode cX12_term 68 = .ok (.ireturn, 1) := by decide +kernel
theorem dX12_hypothesis_0 : decode cX12_hypothesis 0 = .ok (.aload_n 0, 1) := by decide +kernel
theorem dX12_hypothesis_1 : decode cX12_hypothesis 1 = .ok (.bipush 72, 2) := by decide +kernel
theorem dX12_hypothesis_3 : decode cX12_hypothesis 3 = .ok (.iload_n 1, 1) := by decide +kernel
theorem dX12_hypothesis_4 : decode cX12_hypothesis 4 = .ok (.iconst (-1), 1) := by decide +kernel
theorem dX12_hypothesis_5 : decode cX12_hypothesis 5 = .ok (.iconst (-1), 1) := by decide +kernel
theorem dX12_hypothesis_6 : decode cX12_hypothesis 6 = .ok (.iconst (-1), 1) := by decide +kernel
theorem dX12_hypothesis_7 : decode cX12_hypothesis 7 = .ok (.invokevirtual 318, 3) := by decide +kernel
theorem dX12_hypothesis_10 : decode cX12_hypothesis 10 = .ok (.ireturn, 1) := by decide +kernel
theorem dX12_newWorld_0 : decode cX12_newWorld 0 = .ok (.aload_n 0, 1) := by decide +kernel
theorem dX12_newWorld_1 : decode cX12_newWorld 1 = .ok (.getfield 322, 3) := by decide +kernel
theorem dX12_newWorld_4 : decode cX12_newWorld 4 = .ok (.istore_n 2, 1) := by decide +kernel
theorem dX12_newWorld_5 : decode cX12_newWorld 5 = .ok (.aload_n 0, 1) := by decide +kernel
theorem dX12_newWorld_6 : decode cX12_newWorld 6 = .ok (.dup, 1) := by decide +kernel
theorem dX12_newWorld_7 : decode cX12_newWorld 7 = .ok (.getfield 322, 3) := by decide +kernel
theorem dX12_newWorld_10 : decode cX12_newWorld 10 = .ok (.iconst 1, 1) := by decide +kernel
theorem dX12_newWorld_11 : decode cX12_newWorld 11 = .ok (.iadd, 1) := by decide +kernel
theorem dX12_newWorld_12 : decode cX12_newWorld 12 = .ok (.putfield 322, 3) := by decide +kernel
theorem dX12_newWorld_15 : decode cX12_newWorld 15 = .ok (.aload_n 0, 1) := by decide +kernel
theorem dX12_newWorld_16 : decode cX12_newWorld 16 = .ok (.getfield 106, 3) := by decide +kernel
theorem dX12_newWorld_19 : decode cX12_newWorld 19 = .ok (.iload_n 2, 1) := by decide +kernel
theorem dX12_newWorld_20 : decode cX12_newWorld 20 = .ok (.iconst (-1), 1) := by decide +kernel
theorem dX12_newWorld_21 : decode cX12_newWorld 21 = .ok (.iastore, 1) := by decide +kernel
theorem dX12_newWorld_22 : decode cX12_newWorld 22 = .ok (.aload_n 0, 1) := by decide +kernel
theorem dX12_newWorld_23 : decode cX12_newWorld 23 = .ok (.getfield 109, 3) := by decide +kernel
theorem dX12_newWorld_26 : decode cX12_newWorld 26 = .ok (.iload_n 2, 1) := by decide +kernel
theorem dX12_newWorld_27 : decode cX12_newWorld 27 = .ok (.iconst (-1), 1) := by decide +kernel
theorem dX12_newWorld_28 : decode cX12_newWorld 28 = .ok (.iastore, 1) := by decide +kernel
theorem dX12_newWorld_29 : decode cX12_newWorld 29 = .ok (.aload_n 0, 1) := by decide +kernel
theorem dX12_newWorld_30 : decode cX12_newWorld 30 = .ok (.getfield 112, 3) := by decide +kernel
theorem dX12_newWorld_33 : decode cX12_newWorld 33 = .ok (.iload_n 2, 1) := by decide +kernel
theorem dX12_newWorld_34 : decode cX12_newWorld 34 = .ok (.iconst (-1), 1) := by decide +kernel
theorem dX12_newWorld_35 : decode cX12_newWorld 35 = .ok (.iastore, 1) := by decide +kernel
theorem dX12_newWorld_36 : decode cX12_newWorld 36 = .ok (.aload_n 0, 1) := by decide +kernel
theorem dX12_newWorld_37 : decode cX12_newWorld 37 = .ok (.getfield 115, 3) := by decide +kernel
theorem dX12_newWorld_40 : decode cX12_newWorld 40 = .ok (.iload_n 2, 1) := by decide +kernel
theorem dX12_newWorld_41 : decode cX12_newWorld 41 = .ok (.iconst 0, 1) := by decide +kernel
theorem dX12_newWorld_42 : decode cX12_newWorld 42 = .ok (.iastore, 1) := by decide +kernel
theorem dX12_newWorld_43 : decode cX12_newWorld 43 = .ok (.iconst 0, 1) := by decide +kernel
theorem dX12_newWorld_44 : decode cX12_newWorld 44 = .ok (.istore_n 3, 1) := by decide +kernel
theorem dX12_newWorld_45 : decode cX12_newWorld 45 = .ok (.iload_n 3, 1) := by decide +kernel
theorem dX12_newWorld_46 : decode cX12_newWorld 46 = .ok (.aload_n 0, 1) := by decide +kernel
theorem dX12_newWorld_47 : decode cX12_newWorld 47 = .ok (.getfield 82, 3) := by decide +kernel
theorem dX12_newWorld_50 : decode cX12_newWorld 50 = .ok (.iload_n 1, 1) := by decide +kernel
theorem dX12_newWorld_51 : decode cX12_newWorld 51 = .ok (.iaload, 1) := by decide +kernel
theorem dX12_newWorld_52 : decode cX12_newWorld 52 = .ok (.if_icmp .ge 55, 3) := by decide +kernel
theorem dX12_newWorld_55 : decode cX12_newWorld 55 = .ok (.aload_n 0, 1) := by decide +kernel
theorem dX12_newWorld_56 : decode cX12_newWorld 56 = .ok (.getfield 73, 3) := by decide +kernel
theorem dX12_newWorld_59 : decode cX12_newWorld 59 = .ok (.bipush 60, 2) := by decide +kernel
theorem dX12_newWorld_61 : decode cX12_newWorld 61 = .ok (.iload_n 1, 1) := by decide +kernel
theorem dX12_newWorld_62 : decode cX12_newWorld 62 = .ok (.imul, 1) := by decide +kernel
theorem dX12_newWorld_63 : decode cX12_newWorld 63 = .ok (.iload_n 3, 1) := by decide +kernel
theorem dX12_newWorld_64 : decode cX12_newWorld 64 = .ok (.iadd, 1) := by decide +kernel
theorem dX12_newWorld_65 : decode cX12_newWorld 65 = .ok (.iaload, 1) := by decide +kernel
theorem dX12_newWorld_66 : decode cX12_newWorld 66 = .ok (.istore 4, 2) := by decide +kernel
theorem dX12_newWorld_68 : decode cX12_newWorld 68 = .ok (.aload_n 0, 1) := by decide +kernel
theorem dX12_newWorld_69 : decode cX12_newWorld 69 = .ok (.getfield 115, 3) := by decide +kernel
theorem dX12_newWorld_72 : decode cX12_newWorld 72 = .ok (.iload_n 2, 1) := by decide +kernel
theorem dX12_newWorld_73 : decode cX12_newWorld 73 = .ok (.dup2, 1) := by decide +kernel
theorem dX12_newWorld_74 : decode cX12_newWorld 74 = .ok (.iaload, 1) := by decide +kernel
theorem dX12_newWorld_75 : decode cX12_newWorld 75 = .ok (.aload_n 0, 1) := by decide +kernel
theorem dX12_newWorld_76 : decode cX12_newWorld 76 = .ok (.getfield 7, 3) := by decide +kernel
theorem dX12_newWorld_79 : decode cX12_newWorld 79 = .ok (.iload 4, 2) := by decide +kernel
theorem dX12_newWorld_81 : decode cX12_newWorld 81 = .ok (.iaload, 1) := by decide +kernel
theorem dX12_newWorld_82 : decode cX12_newWorld 82 = .ok (.iconst 2, 1) := by decide +kernel
theorem dX12_newWorld_83 : decode cX12_newWorld 83 = .ok (.if_icmp .ne 15, 3) := by decide +kernel
theorem dX12_newWorld_86 : decode cX12_newWorld 86 = .ok (.iconst 1, 1) := by decide +kernel
theorem dX12_newWorld_87 : decode cX12_newWorld 87 = .ok (.aload_n 0, 1) := by decide +kernel
theorem dX12_newWorld_88 : decode cX12_newWorld 88 = .ok (.getfield 13, 3) := by decide +kernel
theorem dX12_newWorld_91 : decode cX12_newWorld 91 = .ok (.iload 4, 2) := by decide +kernel
theorem dX12_newWorld_93 : decode cX12_newWorld 93 = .ok (.iaload, 1) := by decide +kernel
theorem dX12_newWorld_94 : decode cX12_newWorld 94 = .ok (.ishl, 1) := by decide +kernel
theorem dX12_newWorld_95 : decode cX12_newWorld 95 = .ok (.goto 4, 3) := by decide +kernel
theorem dX12_newWorld_98 : decode cX12_newWorld 98 = .ok (.iconst 0, 1) := by decide +kernel
theorem dX12_newWorld_99 : decode cX12_newWorld 99 = .ok (.ior, 1) := by decide +kernel
theorem dX12_newWorld_100 : decode cX12_newWorld 100 = .ok (.iastore, 1) := by decide +kernel
theorem dX12_newWorld_101 : decode cX12_newWorld 101 = .ok (.iinc 3 1, 3) := by decide +kernel
theorem dX12_newWorld_104 : decode cX12_newWorld 104 = .ok (.goto (-59), 3) := by decide +kernel
theorem dX12_newWorld_107 : decode cX12_newWorld 107 = .ok (.iload_n 2, 1) := by decide +kernel
theorem dX12_newWorld_108 : decode cX12_newWorld 108 = .ok (.ireturn, 1) := by decide +kernel
theorem dX12_addChild_0 : decode cX12_addChild 0 = .ok (.aload_n 0, 1) := by decide +kernel
theorem dX12_addChild_1 : decode cX12_addChild 1 = .ok (.getfield 106, 3) := by decide +kernel
theorem dX12_addChild_4 : decode cX12_addChild 4 = .ok (.iload_n 1, 1) := by decide +kernel
theorem dX12_addChild_5 : decode cX12_addChild 5 = .ok (.iaload, 1) := by decide +kernel
theorem dX12_addChild_6 : decode cX12_addChild 6 = .ok (.ifCond .ge 13, 3) := by decide +kernel
theorem dX12_addChild_9 : decode cX12_addChild 9 = .ok (.aload_n 0, 1) := by decide +kernel
theorem dX12_addChild_10 : decode cX12_addChild 10 = .ok (.getfield 106, 3) := by decide +kernel
theorem dX12_addChild_13 : decode cX12_addChild 13 = .ok (.iload_n 1, 1) := by decide +kernel
theorem dX12_addChild_14 : decode cX12_addChild 14 = .ok (.iload_n 2, 1) := by decide +kernel
theorem dX12_addChild_15 : decode cX12_addChild 15 = .ok (.iastore, 1) := by decide +kernel
theorem dX12_addChild_16 : decode cX12_addChild 16 = .ok (.goto 15, 3) := by decide +kernel
theorem dX12_addChild_19 : decode cX12_addChild 19 = .ok (.aload_n 0, 1) := by decide +kernel
theorem dX12_addChild_20 : decode cX12_addChild 20 = .ok (.getfield 112, 3) := by decide +kernel
theorem dX12_addChild_23 : decode cX12_addChild 23 = .ok (.aload_n 0, 1) := by decide +kernel
theorem dX12_addChild_24 : decode cX12_addChild 24 = .ok (.getfield 109, 3) := by decide +kernel
theorem dX12_addChild_27 : decode cX12_addChild 27 = .ok (.iload_n 1, 1) := by decide +kernel
theorem dX12_addChild_28 : decode cX12_addChild 28 = .ok (.iaload, 1) := by decide +kernel
theorem dX12_addChild_29 : decode cX12_addChild 29 = .ok (.iload_n 2, 1) := by decide +kernel
theorem dX12_addChild_30 : decode cX12_addChild 30 = .ok (.iastore, 1) := by decide +kernel
theorem dX12_addChild_31 : decode cX12_addChild 31 = .ok (.aload_n 0, 1) := by decide +kernel
theorem dX12_addChild_32 : decode cX12_addChild 32 = .ok (.getfield 109, 3) := by decide +kernel
theorem dX12_addChild_35 : decode cX12_addChild 35 = .ok (.iload_n 1, 1) := by decide +kernel
theorem dX12_addChild_36 : decode cX12_addChild 36 = .ok (.iload_n 2, 1) := by decide +kernel
theorem dX12_addChild_37 : decode cX12_addChild 37 = .ok (.iastore, 1) := by decide +kernel
theorem dX12_addChild_38 : decode cX12_addChild 38 = .ok (.return_, 1) := by decide +kernel
theorem dX12_findLeft_0 : decode cX12_findLeft 0 = .ok (.iconst 0, 1) := by decide +kernel
theorem dX12_findLeft_1 : decode cX12_findLeft 1 = .ok (.istore_n 3, 1) := by decide +kernel
theorem dX12_findLeft_2 : decode cX12_findLeft 2 = .ok (.iload_n 3, 1) := by decide +kernel
theorem dX12_findLeft_3 : decode cX12_findLeft 3 = .ok (.aload_n 0, 1) := by decide +kernel
theorem dX12_findLeft_4 : decode cX12_findLeft 4 = .ok (.getfield 82, 3) := by decide +kernel
theorem dX12_findLeft_7 : decode cX12_findLeft 7 = .ok (.iload_n 1, 1) := by decide +kernel
theorem dX12_findLeft_8 : decode cX12_findLeft 8 = .ok (.iaload, 1) := by decide +kernel
theorem dX12_findLeft_9 : decode cX12_findLeft 9 = .ok (.if_icmp .ge 24, 3) := by decide +kernel
theorem dX12_findLeft_12 : decode cX12_findLeft 12 = .ok (.aload_n 0, 1) := by decide +kernel
theorem dX12_findLeft_13 : decode cX12_findLeft 13 = .ok (.getfield 73, 3) := by decide +kernel
theorem dX12_findLeft_16 : decode cX12_findLeft 16 = .ok (.bipush 60, 2) := by decide +kernel
theorem dX12_findLeft_18 : decode cX12_findLeft 18 = .ok (.iload_n 1, 1) := by decide +kernel
theorem dX12_findLeft_19 : decode cX12_findLeft 19 = .ok (.imul, 1) := by decide +kernel
theorem dX12_findLeft_20 : decode cX12_findLeft 20 = .ok (.iload_n 3, 1) := by decide +kernel
theorem dX12_findLeft_21 : decode cX12_findLeft 21 = .ok (.iadd, 1) := by decide +kernel
theorem dX12_findLeft_22 : decode cX12_findLeft 22 = .ok (.iaload, 1) := by decide +kernel
theorem dX12_findLeft_23 : decode cX12_findLeft 23 = .ok (.iload_n 2, 1) := by decide +kernel
theorem dX12_findLeft_24 : decode cX12_findLeft 24 = .ok (.if_icmp .eq 9, 3) := by decide +kernel
theorem dX12_findLeft_27 : decode cX12_findLeft 27 = .ok (.iinc 3 1, 3) := by decide +kernel
theorem dX12_findLeft_30 : decode cX12_findLeft 30 = .ok (.goto (-28), 3) := by decide +kernel
theorem dX12_findLeft_33 : decode cX12_findLeft 33 = .ok (.iload_n 3, 1) := by decide +kernel
theorem dX12_findLeft_34 : decode cX12_findLeft 34 = .ok (.aload_n 0, 1) := by decide +kernel
theorem dX12_findLeft_35 : decode cX12_findLeft 35 = .ok (.getfield 82, 3) := by decide +kernel
theorem dX12_findLeft_38 : decode cX12_findLeft 38 = .ok (.iload_n 1, 1) := by decide +kernel
theorem dX12_findLeft_39 : decode cX12_findLeft 39 = .ok (.iaload, 1) := by decide +kernel
theorem dX12_findLeft_40 : decode cX12_findLeft 40 = .ok (.if_icmp .ge 7, 3) := by decide +kernel
theorem dX12_findLeft_43 : decode cX12_findLeft 43 = .ok (.iload_n 3, 1) := by decide +kernel
theorem dX12_findLeft_44 : decode cX12_findLeft 44 = .ok (.goto 4, 3) := by decide +kernel
theorem dX12_findLeft_47 : decode cX12_findLeft 47 = .ok (.iconst (-1), 1) := by decide +kernel
theorem dX12_findLeft_48 : decode cX12_findLeft 48 = .ok (.ireturn, 1) := by decide +kernel
theorem dX12_comes_0 : decode cX12_comes 0 = .ok (.iload_n 2, 1) := by decide +kernel
theorem dX12_comes_1 : decode cX12_comes 1 = .ok (.ifCond .ge 11, 3) := by decide +kernel
theorem dX12_comes_4 : decode cX12_comes 4 = .ok (.aload_n 0, 1) := by decide +kernel
theorem dX12_comes_5 : decode cX12_comes 5 = .ok (.bipush (-7), 2) := by decide +kernel
theorem dX12_comes_7 : decode cX12_comes 7 = .ok (.putfield 325, 3) := by decide +kernel
theorem dX12_comes_10 : decode cX12_comes 10 = .ok (.iconst 0, 1) := by decide +kernel
theorem dX12_comes_11 : decode cX12_comes 11 = .ok (.ireturn, 1) := by decide +kernel
theorem dX12_comes_12 : decode cX12_comes 12 = .ok (.aload_n 0, 1) := by decide +kernel
theorem dX12_comes_13 : decode cX12_comes 13 = .ok (.iload_n 1, 1) := by decide +kernel
theorem dX12_comes_14 : decode cX12_comes 14 = .ok (.iload_n 2, 1) := by decide +kernel
theorem dX12_comes_15 : decode cX12_comes 15 = .ok (.invokevirtual 328, 3) := by decide +kernel
theorem dX12_comes_18 : decode cX12_comes 18 = .ok (.ifCond .lt 5, 3) := by decide +kernel
theorem dX12_comes_21 : decode cX12_comes 21 = .ok (.iconst 1, 1) := by decide +kernel
theorem dX12_comes_22 : decode cX12_comes 22 = .ok (.ireturn, 1) := by decide +kernel
theorem dX12_comes_23 : decode cX12_comes 23 = .ok (.aload_n 0, 1) := by decide +kernel
theorem dX12_comes_24 : decode cX12_comes 24 = .ok (.getfield 82, 3) := by decide +kernel
theorem dX12_comes_27 : decode cX12_comes 27 = .ok (.iload_n 1, 1) := by decide +kernel
theorem dX12_comes_28 : decode cX12_comes 28 = .ok (.iaload, 1) := by decide +kernel
theorem dX12_comes_29 : decode cX12_comes 29 = .ok (.bipush 60, 2) := by decide +kernel
theorem dX12_comes_31 : decode cX12_comes 31 = .ok (.if_icmp .ne 11, 3) := by decide +kernel
theorem dX12_comes_34 : decode cX12_comes 34 = .ok (.aload_n 0, 1) := by decide +kernel
theorem dX12_comes_35 : decode cX12_comes 35 = .ok (.bipush (-7), 2) := by decide +kernel
theorem dX12_comes_37 : decode cX12_comes 37 = .ok (.putfield 325, 3) := by decide +kernel
theorem dX12_comes_40 : decode cX12_comes 40 = .ok (.iconst 0, 1) := by decide +kernel
theorem dX12_comes_41 : decode cX12_comes 41 = .ok (.ireturn, 1) := by decide +kernel
theorem dX12_comes_42 : decode cX12_comes 42 = .ok (.bipush 60, 2) := by decide +kernel
theorem dX12_comes_44 : decode cX12_comes 44 = .ok (.iload_n 1, 1) := by decide +kernel
theorem dX12_comes_45 : decode cX12_comes 45 = .ok (.imul, 1) := by decide +kernel
theorem dX12_comes_46 : decode cX12_comes 46 = .ok (.aload_n 0, 1) := by decide +kernel
theorem dX12_comes_47 : decode cX12_comes 47 = .ok (.getfield 82, 3) := by decide +kernel
theorem dX12_comes_50 : decode cX12_comes 50 = .ok (.iload_n 1, 1) := by decide +kernel
theorem dX12_comes_51 : decode cX12_comes 51 = .ok (.iaload, 1) := by decide +kernel
theorem dX12_comes_52 : decode cX12_comes 52 = .ok (.iadd, 1) := by decide +kernel
theorem dX12_comes_53 : decode cX12_comes 53 = .ok (.istore 5, 2) := by decide +kernel
theorem dX12_comes_55 : decode cX12_comes 55 = .ok (.aload_n 0, 1) := by decide +kernel
theorem dX12_comes_56 : decode cX12_comes 56 = .ok (.getfield 73, 3) := by decide +kernel
theorem dX12_comes_59 : decode cX12_comes 59 = .ok (.iload 5, 2) := by decide +kernel
theorem dX12_comes_61 : decode cX12_comes 61 = .ok (.iload_n 2, 1) := by decide +kernel
theorem dX12_comes_62 : decode cX12_comes 62 = .ok (.iastore, 1) := by decide +kernel
theorem dX12_comes_63 : decode cX12_comes 63 = .ok (.aload_n 0, 1) := by decide +kernel
theorem dX12_comes_64 : decode cX12_comes 64 = .ok (.getfield 76, 3) := by decide +kernel
theorem dX12_comes_67 : decode cX12_comes 67 = .ok (.iload 5, 2) := by decide +kernel
theorem dX12_comes_69 : decode cX12_comes 69 = .ok (.iload_n 3, 1) := by decide +kernel
theorem dX12_comes_70 : decode cX12_comes 70 = .ok (.iastore, 1) := by decide +kernel
theorem dX12_comes_71 : decode cX12_comes 71 = .ok (.aload_n 0, 1) := by decide +kernel
theorem dX12_comes_72 : decode cX12_comes 72 = .ok (.getfield 79, 3) := by decide +kernel
theorem dX12_comes_75 : decode cX12_comes 75 = .ok (.iload 5, 2) := by decide +kernel
theorem dX12_comes_77 : decode cX12_comes 77 = .ok (.iload 4, 2) := by decide +kernel
theorem dX12_comes_79 : decode cX12_comes 79 = .ok (.iastore, 1) := by decide +kernel
theorem dX12_comes_80 : decode cX12_comes 80 = .ok (.aload_n 0, 1) := by decide +kernel
theorem dX12_comes_81 : decode cX12_comes 81 = .ok (.getfield 82, 3) := by decide +kernel
theorem dX12_comes_84 : decode cX12_comes 84 = .ok (.iload_n 1, 1) := by decide +kernel
theorem dX12_comes_85 : decode cX12_comes 85 = .ok (.dup2, 1) := by decide +kernel
theorem dX12_comes_86 : decode cX12_comes 86 = .ok (.iaload, 1) := by decide +kernel
theorem dX12_comes_87 : decode cX12_comes 87 = .ok (.iconst 1, 1) := by decide +kernel
theorem dX12_comes_88 : decode cX12_comes 88 = .ok (.iadd, 1) := by decide +kernel
theorem dX12_comes_89 : decode cX12_comes 89 = .ok (.iastore, 1) := by decide +kernel
theorem dX12_comes_90 : decode cX12_comes 90 = .ok (.aload_n 0, 1) := by decide +kernel
theorem dX12_comes_91 : decode cX12_comes 91 = .ok (.aload_n 0, 1) := by decide +kernel
theorem dX12_comes_92 : decode cX12_comes 92 = .ok (.getfield 82, 3) := by decide +kernel
theorem dX12_comes_95 : decode cX12_comes 95 = .ok (.iload_n 1, 1) := by decide +kernel
theorem dX12_comes_96 : decode cX12_comes 96 = .ok (.iaload, 1) := by decide +kernel
theorem dX12_comes_97 : decode cX12_comes 97 = .ok (.aload_n 0, 1) := by decide +kernel
theorem dX12_comes_98 : decode cX12_comes 98 = .ok (.getfield 332, 3) := by decide +kernel
theorem dX12_comes_101 : decode cX12_comes 101 = .ok (.if_icmp .le 12, 3) := by decide +kernel
theorem dX12_comes_104 : decode cX12_comes 104 = .ok (.aload_n 0, 1) := by decide +kernel
theorem dX12_comes_105 : decode cX12_comes 105 = .ok (.getfield 82, 3) := by decide +kernel
theorem dX12_comes_108 : decode cX12_comes 108 = .ok (.iload_n 1, 1) := by decide +kernel
theorem dX12_comes_109 : decode cX12_comes 109 = .ok (.iaload, 1) := by decide +kernel
theorem dX12_comes_110 : decode cX12_comes 110 = .ok (.goto 7, 3) := by decide +kernel
theorem dX12_comes_113 : decode cX12_comes 113 = .ok (.aload_n 0, 1) := by decide +kernel
theorem dX12_comes_114 : decode cX12_comes 114 = .ok (.getfield 332, 3) := by decide +kernel
theorem dX12_comes_117 : decode cX12_comes 117 = .ok (.putfield 332, 3) := by decide +kernel
theorem dX12_comes_120 : decode cX12_comes 120 = .ok (.iconst 1, 1) := by decide +kernel
theorem dX12_comes_121 : decode cX12_comes 121 = .ok (.ireturn, 1) := by decide +kernel
theorem dX12_termOf_0 : decode cX12_termOf 0 = .ok (.aload_n 0, 1) := by decide +kernel
theorem dX12_termOf_1 : decode cX12_termOf 1 = .ok (.getfield 76, 3) := by decide +kernel
theorem dX12_termOf_4 : decode cX12_termOf 4 = .ok (.bipush 60, 2) := by decide +kernel
theorem dX12_termOf_6 : decode cX12_termOf 6 = .ok (.iload_n 1, 1) := by decide +kernel
theorem dX12_termOf_7 : decode cX12_termOf 7 = .ok (.imul, 1) := by decide +kernel
theorem dX12_termOf_8 : decode cX12_termOf 8 = .ok (.iload_n 2, 1) := by decide +kernel
theorem dX12_termOf_9 : decode cX12_termOf 9 = .ok (.iadd, 1) := by decide +kernel
theorem dX12_termOf_10 : decode cX12_termOf 10 = .ok (.iaload, 1) := by decide +kernel
theorem dX12_termOf_11 : decode cX12_termOf 11 = .ok (.istore_n 3, 1) := by decide +kernel
theorem dX12_termOf_12 : decode cX12_termOf 12 = .ok (.aload_n 0, 1) := by decide +kernel
theorem dX12_termOf_13 : decode cX12_termOf 13 = .ok (.getfield 79, 3) := by decide +kernel
theorem dX12_termOf_16 : decode cX12_termOf 16 = .ok (.bipush 60, 2) := by decide +kernel
theorem dX12_termOf_18 : decode cX12_termOf 18 = .ok (.iload_n 1, 1) := by decide +kernel
theorem dX12_termOf_19 : decode cX12_termOf 19 = .ok (.imul, 1) := by decide +kernel
theorem dX12_termOf_20 : decode cX12_termOf 20 = .ok (.iload_n 2, 1) := by decide +kernel
theorem dX12_termOf_21 : decode cX12_termOf 21 = .ok (.iadd, 1) := by decide +kernel
theorem dX12_termOf_22 : decode cX12_termOf 22 = .ok (.iaload, 1) := by decide +kernel
theorem dX12_termOf_23 : decode cX12_termOf 23 = .ok (.aload_n 0, 1) := by decide +kernel
theorem dX12_termOf_24 : decode cX12_termOf 24 = .ok (.getfield 88, 3) := by decide +kernel
theorem dX12_termOf_27 : decode cX12_termOf 27 = .ok (.iload_n 1, 1) := by decide +kernel
theorem dX12_termOf_28 : decode cX12_termOf 28 = .ok (.iaload, 1) := by decide +kernel
theorem dX12_termOf_29 : decode cX12_termOf 29 = .ok (.if_icmp .ne 7, 3) := by decide +kernel
theorem dX12_termOf_32 : decode cX12_termOf 32 = .ok (.iload_n 3, 1) := by decide +kernel
theorem dX12_termOf_33 : decode cX12_termOf 33 = .ok (.goto 23, 3) := by decide +kernel
theorem dX12_termOf_36 : decode cX12_termOf 36 = .ok (.aload_n 0, 1) := by decide +kernel
theorem dX12_termOf_37 : decode cX12_termOf 37 = .ok (.bipush 77, 2) := by decide +kernel
theorem dX12_termOf_39 : decode cX12_termOf 39 = .ok (.aload_n 0, 1) := by decide +kernel
theorem dX12_termOf_40 : decode cX12_termOf 40 = .ok (.getfield 79, 3) := by decide +kernel
theorem dX12_termOf_43 : decode cX12_termOf 43 = .ok (.bipush 60, 2) := by decide +kernel
theorem dX12_termOf_45 : decode cX12_termOf 45 = .ok (.iload_n 1, 1) := by decide +kernel
theorem dX12_termOf_46 : decode cX12_termOf 46 = .ok (.imul, 1) := by decide +kernel
theorem dX12_termOf_47 : decode cX12_termOf 47 = .ok (.iload_n 2, 1) := by decide +kernel
theorem dX12_termOf_48 : decode cX12_termOf 48 = .ok (.iadd, 1) := by decide +kernel
theorem dX12_termOf_49 : decode cX12_termOf 49 = .ok (.iaload, 1) := by decide +kernel
theorem dX12_termOf_50 : decode cX12_termOf 50 = .ok (.iload_n 3, 1) := by decide +kernel
theorem dX12_termOf_51 : decode cX12_termOf 51 = .ok (.iconst (-1), 1) := by decide +kernel
theorem dX12_termOf_52 : decode cX12_termOf 52 = .ok (.iconst (-1), 1) := by decide +kernel
theorem dX12_termOf_53 : decode cX12_termOf 53 = .ok (.invokevirtual 318, 3) := by decide +kernel
theorem dX12_termOf_56 : decode cX12_termOf 56 = .ok (.ireturn, 1) := by decide +kernel
theorem dX12_within_0 : decode cX12_within 0 = .ok (.iload_n 1, 1) := by decide +kernel
theorem dX12_within_1 : decode cX12_within 1 = .ok (.iconst 1, 1) := by decide +kernel
theorem dX12_within_2 : decode cX12_within 2 = .ok (.iadd, 1) := by decide +kernel
theorem dX12_within_3 : decode cX12_within 3 = .ok (.istore 5, 2) := by decide +kernel
theorem dX12_within_5 : decode cX12_within 5 = .ok (.aload_n 0, 1) := by decide +kernel
theorem dX12_within_6 : decode cX12_within 6 = .ok (.getfield 82, 3) := by decide +kernel
theorem dX12_within_9 : decode cX12_within 9 = .ok (.iload 5, 2) := by decide +kernel
theorem dX12_within_11 : decode cX12_within 11 = .ok (.iconst 0, 1) := by decide +kernel
theorem dX12_within_12 : decode cX12_within 12 = .ok (.iastore, 1) := by decide +kernel
theorem dX12_within_13 : decode cX12_within 13 = .ok (.iconst 0, 1) := by decide +kernel
theorem dX12_within_14 : decode cX12_within 14 = .ok (.istore 6, 2) := by decide +kernel
theorem dX12_within_16 : decode cX12_within 16 = .ok (.iload 6, 2) := by decide +kernel
theorem dX12_within_18 : decode cX12_within 18 = .ok (.aload_n 0, 1) := by decide +kernel
theorem dX12_within_19 : decode cX12_within 19 = .ok (.getfield 82, 3) := by decide +kernel
theorem dX12_within_22 : decode cX12_within 22 = .ok (.iload_n 1, 1) := by decide +kernel
theorem dX12_within_23 : decode cX12_within 23 = .ok (.iaload, 1) := by decide +kernel
theorem dX12_within_24 : decode cX12_within 24 = .ok (.if_icmp .ge 98, 3) := by decide +kernel
theorem dX12_within_27 : decode cX12_within 27 = .ok (.iload 6, 2) := by decide +kernel
theorem dX12_within_29 : decode cX12_within 29 = .ok (.iload_n 2, 1) := by decide +kernel
theorem dX12_within_30 : decode cX12_within 30 = .ok (.if_icmp .eq 86, 3) := by decide +kernel
theorem dX12_within_33 : decode cX12_within 33 = .ok (.bipush 60, 2) := by decide +kernel
theorem dX12_within_35 : decode cX12_within 35 = .ok (.iload 5, 2) := by decide +kernel
theorem dX12_within_37 : decode cX12_within 37 = .ok (.imul, 1) := by decide +kernel
theorem dX12_within_38 : decode cX12_within 38 = .ok (.aload_n 0, 1) := by decide +kernel
theorem dX12_within_39 : decode cX12_within 39 = .ok (.getfield 82, 3) := by decide +kernel
theorem dX12_within_42 : decode cX12_within 42 = .ok (.iload 5, 2) := by decide +kernel
theorem dX12_within_44 : decode cX12_within 44 = .ok (.iaload, 1) := by decide +kernel
theorem dX12_within_45 : decode cX12_within 45 = .ok (.iadd, 1) := by decide +kernel
theorem dX12_within_46 : decode cX12_within 46 = .ok (.istore 7, 2) := by decide +kernel
theorem dX12_within_48 : decode cX12_within 48 = .ok (.aload_n 0, 1) := by decide +kernel
theorem dX12_within_49 : decode cX12_within 49 = .ok (.getfield 73, 3) := by decide +kernel
theorem dX12_within_52 : decode cX12_within 52 = .ok (.iload 7, 2) := by decide +kernel
theorem dX12_within_54 : decode cX12_within 54 = .ok (.aload_n 0, 1) := by decide +kernel
theorem dX12_within_55 : decode cX12_within 55 = .ok (.getfield 73, 3) := by decide +kernel
theorem dX12_within_58 : decode cX12_within 58 = .ok (.bipush 60, 2) := by decide +kernel
theorem dX12_within_60 : decode cX12_within 60 = .ok (.iload_n 1, 1) := by decide +kernel
theorem dX12_within_61 : decode cX12_within 61 = .ok (.imul, 1) := by decide +kernel
theorem dX12_within_62 : decode cX12_within 62 = .ok (.iload 6, 2) := by decide +kernel
theorem dX12_within_64 : decode cX12_within 64 = .ok (.iadd, 1) := by decide +kernel
theorem dX12_within_65 : decode cX12_within 65 = .ok (.iaload, 1) := by decide +kernel
theorem dX12_within_66 : decode cX12_within 66 = .ok (.iastore, 1) := by decide +kernel
theorem dX12_within_67 : decode cX12_within 67 = .ok (.aload_n 0, 1) := by decide +kernel
theorem dX12_within_68 : decode cX12_within 68 = .ok (.getfield 76, 3) := by decide +kernel
theorem dX12_within_71 : decode cX12_within 71 = .ok (.iload 7, 2) := by decide +kernel
theorem dX12_within_73 : decode cX12_within 73 = .ok (.aload_n 0, 1) := by decide +kernel
theorem dX12_within_74 : decode cX12_within 74 = .ok (.getfield 76, 3) := by decide +kernel
theorem dX12_within_77 : decode cX12_within 77 = .ok (.bipush 60, 2) := by decide +kernel
theorem dX12_within_79 : decode cX12_within 79 = .ok (.iload_n 1, 1) := by decide +kernel
theorem dX12_within_80 : decode cX12_within 80 = .ok (.imul, 1) := by decide +kernel
theorem dX12_within_81 : decode cX12_within 81 = .ok (.iload 6, 2) := by decide +kernel
theorem dX12_within_83 : decode cX12_within 83 = .ok (.iadd, 1) := by decide +kernel
theorem dX12_within_84 : decode cX12_within 84 = .ok (.iaload, 1) := by decide +kernel
theorem dX12_within_85 : decode cX12_within 85 = .ok (.iastore, 1) := by decide +kernel
theorem dX12_within_86 : decode cX12_within 86 = .ok (.aload_n 0, 1) := by decide +kernel
theorem dX12_within_87 : decode cX12_within 87 = .ok (.getfield 79, 3) := by decide +kernel
theorem dX12_within_90 : decode cX12_within 90 = .ok (.iload 7, 2) := by decide +kernel
theorem dX12_within_92 : decode cX12_within 92 = .ok (.aload_n 0, 1) := by decide +kernel
theorem dX12_within_93 : decode cX12_within 93 = .ok (.getfield 79, 3) := by decide +kernel
theorem dX12_within_96 : decode cX12_within 96 = .ok (.bipush 60, 2) := by decide +kernel
theorem dX12_within_98 : decode cX12_within 98 = .ok (.iload_n 1, 1) := by decide +kernel
theorem dX12_within_99 : decode cX12_within 99 = .ok (.imul, 1) := by decide +kernel
theorem dX12_within_100 : decode cX12_within 100 = .ok (.iload 6, 2) := by decide +kernel
theorem dX12_within_102 : decode cX12_within 102 = .ok (.iadd, 1) := by decide +kernel
theorem dX12_within_103 : decode cX12_within 103 = .ok (.iaload, 1) := by decide +kernel
theorem dX12_within_104 : decode cX12_within 104 = .ok (.iastore, 1) := by decide +kernel
theorem dX12_within_105 : decode cX12_within 105 = .ok (.aload_n 0, 1) := by decide +kernel
theorem dX12_within_106 : decode cX12_within 106 = .ok (.getfield 82, 3) := by decide +kernel
theorem dX12_within_109 : decode cX12_within 109 = .ok (.iload 5, 2) := by decide +kernel
theorem dX12_within_111 : decode cX12_within 111 = .ok (.dup2, 1) := by decide +kernel
theorem dX12_within_112 : decode cX12_within 112 = .ok (.iaload, 1) := by decide +kernel
theorem dX12_within_113 : decode cX12_within 113 = .ok (.iconst 1, 1) := by decide +kernel
theorem dX12_within_114 : decode cX12_within 114 = .ok (.iadd, 1) := by decide +kernel
theorem dX12_within_115 : decode cX12_within 115 = .ok (.iastore, 1) := by decide +kernel
theorem dX12_within_116 : decode cX12_within 116 = .ok (.iinc 6 1, 3) := by decide +kernel
theorem dX12_within_119 : decode cX12_within 119 = .ok (.goto (-103), 3) := by decide +kernel
theorem dX12_within_122 : decode cX12_within 122 = .ok (.aload_n 0, 1) := by decide +kernel
theorem dX12_within_123 : decode cX12_within 123 = .ok (.getfield 85, 3) := by decide +kernel
theorem dX12_within_126 : decode cX12_within 126 = .ok (.iload 5, 2) := by decide +kernel
theorem dX12_within_128 : decode cX12_within 128 = .ok (.iload_n 3, 1) := by decide +kernel
theorem dX12_within_129 : decode cX12_within 129 = .ok (.iastore, 1) := by decide +kernel
theorem dX12_within_130 : decode cX12_within 130 = .ok (.aload_n 0, 1) := by decide +kernel
theorem dX12_within_131 : decode cX12_within 131 = .ok (.getfield 88, 3) := by decide +kernel
theorem dX12_within_134 : decode cX12_within 134 = .ok (.iload 5, 2) := by decide +kernel
theorem dX12_within_136 : decode cX12_within 136 = .ok (.iload 4, 2) := by decide +kernel
theorem dX12_within_138 : decode cX12_within 138 = .ok (.iastore, 1) := by decide +kernel
theorem dX12_within_139 : decode cX12_within 139 = .ok (.return_, 1) := by decide +kernel
theorem dX12_begin_0 : decode cX12_begin 0 = .ok (.aload_n 0, 1) := by decide +kernel
theorem dX12_begin_1 : decode cX12_begin 1 = .ok (.getfield 335, 3) := by decide +kernel
theorem dX12_begin_4 : decode cX12_begin 4 = .ok (.sipush 199, 3) := by decide +kernel
theorem dX12_begin_7 : decode cX12_begin 7 = .ok (.if_icmp .ne 11, 3) := by decide +kernel
theorem dX12_begin_10 : decode cX12_begin 10 = .ok (.aload_n 0, 1) := by decide +kernel
theorem dX12_begin_11 : decode cX12_begin 11 = .ok (.bipush (-7), 2) := by decide +kernel
theorem dX12_begin_13 : decode cX12_begin 13 = .ok (.putfield 325, 3) := by decide +kernel
theorem dX12_begin_16 : decode cX12_begin 16 = .ok (.iconst 3, 1) := by decide +kernel
theorem dX12_begin_17 : decode cX12_begin 17 = .ok (.ireturn, 1) := by decide +kernel
theorem dX12_begin_18 : decode cX12_begin 18 = .ok (.aload_n 0, 1) := by decide +kernel
theorem dX12_begin_19 : decode cX12_begin 19 = .ok (.dup, 1) := by decide +kernel
theorem dX12_begin_20 : decode cX12_begin 20 = .ok (.getfield 335, 3) := by decide +kernel
theorem dX12_begin_23 : decode cX12_begin 23 = .ok (.iconst 1, 1) := by decide +kernel
theorem dX12_begin_24 : decode cX12_begin 24 = .ok (.iadd, 1) := by decide +kernel
theorem dX12_begin_25 : decode cX12_begin 25 = .ok (.putfield 335, 3) := by decide +kernel
theorem dX12_begin_28 : decode cX12_begin 28 = .ok (.aload_n 0, 1) := by decide +kernel
theorem dX12_begin_29 : decode cX12_begin 29 = .ok (.getfield 91, 3) := by decide +kernel
theorem dX12_begin_32 : decode cX12_begin 32 = .ok (.aload_n 0, 1) := by decide +kernel
theorem dX12_begin_33 : decode cX12_begin 33 = .ok (.getfield 335, 3) := by decide +kernel
theorem dX12_begin_36 : decode cX12_begin 36 = .ok (.iconst 0, 1) := by decide +kernel
theorem dX12_begin_37 : decode cX12_begin 37 = .ok (.iastore, 1) := by decide +kernel
theorem dX12_begin_38 : decode cX12_begin 38 = .ok (.aload_n 0, 1) := by decide +kernel
theorem dX12_begin_39 : decode cX12_begin 39 = .ok (.getfield 338, 3) := by decide +kernel
theorem dX12_begin_42 : decode cX12_begin 42 = .ok (.aload_n 0, 1) := by decide +kernel
theorem dX12_begin_43 : decode cX12_begin 43 = .ok (.getfield 341, 3) := by decide +kernel
theorem dX12_begin_46 : decode cX12_begin 46 = .ok (.if_icmp .ne 11, 3) := by decide +kernel
theorem dX12_begin_49 : decode cX12_begin 49 = .ok (.aload_n 0, 1) := by decide +kernel
theorem dX12_begin_50 : decode cX12_begin 50 = .ok (.bipush (-6), 2) := by decide +kernel
theorem dX12_begin_52 : decode cX12_begin 52 = .ok (.putfield 325, 3) := by decide +kernel
theorem dX12_begin_55 : decode cX12_begin 55 = .ok (.iconst 3, 1) := by decide +kernel
theorem dX12_begin_56 : decode cX12_begin 56 = .ok (.ireturn, 1) := by decide +kernel
theorem dX12_begin_57 : decode cX12_begin 57 = .ok (.aload_n 0, 1) := by decide +kernel
theorem dX12_begin_58 : decode cX12_begin 58 = .ok (.dup, 1) := by decide +kernel
theorem dX12_begin_59 : decode cX12_begin 59 = .ok (.getfield 338, 3) := by decide +kernel
theorem dX12_begin_62 : decode cX12_begin 62 = .ok (.iconst 1, 1) := by decide +kernel
theorem dX12_begin_63 : decode cX12_begin 63 = .ok (.iadd, 1) := by decide +kernel
theorem dX12_begin_64 : decode cX12_begin 64 = .ok (.putfield 338, 3) := by decide +kernel
theorem dX12_begin_67 : decode cX12_begin 67 = .ok (.aload_n 0, 1) := by decide +kernel
theorem dX12_begin_68 : decode cX12_begin 68 = .ok (.aload_n 0, 1) := by decide +kernel
theorem dX12_begin_69 : decode cX12_begin 69 = .ok (.getfield 335, 3) := by decide +kernel
theorem dX12_begin_72 : decode cX12_begin 72 = .ok (.iconst 1, 1) := by decide +kernel
theorem dX12_begin_73 : decode cX12_begin 73 = .ok (.iadd, 1) := by decide +kernel
theorem dX12_begin_74 : decode cX12_begin 74 = .ok (.aload_n 0, 1) := by decide +kernel
theorem dX12_begin_75 : decode cX12_begin 75 = .ok (.getfield 344, 3) := by decide +kernel
theorem dX12_begin_78 : decode cX12_begin 78 = .ok (.if_icmp .le 12, 3) := by decide +kernel
theorem dX12_begin_81 : decode cX12_begin 81 = .ok (.aload_n 0, 1) := by decide +kernel
theorem dX12_begin_82 : decode cX12_begin 82 = .ok (.getfield 335, 3) := by decide +kernel
theorem dX12_begin_85 : decode cX12_begin 85 = .ok (.iconst 1, 1) := by decide +kernel
theorem dX12_begin_86 : decode cX12_begin 86 = .ok (.iadd, 1) := by decide +kernel
theorem dX12_begin_87 : decode cX12_begin 87 = .ok (.goto 7, 3) := by decide +kernel
theorem dX12_begin_90 : decode cX12_begin 90 = .ok (.aload_n 0, 1) := by decide +kernel
theorem dX12_begin_91 : decode cX12_begin 91 = .ok (.getfield 344, 3) := by decide +kernel
theorem dX12_begin_94 : decode cX12_begin 94 = .ok (.putfield 344, 3) := by decide +kernel
theorem dX12_begin_97 : decode cX12_begin 97 = .ok (.iconst 2, 1) := by decide +kernel
theorem dX12_begin_98 : decode cX12_begin 98 = .ok (.ireturn, 1) := by decide +kernel
theorem dX12_proved_0 : decode cX12_proved 0 = .ok (.aload_n 0, 1) := by decide +kernel
theorem dX12_proved_1 : decode cX12_proved 1 = .ok (.iload_n 1, 1) := by decide +kernel
theorem dX12_proved_2 : decode cX12_proved 2 = .ok (.putfield 347, 3) := by decide +kernel
theorem dX12_proved_5 : decode cX12_proved 5 = .ok (.iconst 1, 1) := by decide +kernel
theorem dX12_proved_6 : decode cX12_proved 6 = .ok (.ireturn, 1) := by decide +kernel
theorem dX12_isGoing_0 : decode cX12_isGoing 0 = .ok (.aload_n 0, 1) := by decide +kernel
theorem dX12_isGoing_1 : decode cX12_isGoing 1 = .ok (.getfield 73, 3) := by decide +kernel
theorem dX12_isGoing_4 : decode cX12_isGoing 4 = .ok (.bipush 60, 2) := by decide +kernel
theorem dX12_isGoing_6 : decode cX12_isGoing 6 = .ok (.iload_n 1, 1) := by decide +kernel
theorem dX12_isGoing_7 : decode cX12_isGoing 7 = .ok (.imul, 1) := by decide +kernel
theorem dX12_isGoing_8 : decode cX12_isGoing 8 = .ok (.iload_n 2, 1) := by decide +kernel
theorem dX12_isGoing_9 : decode cX12_isGoing 9 = .ok (.iadd, 1) := by decide +kernel
theorem dX12_isGoing_10 : decode cX12_isGoing 10 = .ok (.iaload, 1) := by decide +kernel
theorem dX12_isGoing_11 : decode cX12_isGoing 11 = .ok (.istore_n 3, 1) := by decide +kernel
theorem dX12_isGoing_12 : decode cX12_isGoing 12 = .ok (.aload_n 0, 1) := by decide +kernel
theorem dX12_isGoing_13 : decode cX12_isGoing 13 = .ok (.getfield 7, 3) := by decide +kernel
theorem dX12_isGoing_16 : decode cX12_isGoing 16 = .ok (.iload_n 3, 1) := by decide +kernel
theorem dX12_isGoing_17 : decode cX12_isGoing 17 = .ok (.iaload, 1) := by decide +kernel
theorem dX12_isGoing_18 : decode cX12_isGoing 18 = .ok (.istore 4, 2) := by decide +kernel
theorem dX12_isGoing_20 : decode cX12_isGoing 20 = .ok (.iload 4, 2) := by decide +kernel
theorem dX12_isGoing_22 : decode cX12_isGoing 22 = .ok (.iconst 1, 1) := by decide +kernel
theorem dX12_isGoing_23 : decode cX12_isGoing 23 = .ok (.if_icmp .eq 15, 3) := by decide +kernel
theorem dX12_isGoing_26 : decode cX12_isGoing 26 = .ok (.iload 4, 2) := by decide +kernel
theorem dX12_isGoing_28 : decode cX12_isGoing 28 = .ok (.iconst 3, 1) := by decide +kernel
theorem dX12_isGoing_29 : decode cX12_isGoing 29 = .ok (.if_icmp .eq 9, 3) := by decide +kernel
theorem dX12_isGoing_32 : decode cX12_isGoing 32 = .ok (.iload 4, 2) := by decide +kernel
theorem dX12_isGoing_34 : decode cX12_isGoing 34 = .ok (.iconst 4, 1) := by decide +kernel
theorem dX12_isGoing_35 : decode cX12_isGoing 35 = .ok (.if_icmp .ne 5, 3) := by decide +kernel
theorem dX12_isGoing_38 : decode cX12_isGoing 38 = .ok (.iconst 1, 1) := by decide +kernel
theorem dX12_isGoing_39 : decode cX12_isGoing 39 = .ok (.ireturn, 1) := by decide +kernel
theorem dX12_isGoing_40 : decode cX12_isGoing 40 = .ok (.iload 4, 2) := by decide +kernel
theorem dX12_isGoing_42 : decode cX12_isGoing 42 = .ok (.iconst 5, 1) := by decide +kernel
theorem dX12_isGoing_43 : decode cX12_isGoing 43 = .ok (.if_icmp .eq 5, 3) := by decide +kernel
theorem dX12_isGoing_46 : decode cX12_isGoing 46 = .ok (.iconst 0, 1) := by decide +kernel
theorem dX12_isGoing_47 : decode cX12_isGoing 47 = .ok (.ireturn, 1) := by decide +kernel
theorem dX12_isGoing_48 : decode cX12_isGoing 48 = .ok (.aload_n 0, 1) := by decide +kernel
theorem dX12_isGoing_49 : decode cX12_isGoing 49 = .ok (.getfield 13, 3) := by decide +kernel
theorem dX12_isGoing_52 : decode cX12_isGoing 52 = .ok (.iload_n 3, 1) := by decide +kernel
theorem dX12_isGoing_53 : decode cX12_isGoing 53 = .ok (.iaload, 1) := by decide +kernel
theorem dX12_isGoing_54 : decode cX12_isGoing 54 = .ok (.istore 5, 2) := by decide +kernel
theorem dX12_isGoing_56 : decode cX12_isGoing 56 = .ok (.aload_n 0, 1) := by decide +kernel
theorem dX12_isGoing_57 : decode cX12_isGoing 57 = .ok (.getfield 7, 3) := by decide +kernel
theorem dX12_isGoing_60 : decode cX12_isGoing 60 = .ok (.iload 5, 2) := by decide +kernel
theorem dX12_isGoing_62 : decode cX12_isGoing 62 = .ok (.iaload, 1) := by decide +kernel
theorem dX12_isGoing_63 : decode cX12_isGoing 63 = .ok (.iconst 2, 1) := by decide +kernel
theorem dX12_isGoing_64 : decode cX12_isGoing 64 = .ok (.if_icmp .lt 46, 3) := by decide +kernel
theorem dX12_isGoing_67 : decode cX12_isGoing 67 = .ok (.aload_n 0, 1) := by decide +kernel
theorem dX12_isGoing_68 : decode cX12_isGoing 68 = .ok (.getfield 7, 3) := by decide +kernel
theorem dX12_isGoing_71 : decode cX12_isGoing 71 = .ok (.iload 5, 2) := by decide +kernel
theorem dX12_isGoing_73 : decode cX12_isGoing 73 = .ok (.iaload, 1) := by decide +kernel
theorem dX12_isGoing_74 : decode cX12_isGoing 74 = .ok (.iconst 2, 1) := by decide +kernel
theorem dX12_isGoing_75 : decode cX12_isGoing 75 = .ok (.if_icmp .ne 13, 3) := by decide +kernel
theorem dX12_isGoing_78 : decode cX12_isGoing 78 = .ok (.aload_n 0, 1) := by decide +kernel
theorem dX12_isGoing_79 : decode cX12_isGoing 79 = .ok (.iload_n 1, 1) := by decide +kernel
theorem dX12_isGoing_80 : decode cX12_isGoing 80 = .ok (.iload 5, 2) := by decide +kernel
theorem dX12_isGoing_82 : decode cX12_isGoing 82 = .ok (.invokevirtual 328, 3) := by decide +kernel
theorem dX12_isGoing_85 : decode cX12_isGoing 85 = .ok (.ifCond .ge 25, 3) := by decide +kernel
theorem dX12_isGoing_88 : decode cX12_isGoing 88 = .ok (.aload_n 0, 1) := by decide +kernel
theorem dX12_isGoing_89 : decode cX12_isGoing 89 = .ok (.getfield 7, 3) := by decide +kernel
theorem dX12_isGoing_92 : decode cX12_isGoing 92 = .ok (.iload 5, 2) := by decide +kernel
theorem dX12_isGoing_94 : decode cX12_isGoing 94 = .ok (.iaload, 1) := by decide +kernel
theorem dX12_isGoing_95 : decode cX12_isGoing 95 = .ok (.iconst 3, 1) := by decide +kernel
theorem dX12_isGoing_96 : decode cX12_isGoing 96 = .ok (.if_icmp .eq 14, 3) := by decide +kernel
theorem dX12_isGoing_99 : decode cX12_isGoing 99 = .ok (.aload_n 0, 1) := by decide +kernel
theorem dX12_isGoing_100 : decode cX12_isGoing 100 = .ok (.getfield 7, 3) := by decide +kernel
theorem dX12_isGoing_103 : decode cX12_isGoing 103 = .ok (.iload 5, 2) := by decide +kernel
theorem dX12_isGoing_105 : decode cX12_isGoing 105 = .ok (.iaload, 1) := by decide +kernel
theorem dX12_isGoing_106 : decode cX12_isGoing 106 = .ok (.iconst 4, 1) := by decide +kernel
theorem dX12_isGoing_107 : decode cX12_isGoing 107 = .ok (.if_icmp .ne 7, 3) := by decide +kernel
theorem dX12_isGoing_110 : decode cX12_isGoing 110 = .ok (.iconst 1, 1) := by decide +kernel
theorem dX12_isGoing_111 : decode cX12_isGoing 111 = .ok (.goto 4, 3) := by decide +kernel
theorem dX12_isGoing_114 : decode cX12_isGoing 114 = .ok (.iconst 0, 1) := by decide +kernel
theorem dX12_isGoing_115 : decode cX12_isGoing 115 = .ok (.ireturn, 1) := by decide +kernel
theorem dX12_opened_0 : decode cX12_opened 0 = .ok (.aload_n 0, 1) := by decide +kernel
theorem dX12_opened_1 : decode cX12_opened 1 = .ok (.getfield 88, 3) := by decide +kernel
theorem dX12_opened_4 : decode cX12_opened 4 = .ok (.iload_n 1, 1) := by decide +kernel
theorem dX12_opened_5 : decode cX12_opened 5 = .ok (.iaload, 1) := by decide +kernel
theorem dX12_opened_6 : decode cX12_opened 6 = .ok (.istore_n 2, 1) := by decide +kernel
theorem dX12_opened_7 : decode cX12_opened 7 = .ok (.aload_n 0, 1) := by decide +kernel
theorem dX12_opened_8 : decode cX12_opened 8 = .ok (.iload_n 1, 1) := by decide +kernel
theorem dX12_opened_9 : decode cX12_opened 9 = .ok (.aload_n 0, 1) := by decide +kernel
theorem dX12_opened_10 : decode cX12_opened 10 = .ok (.getfield 85, 3) := by decide +kernel
theorem dX12_opened_13 : decode cX12_opened 13 = .ok (.iload_n 1, 1) := by decide +kernel
theorem dX12_opened_14 : decode cX12_opened 14 = .ok (.iaload, 1) := by decide +kernel
theorem dX12_opened_15 : decode cX12_opened 15 = .ok (.invokevirtual 328, 3) := by decide +kernel
theorem dX12_opened_18 : decode cX12_opened 18 = .ok (.istore_n 3, 1) := by decide +kernel
theorem dX12_opened_19 : decode cX12_opened 19 = .ok (.iload_n 3, 1) := by decide +kernel
theorem dX12_opened_20 : decode cX12_opened 20 = .ok (.ifCond .lt 14, 3) := by decide +kernel
theorem dX12_opened_23 : decode cX12_opened 23 = .ok (.aload_n 0, 1) := by decide +kernel
theorem dX12_opened_24 : decode cX12_opened 24 = .ok (.aload_n 0, 1) := by decide +kernel
theorem dX12_opened_25 : decode cX12_opened 25 = .ok (.iload_n 1, 1) := by decide +kernel
theorem dX12_opened_26 : decode cX12_opened 26 = .ok (.iload_n 3, 1) := by decide +kernel
theorem dX12_opened_27 : decode cX12_opened 27 = .ok (.invokevirtual 350, 3) := by decide +kernel
theorem dX12_opened_30 : decode cX12_opened 30 = .ok (.invokevirtual 353, 3) := by decide +kernel
theorem dX12_opened_33 : decode cX12_opened 33 = .ok (.ireturn, 1) := by decide +kernel
theorem dX12_opened_34 : decode cX12_opened 34 = .ok (.aload_n 0, 1) := by decide +kernel
theorem dX12_opened_35 : decode cX12_opened 35 = .ok (.iload_n 1, 1) := by decide +kernel
theorem dX12_opened_36 : decode cX12_opened 36 = .ok (.iconst 0, 1) := by decide +kernel
theorem dX12_opened_37 : decode cX12_opened 37 = .ok (.invokevirtual 328, 3) := by decide +kernel
theorem dX12_opened_40 : decode cX12_opened 40 = .ok (.istore_n 3, 1) := by decide +kernel
theorem dX12_opened_41 : decode cX12_opened 41 = .ok (.iload_n 3, 1) := by decide +kernel
theorem dX12_opened_42 : decode cX12_opened 42 = .ok (.ifCond .lt 23, 3) := by decide +kernel
theorem dX12_opened_45 : decode cX12_opened 45 = .ok (.aload_n 0, 1) := by decide +kernel
theorem dX12_opened_46 : decode cX12_opened 46 = .ok (.aload_n 0, 1) := by decide +kernel
theorem dX12_opened_47 : decode cX12_opened 47 = .ok (.bipush 88, 2) := by decide +kernel
theorem dX12_opened_49 : decode cX12_opened 49 = .ok (.iconst 0, 1) := by decide +kernel
theorem dX12_opened_50 : decode cX12_opened 50 = .ok (.aload_n 0, 1) := by decide +kernel
theorem dX12_opened_51 : decode cX12_opened 51 = .ok (.iload_n 1, 1) := by decide +kernel
theorem dX12_opened_52 : decode cX12_opened 52 = .ok (.iload_n 3, 1) := by decide +kernel
theorem dX12_opened_53 : decode cX12_opened 53 = .ok (.invokevirtual 350, 3) := by decide +kernel
theorem dX12_opened_56 : decode cX12_opened 56 = .ok (.iconst (-1), 1) := by decide +kernel
theorem dX12_opened_57 : decode cX12_opened 57 = .ok (.iconst (-1), 1) := by decide +kernel
theorem dX12_opened_58 : decode cX12_opened 58 = .ok (.invokevirtual 318, 3) := by decide +kernel
theorem dX12_opened_61 : decode cX12_opened 61 = .ok (.invokevirtual 353, 3) := by decide +kernel
theorem dX12_opened_64 : decode cX12_opened 64 = .ok (.ireturn, 1) := by decide +kernel
theorem dX12_opened_65 : decode cX12_opened 65 = .ok (.aload_n 0, 1) := by decide +kernel
theorem dX12_opened_66 : decode cX12_opened 66 = .ok (.getfield 85, 3) := by decide +kernel
theorem dX12_opened_69 : decode cX12_opened 69 = .ok (.iload_n 1, 1) := by decide +kernel
theorem dX12_opened_70 : decode cX12_opened 70 = .ok (.iaload, 1) := by decide +kernel
theorem dX12_opened_71 : decode cX12_opened 71 = .ok (.istore 4, 2) := by decide +kernel
theorem dX12_opened_73 : decode cX12_opened 73 = .ok (.iload 4, 2) := by decide +kernel
theorem dX12_opened_75 : decode cX12_opened 75 = .ok (.iconst 1, 1) := by decide +kernel
theorem dX12_opened_76 : decode cX12_opened 76 = .ok (.if_icmp .ne 18, 3) := by decide +kernel
theorem dX12_opened_79 : decode cX12_opened 79 = .ok (.aload_n 0, 1) := by decide +kernel
theorem dX12_opened_80 : decode cX12_opened 80 = .ok (.aload_n 0, 1) := by decide +kernel
theorem dX12_opened_81 : decode cX12_opened 81 = .ok (.bipush 84, 2) := by decide +kernel
theorem dX12_opened_83 : decode cX12_opened 83 = .ok (.iconst 0, 1) := by decide +kernel
theorem dX12_opened_84 : decode cX12_opened 84 = .ok (.iconst (-1), 1) := by decide +kernel
theorem dX12_opened_85 : decode cX12_opened 85 = .ok (.iconst (-1), 1) := by decide +kernel
theorem dX12_opened_86 : decode cX12_opened 86 = .ok (.iconst (-1), 1) := by decide +kernel
theorem dX12_opened_87 : decode cX12_opened 87 = .ok (.invokevirtual 318, 3) := by decide +kernel
theorem dX12_opened_90 : decode cX12_opened 90 = .ok (.invokevirtual 353, 3) := by decide +kernel
theorem dX12_opened_93 : decode cX12_opened 93 = .ok (.ireturn, 1) := by decide +kernel
theorem dX12_opened_94 : decode cX12_opened 94 = .ok (.aload_n 0, 1) := by decide +kernel
theorem dX12_opened_95 : decode cX12_opened 95 = .ok (.getfield 7, 3) := by decide +kernel
theorem dX12_opened_98 : decode cX12_opened 98 = .ok (.iload 4, 2) := by decide +kernel
theorem dX12_opened_100 : decode cX12_opened 100 = .ok (.iaload, 1) := by decide +kernel
theorem dX12_opened_101 : decode cX12_opened 101 = .ok (.iconst 5, 1) := by decide +kernel
theorem dX12_opened_102 : decode cX12_opened 102 = .ok (.if_icmp .ne 60, 3) := by decide +kernel
theorem dX12_opened_105 : decode cX12_opened 105 = .ok (.aload_n 0, 1) := by decide +kernel
theorem dX12_opened_106 : decode cX12_opened 106 = .ok (.iload_n 1, 1) := by decide +kernel
theorem dX12_opened_107 : decode cX12_opened 107 = .ok (.iconst (-1), 1) := by decide +kernel
theorem dX12_opened_108 : decode cX12_opened 108 = .ok (.aload_n 0, 1) := by decide +kernel
theorem dX12_opened_109 : decode cX12_opened 109 = .ok (.getfield 16, 3) := by decide +kernel
theorem dX12_opened_112 : decode cX12_opened 112 = .ok (.iload 4, 2) := by decide +kernel
theorem dX12_opened_114 : decode cX12_opened 114 = .ok (.iaload, 1) := by decide +kernel
theorem dX12_opened_115 : decode cX12_opened 115 = .ok (.iload_n 2, 1) := by decide +kernel
theorem dX12_opened_116 : decode cX12_opened 116 = .ok (.iconst 1, 1) := by decide +kernel
theorem dX12_opened_117 : decode cX12_opened 117 = .ok (.iadd, 1) := by decide +kernel
theorem dX12_opened_118 : decode cX12_opened 118 = .ok (.invokevirtual 356, 3) := by decide +kernel
theorem dX12_opened_121 : decode cX12_opened 121 = .ok (.aload_n 0, 1) := by decide +kernel
theorem dX12_opened_122 : decode cX12_opened 122 = .ok (.getfield 91, 3) := by decide +kernel
theorem dX12_opened_125 : decode cX12_opened 125 = .ok (.iload_n 1, 1) := by decide +kernel
theorem dX12_opened_126 : decode cX12_opened 126 = .ok (.iconst 2, 1) := by decide +kernel
theorem dX12_opened_127 : decode cX12_opened 127 = .ok (.iastore, 1) := by decide +kernel
theorem dX12_opened_128 : decode cX12_opened 128 = .ok (.aload_n 0, 1) := by decide +kernel
theorem dX12_opened_129 : decode cX12_opened 129 = .ok (.iload_n 1, 1) := by decide +kernel
theorem dX12_opened_130 : decode cX12_opened 130 = .ok (.iconst 1, 1) := by decide +kernel
theorem dX12_opened_131 : decode cX12_opened 131 = .ok (.iadd, 1) := by decide +kernel
theorem dX12_opened_132 : decode cX12_opened 132 = .ok (.aload_n 0, 1) := by decide +kernel
theorem dX12_opened_133 : decode cX12_opened 133 = .ok (.getfield 13, 3) := by decide +kernel
theorem dX12_opened_136 : decode cX12_opened 136 = .ok (.iload 4, 2) := by decide +kernel
theorem dX12_opened_138 : decode cX12_opened 138 = .ok (.iaload, 1) := by decide +kernel
theorem dX12_opened_139 : decode cX12_opened 139 = .ok (.aload_n 0, 1) := by decide +kernel
theorem dX12_opened_140 : decode cX12_opened 140 = .ok (.iload_n 2, 1) := by decide +kernel
theorem dX12_opened_141 : decode cX12_opened 141 = .ok (.invokevirtual 360, 3) := by decide +kernel
theorem dX12_opened_144 : decode cX12_opened 144 = .ok (.iload_n 2, 1) := by decide +kernel
theorem dX12_opened_145 : decode cX12_opened 145 = .ok (.iconst 1, 1) := by decide +kernel
theorem dX12_opened_146 : decode cX12_opened 146 = .ok (.iadd, 1) := by decide +kernel
theorem dX12_opened_147 : decode cX12_opened 147 = .ok (.invokevirtual 363, 3) := by decide +kernel
theorem dX12_opened_150 : decode cX12_opened 150 = .ok (.ifCond .eq 10, 3) := by decide +kernel
theorem dX12_opened_153 : decode cX12_opened 153 = .ok (.aload_n 0, 1) := by decide +kernel
theorem dX12_opened_154 : decode cX12_opened 154 = .ok (.invokevirtual 367, 3) := by decide +kernel
theorem dX12_opened_157 : decode cX12_opened 157 = .ok (.goto 4, 3) := by decide +kernel
theorem dX12_opened_160 : decode cX12_opened 160 = .ok (.iconst 3, 1) := by decide +kernel
theorem dX12_opened_161 : decode cX12_opened 161 = .ok (.ireturn, 1) := by decide +kernel
theorem dX12_opened_162 : decode cX12_opened 162 = .ok (.aload_n 0, 1) := by decide +kernel
theorem dX12_opened_163 : decode cX12_opened 163 = .ok (.getfield 7, 3) := by decide +kernel
theorem dX12_opened_166 : decode cX12_opened 166 = .ok (.iload 4, 2) := by decide +kernel
theorem dX12_opened_168 : decode cX12_opened 168 = .ok (.iaload, 1) := by decide +kernel
