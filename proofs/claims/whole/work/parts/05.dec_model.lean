theorem dX11_init_0 : decode cX11_init 0 = .ok (.aload_n 0, 1) := by decide +kernel
theorem dX11_init_1 : decode cX11_init 1 = .ok (.invokespecial 1, 3) := by decide +kernel
theorem dX11_init_4 : decode cX11_init 4 = .ok (.aload_n 0, 1) := by decide +kernel
theorem dX11_init_5 : decode cX11_init 5 = .ok (.sipush 300, 3) := by decide +kernel
theorem dX11_init_8 : decode cX11_init 8 = .ok (.newarray .char, 2) := by decide +kernel
theorem dX11_init_10 : decode cX11_init 10 = .ok (.putfield 7, 3) := by decide +kernel
theorem dX11_init_13 : decode cX11_init 13 = .ok (.aload_n 0, 1) := by decide +kernel
theorem dX11_init_14 : decode cX11_init 14 = .ok (.sipush 9000, 3) := by decide +kernel
theorem dX11_init_17 : decode cX11_init 17 = .ok (.newarray .char, 2) := by decide +kernel
theorem dX11_init_19 : decode cX11_init 19 = .ok (.putfield 13, 3) := by decide +kernel
theorem dX11_init_22 : decode cX11_init 22 = .ok (.aload_n 0, 1) := by decide +kernel
theorem dX11_init_23 : decode cX11_init 23 = .ok (.sipush 300, 3) := by decide +kernel
theorem dX11_init_26 : decode cX11_init 26 = .ok (.newarray .char, 2) := by decide +kernel
theorem dX11_init_28 : decode cX11_init 28 = .ok (.putfield 16, 3) := by decide +kernel
theorem dX11_init_31 : decode cX11_init 31 = .ok (.aload_n 0, 1) := by decide +kernel
theorem dX11_init_32 : decode cX11_init 32 = .ok (.sipush 1200, 3) := by decide +kernel
theorem dX11_init_35 : decode cX11_init 35 = .ok (.newarray .int, 2) := by decide +kernel
theorem dX11_init_37 : decode cX11_init 37 = .ok (.putfield 19, 3) := by decide +kernel
theorem dX11_init_40 : decode cX11_init 40 = .ok (.aload_n 0, 1) := by decide +kernel
theorem dX11_init_41 : decode cX11_init 41 = .ok (.sipush 1200, 3) := by decide +kernel
theorem dX11_init_44 : decode cX11_init 44 = .ok (.newarray .int, 2) := by decide +kernel
theorem dX11_init_46 : decode cX11_init 46 = .ok (.putfield 23, 3) := by decide +kernel
theorem dX11_init_49 : decode cX11_init 49 = .ok (.aload_n 0, 1) := by decide +kernel
theorem dX11_init_50 : decode cX11_init 50 = .ok (.sipush 301, 3) := by decide +kernel
theorem dX11_init_53 : decode cX11_init 53 = .ok (.newarray .int, 2) := by decide +kernel
theorem dX11_init_55 : decode cX11_init 55 = .ok (.putfield 26, 3) := by decide +kernel
theorem dX11_init_58 : decode cX11_init 58 = .ok (.aload_n 0, 1) := by decide +kernel
theorem dX11_init_59 : decode cX11_init 59 = .ok (.bipush 100, 2) := by decide +kernel
theorem dX11_init_61 : decode cX11_init 61 = .ok (.newarray .int, 2) := by decide +kernel
theorem dX11_init_63 : decode cX11_init 63 = .ok (.putfield 29, 3) := by decide +kernel
theorem dX11_init_66 : decode cX11_init 66 = .ok (.aload_n 0, 1) := by decide +kernel
theorem dX11_init_67 : decode cX11_init 67 = .ok (.bipush 100, 2) := by decide +kernel
theorem dX11_init_69 : decode cX11_init 69 = .ok (.newarray .int, 2) := by decide +kernel
theorem dX11_init_71 : decode cX11_init 71 = .ok (.putfield 32, 3) := by decide +kernel
theorem dX11_init_74 : decode cX11_init 74 = .ok (.aload_n 0, 1) := by decide +kernel
theorem dX11_init_75 : decode cX11_init 75 = .ok (.iconst 2, 1) := by decide +kernel
theorem dX11_init_76 : decode cX11_init 76 = .ok (.newarray .int, 2) := by decide +kernel
theorem dX11_init_78 : decode cX11_init 78 = .ok (.putfield 35, 3) := by decide +kernel
theorem dX11_init_81 : decode cX11_init 81 = .ok (.aload_n 0, 1) := by decide +kernel
theorem dX11_init_82 : decode cX11_init 82 = .ok (.bipush 16, 2) := by decide +kernel
theorem dX11_init_84 : decode cX11_init 84 = .ok (.newarray .int, 2) := by decide +kernel
theorem dX11_init_86 : decode cX11_init 86 = .ok (.putfield 38, 3) := by decide +kernel
theorem dX11_init_89 : decode cX11_init 89 = .ok (.aload_n 0, 1) := by decide +kernel
theorem dX11_init_90 : decode cX11_init 90 = .ok (.bipush 16, 2) := by decide +kernel
theorem dX11_init_92 : decode cX11_init 92 = .ok (.newarray .int, 2) := by decide +kernel
theorem dX11_init_94 : decode cX11_init 94 = .ok (.putfield 41, 3) := by decide +kernel
theorem dX11_init_97 : decode cX11_init 97 = .ok (.aload_n 0, 1) := by decide +kernel
theorem dX11_init_98 : decode cX11_init 98 = .ok (.bipush 40, 2) := by decide +kernel
theorem dX11_init_100 : decode cX11_init 100 = .ok (.newarray .int, 2) := by decide +kernel
theorem dX11_init_102 : decode cX11_init 102 = .ok (.putfield 44, 3) := by decide +kernel
theorem dX11_init_105 : decode cX11_init 105 = .ok (.aload_n 0, 1) := by decide +kernel
theorem dX11_init_106 : decode cX11_init 106 = .ok (.bipush 40, 2) := by decide +kernel
theorem dX11_init_108 : decode cX11_init 108 = .ok (.newarray .int, 2) := by decide +kernel
theorem dX11_init_110 : decode cX11_init 110 = .ok (.putfield 47, 3) := by decide +kernel
theorem dX11_init_113 : decode cX11_init 113 = .ok (.aload_n 0, 1) := by decide +kernel
theorem dX11_init_114 : decode cX11_init 114 = .ok (.bipush 40, 2) := by decide +kernel
theorem dX11_init_116 : decode cX11_init 116 = .ok (.newarray .int, 2) := by decide +kernel
theorem dX11_init_118 : decode cX11_init 118 = .ok (.putfield 50, 3) := by decide +kernel
theorem dX11_init_121 : decode cX11_init 121 = .ok (.aload_n 0, 1) := by decide +kernel
theorem dX11_init_122 : decode cX11_init 122 = .ok (.bipush 40, 2) := by decide +kernel
theorem dX11_init_124 : decode cX11_init 124 = .ok (.newarray .int, 2) := by decide +kernel
theorem dX11_init_126 : decode cX11_init 126 = .ok (.putfield 53, 3) := by decide +kernel
theorem dX11_init_129 : decode cX11_init 129 = .ok (.aload_n 0, 1) := by decide +kernel
theorem dX11_init_130 : decode cX11_init 130 = .ok (.bipush 110, 2) := by decide +kernel
theorem dX11_init_132 : decode cX11_init 132 = .ok (.newarray .int, 2) := by decide +kernel
theorem dX11_init_134 : decode cX11_init 134 = .ok (.putfield 56, 3) := by decide +kernel
theorem dX11_init_137 : decode cX11_init 137 = .ok (.aload_n 0, 1) := by decide +kernel
theorem dX11_init_138 : decode cX11_init 138 = .ok (.bipush 110, 2) := by decide +kernel
theorem dX11_init_140 : decode cX11_init 140 = .ok (.newarray .int, 2) := by decide +kernel
theorem dX11_init_142 : decode cX11_init 142 = .ok (.putfield 59, 3) := by decide +kernel
theorem dX11_init_145 : decode cX11_init 145 = .ok (.aload_n 0, 1) := by decide +kernel
theorem dX11_init_146 : decode cX11_init 146 = .ok (.bipush 110, 2) := by decide +kernel
theorem dX11_init_148 : decode cX11_init 148 = .ok (.newarray .int, 2) := by decide +kernel
theorem dX11_init_150 : decode cX11_init 150 = .ok (.putfield 62, 3) := by decide +kernel
theorem dX11_init_153 : decode cX11_init 153 = .ok (.aload_n 0, 1) := by decide +kernel
theorem dX11_init_154 : decode cX11_init 154 = .ok (.bipush 110, 2) := by decide +kernel
theorem dX11_init_156 : decode cX11_init 156 = .ok (.newarray .int, 2) := by decide +kernel
theorem dX11_init_158 : decode cX11_init 158 = .ok (.putfield 65, 3) := by decide +kernel
theorem dX11_init_161 : decode cX11_init 161 = .ok (.aload_n 0, 1) := by decide +kernel
theorem dX11_init_162 : decode cX11_init 162 = .ok (.bipush 100, 2) := by decide +kernel
theorem dX11_init_164 : decode cX11_init 164 = .ok (.newarray .int, 2) := by decide +kernel
theorem dX11_init_166 : decode cX11_init 166 = .ok (.putfield 68, 3) := by decide +kernel
theorem dX11_init_169 : decode cX11_init 169 = .ok (.aload_n 0, 1) := by decide +kernel
theorem dX11_init_170 : decode cX11_init 170 = .ok (.bipush 100, 2) := by decide +kernel
theorem dX11_init_172 : decode cX11_init 172 = .ok (.newarray .int, 2) := by decide +kernel
theorem dX11_init_174 : decode cX11_init 174 = .ok (.putfield 71, 3) := by decide +kernel
theorem dX11_init_177 : decode cX11_init 177 = .ok (.aload_n 0, 1) := by decide +kernel
theorem dX11_init_178 : decode cX11_init 178 = .ok (.bipush 10, 2) := by decide +kernel
theorem dX11_init_180 : decode cX11_init 180 = .ok (.newarray .int, 2) := by decide +kernel
theorem dX11_init_182 : decode cX11_init 182 = .ok (.putfield 74, 3) := by decide +kernel
theorem dX11_init_185 : decode cX11_init 185 = .ok (.aload_n 0, 1) := by decide +kernel
theorem dX11_init_186 : decode cX11_init 186 = .ok (.bipush 10, 2) := by decide +kernel
theorem dX11_init_188 : decode cX11_init 188 = .ok (.newarray .int, 2) := by decide +kernel
theorem dX11_init_190 : decode cX11_init 190 = .ok (.putfield 77, 3) := by decide +kernel
theorem dX11_init_193 : decode cX11_init 193 = .ok (.aload_n 0, 1) := by decide +kernel
theorem dX11_init_194 : decode cX11_init 194 = .ok (.bipush 10, 2) := by decide +kernel
theorem dX11_init_196 : decode cX11_init 196 = .ok (.newarray .int, 2) := by decide +kernel
theorem dX11_init_198 : decode cX11_init 198 = .ok (.putfield 80, 3) := by decide +kernel
theorem dX11_init_201 : decode cX11_init 201 = .ok (.aload_n 0, 1) := by decide +kernel
theorem dX11_init_202 : decode cX11_init 202 = .ok (.bipush 10, 2) := by decide +kernel
theorem dX11_init_204 : decode cX11_init 204 = .ok (.newarray .int, 2) := by decide +kernel
theorem dX11_init_206 : decode cX11_init 206 = .ok (.putfield 83, 3) := by decide +kernel
theorem dX11_init_209 : decode cX11_init 209 = .ok (.aload_n 0, 1) := by decide +kernel
theorem dX11_init_210 : decode cX11_init 210 = .ok (.sipush 301, 3) := by decide +kernel
theorem dX11_init_213 : decode cX11_init 213 = .ok (.newarray .int, 2) := by decide +kernel
theorem dX11_init_215 : decode cX11_init 215 = .ok (.putfield 86, 3) := by decide +kernel
theorem dX11_init_218 : decode cX11_init 218 = .ok (.aload_n 0, 1) := by decide +kernel
theorem dX11_init_219 : decode cX11_init 219 = .ok (.bipush 100, 2) := by decide +kernel
theorem dX11_init_221 : decode cX11_init 221 = .ok (.newarray .int, 2) := by decide +kernel
theorem dX11_init_223 : decode cX11_init 223 = .ok (.putfield 89, 3) := by decide +kernel
theorem dX11_init_226 : decode cX11_init 226 = .ok (.aload_n 0, 1) := by decide +kernel
theorem dX11_init_227 : decode cX11_init 227 = .ok (.bipush 100, 2) := by decide +kernel
theorem dX11_init_229 : decode cX11_init 229 = .ok (.newarray .int, 2) := by decide +kernel
theorem dX11_init_231 : decode cX11_init 231 = .ok (.putfield 92, 3) := by decide +kernel
theorem dX11_init_234 : decode cX11_init 234 = .ok (.aload_n 0, 1) := by decide +kernel
theorem dX11_init_235 : decode cX11_init 235 = .ok (.bipush 100, 2) := by decide +kernel
theorem dX11_init_237 : decode cX11_init 237 = .ok (.newarray .boolean, 2) := by decide +kernel
theorem dX11_init_239 : decode cX11_init 239 = .ok (.putfield 95, 3) := by decide +kernel
theorem dX11_init_242 : decode cX11_init 242 = .ok (.aload_n 0, 1) := by decide +kernel
theorem dX11_init_243 : decode cX11_init 243 = .ok (.sipush 1300, 3) := by decide +kernel
theorem dX11_init_246 : decode cX11_init 246 = .ok (.newarray .int, 2) := by decide +kernel
theorem dX11_init_248 : decode cX11_init 248 = .ok (.putfield 99, 3) := by decide +kernel
theorem dX11_init_251 : decode cX11_init 251 = .ok (.aload_n 0, 1) := by decide +kernel
theorem dX11_init_252 : decode cX11_init 252 = .ok (.bipush 88, 2) := by decide +kernel
theorem dX11_init_254 : decode cX11_init 254 = .ok (.newarray .int, 2) := by decide +kernel
theorem dX11_init_256 : decode cX11_init 256 = .ok (.putfield 102, 3) := by decide +kernel
theorem dX11_init_259 : decode cX11_init 259 = .ok (.aload_n 0, 1) := by decide +kernel
theorem dX11_init_260 : decode cX11_init 260 = .ok (.bipush 12, 2) := by decide +kernel
theorem dX11_init_262 : decode cX11_init 262 = .ok (.newarray .int, 2) := by decide +kernel
theorem dX11_init_264 : decode cX11_init 264 = .ok (.putfield 105, 3) := by decide +kernel
theorem dX11_init_267 : decode cX11_init 267 = .ok (.aload_n 0, 1) := by decide +kernel
theorem dX11_init_268 : decode cX11_init 268 = .ok (.bipush 9, 2) := by decide +kernel
theorem dX11_init_270 : decode cX11_init 270 = .ok (.newarray .int, 2) := by decide +kernel
theorem dX11_init_272 : decode cX11_init 272 = .ok (.putfield 108, 3) := by decide +kernel
theorem dX11_init_275 : decode cX11_init 275 = .ok (.aload_n 0, 1) := by decide +kernel
theorem dX11_init_276 : decode cX11_init 276 = .ok (.bipush 32, 2) := by decide +kernel
theorem dX11_init_278 : decode cX11_init 278 = .ok (.newarray .int, 2) := by decide +kernel
theorem dX11_init_280 : decode cX11_init 280 = .ok (.putfield 111, 3) := by decide +kernel
theorem dX11_init_283 : decode cX11_init 283 = .ok (.aload_n 0, 1) := by decide +kernel
theorem dX11_init_284 : decode cX11_init 284 = .ok (.bipush 9, 2) := by decide +kernel
theorem dX11_init_286 : decode cX11_init 286 = .ok (.newarray .int, 2) := by decide +kernel
theorem dX11_init_288 : decode cX11_init 288 = .ok (.putfield 114, 3) := by decide +kernel
theorem dX11_init_291 : decode cX11_init 291 = .ok (.aload_n 0, 1) := by decide +kernel
theorem dX11_init_292 : decode cX11_init 292 = .ok (.bipush 32, 2) := by decide +kernel
theorem dX11_init_294 : decode cX11_init 294 = .ok (.newarray .int, 2) := by decide +kernel
theorem dX11_init_296 : decode cX11_init 296 = .ok (.putfield 117, 3) := by decide +kernel
theorem dX11_init_299 : decode cX11_init 299 = .ok (.aload_n 0, 1) := by decide +kernel
theorem dX11_init_300 : decode cX11_init 300 = .ok (.iconst 4, 1) := by decide +kernel
theorem dX11_init_301 : decode cX11_init 301 = .ok (.newarray .int, 2) := by decide +kernel
theorem dX11_init_303 : decode cX11_init 303 = .ok (.putfield 120, 3) := by decide +kernel
theorem dX11_init_306 : decode cX11_init 306 = .ok (.aload_n 0, 1) := by decide +kernel
theorem dX11_init_307 : decode cX11_init 307 = .ok (.iconst 4, 1) := by decide +kernel
theorem dX11_init_308 : decode cX11_init 308 = .ok (.newarray .int, 2) := by decide +kernel
theorem dX11_init_310 : decode cX11_init 310 = .ok (.putfield 123, 3) := by decide +kernel
theorem dX11_init_313 : decode cX11_init 313 = .ok (.aload_n 0, 1) := by decide +kernel
theorem dX11_init_314 : decode cX11_init 314 = .ok (.iconst 4, 1) := by decide +kernel
theorem dX11_init_315 : decode cX11_init 315 = .ok (.newarray .int, 2) := by decide +kernel
theorem dX11_init_317 : decode cX11_init 317 = .ok (.putfield 126, 3) := by decide +kernel
theorem dX11_init_320 : decode cX11_init 320 = .ok (.aload_n 0, 1) := by decide +kernel
theorem dX11_init_321 : decode cX11_init 321 = .ok (.bipush 32, 2) := by decide +kernel
theorem dX11_init_323 : decode cX11_init 323 = .ok (.newarray .int, 2) := by decide +kernel
theorem dX11_init_325 : decode cX11_init 325 = .ok (.putfield 129, 3) := by decide +kernel
theorem dX11_init_328 : decode cX11_init 328 = .ok (.aload_n 0, 1) := by decide +kernel
theorem dX11_init_329 : decode cX11_init 329 = .ok (.bipush 64, 2) := by decide +kernel
theorem dX11_init_331 : decode cX11_init 331 = .ok (.newarray .int, 2) := by decide +kernel
theorem dX11_init_333 : decode cX11_init 333 = .ok (.putfield 132, 3) := by decide +kernel
theorem dX11_init_336 : decode cX11_init 336 = .ok (.aload_n 0, 1) := by decide +kernel
theorem dX11_init_337 : decode cX11_init 337 = .ok (.bipush 32, 2) := by decide +kernel
theorem dX11_init_339 : decode cX11_init 339 = .ok (.newarray .int, 2) := by decide +kernel
theorem dX11_init_341 : decode cX11_init 341 = .ok (.putfield 135, 3) := by decide +kernel
theorem dX11_init_344 : decode cX11_init 344 = .ok (.aload_n 0, 1) := by decide +kernel
theorem dX11_init_345 : decode cX11_init 345 = .ok (.bipush 64, 2) := by decide +kernel
theorem dX11_init_347 : decode cX11_init 347 = .ok (.newarray .int, 2) := by decide +kernel
theorem dX11_init_349 : decode cX11_init 349 = .ok (.putfield 138, 3) := by decide +kernel
theorem dX11_init_352 : decode cX11_init 352 = .ok (.aload_n 0, 1) := by decide +kernel
theorem dX11_init_353 : decode cX11_init 353 = .ok (.bipush 32, 2) := by decide +kernel
theorem dX11_init_355 : decode cX11_init 355 = .ok (.newarray .boolean, 2) := by decide +kernel
theorem dX11_init_357 : decode cX11_init 357 = .ok (.putfield 141, 3) := by decide +kernel
theorem dX11_init_360 : decode cX11_init 360 = .ok (.aload_n 0, 1) := by decide +kernel
theorem dX11_init_361 : decode cX11_init 361 = .ok (.bipush 30, 2) := by decide +kernel
theorem dX11_init_363 : decode cX11_init 363 = .ok (.newarray .int, 2) := by decide +kernel
theorem dX11_init_365 : decode cX11_init 365 = .ok (.putfield 144, 3) := by decide +kernel
theorem dX11_init_368 : decode cX11_init 368 = .ok (.aload_n 0, 1) := by decide +kernel
theorem dX11_init_369 : decode cX11_init 369 = .ok (.bipush 30, 2) := by decide +kernel
theorem dX11_init_371 : decode cX11_init 371 = .ok (.newarray .int, 2) := by decide +kernel
theorem dX11_init_373 : decode cX11_init 373 = .ok (.putfield 147, 3) := by decide +kernel
theorem dX11_init_376 : decode cX11_init 376 = .ok (.aload_n 0, 1) := by decide +kernel
theorem dX11_init_377 : decode cX11_init 377 = .ok (.bipush 30, 2) := by decide +kernel
theorem dX11_init_379 : decode cX11_init 379 = .ok (.newarray .int, 2) := by decide +kernel
theorem dX11_init_381 : decode cX11_init 381 = .ok (.putfield 150, 3) := by decide +kernel
theorem dX11_init_384 : decode cX11_init 384 = .ok (.aload_n 0, 1) := by decide +kernel
theorem dX11_init_385 : decode cX11_init 385 = .ok (.bipush 30, 2) := by decide +kernel
theorem dX11_init_387 : decode cX11_init 387 = .ok (.newarray .int, 2) := by decide +kernel
theorem dX11_init_389 : decode cX11_init 389 = .ok (.putfield 153, 3) := by decide +kernel
theorem dX11_init_392 : decode cX11_init 392 = .ok (.aload_n 0, 1) := by decide +kernel
theorem dX11_init_393 : decode cX11_init 393 = .ok (.bipush 30, 2) := by decide +kernel
theorem dX11_init_395 : decode cX11_init 395 = .ok (.newarray .boolean, 2) := by decide +kernel
theorem dX11_init_397 : decode cX11_init 397 = .ok (.putfield 156, 3) := by decide +kernel
theorem dX11_init_400 : decode cX11_init 400 = .ok (.aload_n 0, 1) := by decide +kernel
theorem dX11_init_401 : decode cX11_init 401 = .ok (.sipush 240, 3) := by decide +kernel
theorem dX11_init_404 : decode cX11_init 404 = .ok (.newarray .int, 2) := by decide +kernel
theorem dX11_init_406 : decode cX11_init 406 = .ok (.putfield 159, 3) := by decide +kernel
theorem dX11_init_409 : decode cX11_init 409 = .ok (.aload_n 0, 1) := by decide +kernel
theorem dX11_init_410 : decode cX11_init 410 = .ok (.sipush 240, 3) := by decide +kernel
theorem dX11_init_413 : decode cX11_init 413 = .ok (.newarray .boolean, 2) := by decide +kernel
theorem dX11_init_415 : decode cX11_init 415 = .ok (.putfield 162, 3) := by decide +kernel
theorem dX11_init_418 : decode cX11_init 418 = .ok (.return_, 1) := by decide +kernel
theorem dX11_thrown_0 : decode cX11_thrown 0 = .ok (.aload_n 0, 1) := by decide +kernel
theorem dX11_thrown_1 : decode cX11_thrown 1 = .ok (.getfield 165, 3) := by decide +kernel
theorem dX11_thrown_4 : decode cX11_thrown 4 = .ok (.ireturn, 1) := by decide +kernel
theorem dX11_in_0 : decode cX11_in 0 = .ok (.lload_n 0, 1) := by decide +kernel
theorem dX11_in_1 : decode cX11_in 1 = .ok (.lload_n 2, 1) := by decide +kernel
theorem dX11_in_2 : decode cX11_in 2 = .ok (.lcmp, 1) := by decide +kernel
theorem dX11_in_3 : decode cX11_in 3 = .ok (.ifCond .lt 14, 3) := by decide +kernel
theorem dX11_in_6 : decode cX11_in 6 = .ok (.lload_n 0, 1) := by decide +kernel
theorem dX11_in_7 : decode cX11_in 7 = .ok (.lload 4, 2) := by decide +kernel
theorem dX11_in_9 : decode cX11_in 9 = .ok (.lcmp, 1) := by decide +kernel
theorem dX11_in_10 : decode cX11_in 10 = .ok (.ifCond .gt 7, 3) := by decide +kernel
theorem dX11_in_13 : decode cX11_in 13 = .ok (.iconst 1, 1) := by decide +kernel
theorem dX11_in_14 : decode cX11_in 14 = .ok (.goto 4, 3) := by decide +kernel
theorem dX11_in_17 : decode cX11_in 17 = .ok (.iconst 0, 1) := by decide +kernel
theorem dX11_in_18 : decode cX11_in 18 = .ok (.ireturn, 1) := by decide +kernel
theorem dX11_goes_0 : decode cX11_goes 0 = .ok (.aload_n 0, 1) := by decide +kernel
theorem dX11_goes_1 : decode cX11_goes 1 = .ok (.iload_n 1, 1) := by decide +kernel
theorem dX11_goes_2 : decode cX11_goes 2 = .ok (.ifCond .ne 7, 3) := by decide +kernel
theorem dX11_goes_5 : decode cX11_goes 5 = .ok (.iconst 1, 1) := by decide +kernel
theorem dX11_goes_6 : decode cX11_goes 6 = .ok (.goto 20, 3) := by decide +kernel
theorem dX11_goes_9 : decode cX11_goes 9 = .ok (.iload_n 2, 1) := by decide +kernel
theorem dX11_goes_10 : decode cX11_goes 10 = .ok (.ifCond .ne 7, 3) := by decide +kernel
theorem dX11_goes_13 : decode cX11_goes 13 = .ok (.iconst 2, 1) := by decide +kernel
theorem dX11_goes_14 : decode cX11_goes 14 = .ok (.goto 12, 3) := by decide +kernel
theorem dX11_goes_17 : decode cX11_goes 17 = .ok (.iload_n 3, 1) := by decide +kernel
theorem dX11_goes_18 : decode cX11_goes 18 = .ok (.ifCond .ne 7, 3) := by decide +kernel
theorem dX11_goes_21 : decode cX11_goes 21 = .ok (.iconst 3, 1) := by decide +kernel
theorem dX11_goes_22 : decode cX11_goes 22 = .ok (.goto 4, 3) := by decide +kernel
theorem dX11_goes_25 : decode cX11_goes 25 = .ok (.iconst 0, 1) := by decide +kernel
theorem dX11_goes_26 : decode cX11_goes 26 = .ok (.putfield 165, 3) := by decide +kernel
theorem dX11_goes_29 : decode cX11_goes 29 = .ok (.aload_n 0, 1) := by decide +kernel
theorem dX11_goes_30 : decode cX11_goes 30 = .ok (.getfield 165, 3) := by decide +kernel
theorem dX11_goes_33 : decode cX11_goes 33 = .ok (.ifCond .ne 7, 3) := by decide +kernel
theorem dX11_goes_36 : decode cX11_goes 36 = .ok (.iconst 1, 1) := by decide +kernel
theorem dX11_goes_37 : decode cX11_goes 37 = .ok (.goto 4, 3) := by decide +kernel
theorem dX11_goes_40 : decode cX11_goes 40 = .ok (.iconst 0, 1) := by decide +kernel
theorem dX11_goes_41 : decode cX11_goes 41 = .ok (.ireturn, 1) := by decide +kernel
theorem dX11_told_0 : decode cX11_told 0 = .ok (.aload_n 0, 1) := by decide +kernel
theorem dX11_told_1 : decode cX11_told 1 = .ok (.iconst 0, 1) := by decide +kernel
theorem dX11_told_2 : decode cX11_told 2 = .ok (.putfield 165, 3) := by decide +kernel
theorem dX11_told_5 : decode cX11_told 5 = .ok (.iload_n 1, 1) := by decide +kernel
theorem dX11_told_6 : decode cX11_told 6 = .ok (.ireturn, 1) := by decide +kernel
theorem dX11_isSign_0 : decode cX11_isSign 0 = .ok (.lload_n 0, 1) := by decide +kernel
theorem dX11_isSign_1 : decode cX11_isSign 1 = .ok (.lconst 0, 1) := by decide +kernel
theorem dX11_isSign_2 : decode cX11_isSign 2 = .ok (.lcmp, 1) := by decide +kernel
theorem dX11_isSign_3 : decode cX11_isSign 3 = .ok (.ifCond .eq 24, 3) := by decide +kernel
theorem dX11_isSign_6 : decode cX11_isSign 6 = .ok (.lload_n 0, 1) := by decide +kernel
theorem dX11_isSign_7 : decode cX11_isSign 7 = .ok (.ldc2_w 169, 3) := by decide +kernel
theorem dX11_isSign_10 : decode cX11_isSign 10 = .ok (.lcmp, 1) := by decide +kernel
theorem dX11_isSign_11 : decode cX11_isSign 11 = .ok (.ifCond .eq 16, 3) := by decide +kernel
theorem dX11_isSign_14 : decode cX11_isSign 14 = .ok (.lload_n 0, 1) := by decide +kernel
theorem dX11_isSign_15 : decode cX11_isSign 15 = .ok (.ldc2_w 171, 3) := by decide +kernel
theorem dX11_isSign_18 : decode cX11_isSign 18 = .ok (.ldc2_w 173, 3) := by decide +kernel
theorem dX11_isSign_21 : decode cX11_isSign 21 = .ok (.invokestatic 175, 3) := by decide +kernel
theorem dX11_isSign_24 : decode cX11_isSign 24 = .ok (.ifCond .eq 7, 3) := by decide +kernel
theorem dX11_isSign_27 : decode cX11_isSign 27 = .ok (.iconst 1, 1) := by decide +kernel
theorem dX11_isSign_28 : decode cX11_isSign 28 = .ok (.goto 4, 3) := by decide +kernel
theorem dX11_isSign_31 : decode cX11_isSign 31 = .ok (.iconst 0, 1) := by decide +kernel
theorem dX11_isSign_32 : decode cX11_isSign 32 = .ok (.ireturn, 1) := by decide +kernel
theorem dX11_write_0 : decode cX11_write 0 = .ok (.iconst 1, 1) := by decide +kernel
theorem dX11_write_1 : decode cX11_write 1 = .ok (.istore_n 3, 1) := by decide +kernel
theorem dX11_write_2 : decode cX11_write 2 = .ok (.iconst 0, 1) := by decide +kernel
theorem dX11_write_3 : decode cX11_write 3 = .ok (.istore 4, 2) := by decide +kernel
theorem dX11_write_5 : decode cX11_write 5 = .ok (.iconst 0, 1) := by decide +kernel
theorem dX11_write_6 : decode cX11_write 6 = .ok (.istore 5, 2) := by decide +kernel
theorem dX11_write_8 : decode cX11_write 8 = .ok (.iload 5, 2) := by decide +kernel
theorem dX11_write_10 : decode cX11_write 10 = .ok (.bipush 8, 2) := by decide +kernel
theorem dX11_write_12 : decode cX11_write 12 = .ok (.if_icmp .ge 57, 3) := by decide +kernel
theorem dX11_write_15 : decode cX11_write 15 = .ok (.lload_n 1, 1) := by decide +kernel
theorem dX11_write_16 : decode cX11_write 16 = .ok (.bipush 8, 2) := by decide +kernel
theorem dX11_write_18 : decode cX11_write 18 = .ok (.iload 5, 2) := by decide +kernel
theorem dX11_write_20 : decode cX11_write 20 = .ok (.imul, 1) := by decide +kernel
theorem dX11_write_21 : decode cX11_write 21 = .ok (.lushr, 1) := by decide +kernel
theorem dX11_write_22 : decode cX11_write 22 = .ok (.ldc2_w 179, 3) := by decide +kernel
theorem dX11_write_25 : decode cX11_write 25 = .ok (.land, 1) := by decide +kernel
theorem dX11_write_26 : decode cX11_write 26 = .ok (.lstore 6, 2) := by decide +kernel
theorem dX11_write_28 : decode cX11_write 28 = .ok (.iload_n 3, 1) := by decide +kernel
theorem dX11_write_29 : decode cX11_write 29 = .ok (.ifCond .eq 15, 3) := by decide +kernel
theorem dX11_write_32 : decode cX11_write 32 = .ok (.lload 6, 2) := by decide +kernel
theorem dX11_write_34 : decode cX11_write 34 = .ok (.invokestatic 181, 3) := by decide +kernel
theorem dX11_write_37 : decode cX11_write 37 = .ok (.ifCond .eq 7, 3) := by decide +kernel
theorem dX11_write_40 : decode cX11_write 40 = .ok (.iconst 1, 1) := by decide +kernel
theorem dX11_write_41 : decode cX11_write 41 = .ok (.goto 4, 3) := by decide +kernel
theorem dX11_write_44 : decode cX11_write 44 = .ok (.iconst 0, 1) := by decide +kernel
theorem dX11_write_45 : decode cX11_write 45 = .ok (.istore_n 3, 1) := by decide +kernel
theorem dX11_write_46 : decode cX11_write 46 = .ok (.iload 4, 2) := by decide +kernel
theorem dX11_write_48 : decode cX11_write 48 = .ok (.lload 6, 2) := by decide +kernel
theorem dX11_write_50 : decode cX11_write 50 = .ok (.lconst 0, 1) := by decide +kernel
theorem dX11_write_51 : decode cX11_write 51 = .ok (.lcmp, 1) := by decide +kernel
theorem dX11_write_52 : decode cX11_write 52 = .ok (.ifCond .ne 7, 3) := by decide +kernel
theorem dX11_write_55 : decode cX11_write 55 = .ok (.iconst 0, 1) := by decide +kernel
theorem dX11_write_56 : decode cX11_write 56 = .ok (.goto 4, 3) := by decide +kernel
theorem dX11_write_59 : decode cX11_write 59 = .ok (.iconst 1, 1) := by decide +kernel
theorem dX11_write_60 : decode cX11_write 60 = .ok (.iadd, 1) := by decide +kernel
theorem dX11_write_61 : decode cX11_write 61 = .ok (.istore 4, 2) := by decide +kernel
theorem dX11_write_63 : decode cX11_write 63 = .ok (.iinc 5 1, 3) := by decide +kernel
theorem dX11_write_66 : decode cX11_write 66 = .ok (.goto (-58), 3) := by decide +kernel
theorem dX11_write_69 : decode cX11_write 69 = .ok (.aload_n 0, 1) := by decide +kernel
theorem dX11_write_70 : decode cX11_write 70 = .ok (.iload_n 3, 1) := by decide +kernel
theorem dX11_write_71 : decode cX11_write 71 = .ok (.iconst 1, 1) := by decide +kernel
theorem dX11_write_72 : decode cX11_write 72 = .ok (.iconst 1, 1) := by decide +kernel
theorem dX11_write_73 : decode cX11_write 73 = .ok (.invokevirtual 185, 3) := by decide +kernel
theorem dX11_write_76 : decode cX11_write 76 = .ok (.ifCond .ne 5, 3) := by decide +kernel
theorem dX11_write_79 : decode cX11_write 79 = .ok (.iconst 0, 1) := by decide +kernel
theorem dX11_write_80 : decode cX11_write 80 = .ok (.ireturn, 1) := by decide +kernel
theorem dX11_write_81 : decode cX11_write 81 = .ok (.aload_n 0, 1) := by decide +kernel
theorem dX11_write_82 : decode cX11_write 82 = .ok (.getfield 189, 3) := by decide +kernel
theorem dX11_write_85 : decode cX11_write 85 = .ok (.iload 4, 2) := by decide +kernel
theorem dX11_write_87 : decode cX11_write 87 = .ok (.iadd, 1) := by decide +kernel
theorem dX11_write_88 : decode cX11_write 88 = .ok (.sipush 300, 3) := by decide +kernel
theorem dX11_write_91 : decode cX11_write 91 = .ok (.if_icmp .le 5, 3) := by decide +kernel
theorem dX11_write_94 : decode cX11_write 94 = .ok (.iconst (-1), 1) := by decide +kernel
theorem dX11_write_95 : decode cX11_write 95 = .ok (.ireturn, 1) := by decide +kernel
theorem dX11_write_96 : decode cX11_write 96 = .ok (.iconst 0, 1) := by decide +kernel
theorem dX11_write_97 : decode cX11_write 97 = .ok (.istore 5, 2) := by decide +kernel
theorem dX11_write_99 : decode cX11_write 99 = .ok (.iload 5, 2) := by decide +kernel
theorem dX11_write_101 : decode cX11_write 101 = .ok (.bipush 8, 2) := by decide +kernel
theorem dX11_write_103 : decode cX11_write 103 = .ok (.if_icmp .ge 52, 3) := by decide +kernel
theorem dX11_write_106 : decode cX11_write 106 = .ok (.lload_n 1, 1) := by decide +kernel
theorem dX11_write_107 : decode cX11_write 107 = .ok (.bipush 8, 2) := by decide +kernel
theorem dX11_write_109 : decode cX11_write 109 = .ok (.iload 5, 2) := by decide +kernel
theorem dX11_write_111 : decode cX11_write 111 = .ok (.imul, 1) := by decide +kernel
theorem dX11_write_112 : decode cX11_write 112 = .ok (.lushr, 1) := by decide +kernel
theorem dX11_write_113 : decode cX11_write 113 = .ok (.ldc2_w 179, 3) := by decide +kernel
theorem dX11_write_116 : decode cX11_write 116 = .ok (.land, 1) := by decide +kernel
theorem dX11_write_117 : decode cX11_write 117 = .ok (.lstore 6, 2) := by decide +kernel
theorem dX11_write_119 : decode cX11_write 119 = .ok (.lload 6, 2) := by decide +kernel
theorem dX11_write_121 : decode cX11_write 121 = .ok (.lconst 0, 1) := by decide +kernel
theorem dX11_write_122 : decode cX11_write 122 = .ok (.lcmp, 1) := by decide +kernel
theorem dX11_write_123 : decode cX11_write 123 = .ok (.ifCond .eq 26, 3) := by decide +kernel
theorem dX11_write_126 : decode cX11_write 126 = .ok (.aload_n 0, 1) := by decide +kernel
theorem dX11_write_127 : decode cX11_write 127 = .ok (.getfield 7, 3) := by decide +kernel
theorem dX11_write_130 : decode cX11_write 130 = .ok (.aload_n 0, 1) := by decide +kernel
theorem dX11_write_131 : decode cX11_write 131 = .ok (.getfield 189, 3) := by decide +kernel
theorem dX11_write_134 : decode cX11_write 134 = .ok (.lload 6, 2) := by decide +kernel
theorem dX11_write_136 : decode cX11_write 136 = .ok (.l2i, 1) := by decide +kernel
theorem dX11_write_137 : decode cX11_write 137 = .ok (.i2c, 1) := by decide +kernel
theorem dX11_write_138 : decode cX11_write 138 = .ok (.castore, 1) := by decide +kernel
theorem dX11_write_139 : decode cX11_write 139 = .ok (.aload_n 0, 1) := by decide +kernel
theorem dX11_write_140 : decode cX11_write 140 = .ok (.dup, 1) := by decide +kernel
theorem dX11_write_141 : decode cX11_write 141 = .ok (.getfield 189, 3) := by decide +kernel
theorem dX11_write_144 : decode cX11_write 144 = .ok (.iconst 1, 1) := by decide +kernel
theorem dX11_write_145 : decode cX11_write 145 = .ok (.iadd, 1) := by decide +kernel
theorem dX11_write_146 : decode cX11_write 146 = .ok (.putfield 189, 3) := by decide +kernel
theorem dX11_write_149 : decode cX11_write 149 = .ok (.iinc 5 1, 3) := by decide +kernel
theorem dX11_write_152 : decode cX11_write 152 = .ok (.goto (-53), 3) := by decide +kernel
theorem dX11_write_155 : decode cX11_write 155 = .ok (.aload_n 0, 1) := by decide +kernel
theorem dX11_write_156 : decode cX11_write 156 = .ok (.getfield 189, 3) := by decide +kernel
theorem dX11_write_159 : decode cX11_write 159 = .ok (.ireturn, 1) := by decide +kernel
theorem dX11_wipe_0 : decode cX11_wipe 0 = .ok (.aload_n 0, 1) := by decide +kernel
theorem dX11_wipe_1 : decode cX11_wipe 1 = .ok (.getfield 189, 3) := by decide +kernel
theorem dX11_wipe_4 : decode cX11_wipe 4 = .ok (.istore_n 1, 1) := by decide +kernel
theorem dX11_wipe_5 : decode cX11_wipe 5 = .ok (.aload_n 0, 1) := by decide +kernel
theorem dX11_wipe_6 : decode cX11_wipe 6 = .ok (.iconst 0, 1) := by decide +kernel
theorem dX11_wipe_7 : decode cX11_wipe 7 = .ok (.putfield 189, 3) := by decide +kernel
theorem dX11_wipe_10 : decode cX11_wipe 10 = .ok (.aload_n 0, 1) := by decide +kernel
theorem dX11_wipe_11 : decode cX11_wipe 11 = .ok (.iload_n 1, 1) := by decide +kernel
theorem dX11_wipe_12 : decode cX11_wipe 12 = .ok (.invokevirtual 192, 3) := by decide +kernel
theorem dX11_wipe_15 : decode cX11_wipe 15 = .ok (.ireturn, 1) := by decide +kernel
theorem dX11_erase_0 : decode cX11_erase 0 = .ok (.aload_n 0, 1) := by decide +kernel
theorem dX11_erase_1 : decode cX11_erase 1 = .ok (.iload_n 1, 1) := by decide +kernel
theorem dX11_erase_2 : decode cX11_erase 2 = .ok (.i2l, 1) := by decide +kernel
theorem dX11_erase_3 : decode cX11_erase 3 = .ok (.lconst 1, 1) := by decide +kernel
theorem dX11_erase_4 : decode cX11_erase 4 = .ok (.aload_n 0, 1) := by decide +kernel
theorem dX11_erase_5 : decode cX11_erase 5 = .ok (.getfield 189, 3) := by decide +kernel
theorem dX11_erase_8 : decode cX11_erase 8 = .ok (.i2l, 1) := by decide +kernel
theorem dX11_erase_9 : decode cX11_erase 9 = .ok (.invokestatic 175, 3) := by decide +kernel
theorem dX11_erase_12 : decode cX11_erase 12 = .ok (.iconst 1, 1) := by decide +kernel
theorem dX11_erase_13 : decode cX11_erase 13 = .ok (.iconst 1, 1) := by decide +kernel
theorem dX11_erase_14 : decode cX11_erase 14 = .ok (.invokevirtual 185, 3) := by decide +kernel
theorem dX11_erase_17 : decode cX11_erase 17 = .ok (.ifCond .ne 5, 3) := by decide +kernel
theorem dX11_erase_20 : decode cX11_erase 20 = .ok (.iconst 0, 1) := by decide +kernel
theorem dX11_erase_21 : decode cX11_erase 21 = .ok (.ireturn, 1) := by decide +kernel
theorem dX11_erase_22 : decode cX11_erase 22 = .ok (.aload_n 0, 1) := by decide +kernel
theorem dX11_erase_23 : decode cX11_erase 23 = .ok (.dup, 1) := by decide +kernel
theorem dX11_erase_24 : decode cX11_erase 24 = .ok (.getfield 189, 3) := by decide +kernel
theorem dX11_erase_27 : decode cX11_erase 27 = .ok (.iload_n 1, 1) := by decide +kernel
theorem dX11_erase_28 : decode cX11_erase 28 = .ok (.isub, 1) := by decide +kernel
theorem dX11_erase_29 : decode cX11_erase 29 = .ok (.putfield 189, 3) := by decide +kernel
theorem dX11_erase_32 : decode cX11_erase 32 = .ok (.aload_n 0, 1) := by decide +kernel
theorem dX11_erase_33 : decode cX11_erase 33 = .ok (.getfield 189, 3) := by decide +kernel
theorem dX11_erase_36 : decode cX11_erase 36 = .ok (.ireturn, 1) := by decide +kernel
theorem dX11_length_0 : decode cX11_length 0 = .ok (.aload_n 0, 1) := by decide +kernel
theorem dX11_length_1 : decode cX11_length 1 = .ok (.aload_n 0, 1) := by decide +kernel
theorem dX11_length_2 : decode cX11_length 2 = .ok (.getfield 189, 3) := by decide +kernel
theorem dX11_length_5 : decode cX11_length 5 = .ok (.invokevirtual 192, 3) := by decide +kernel
theorem dX11_length_8 : decode cX11_length 8 = .ok (.ireturn, 1) := by decide +kernel
theorem dX11_signAt_0 : decode cX11_signAt 0 = .ok (.aload_n 0, 1) := by decide +kernel
theorem dX11_signAt_1 : decode cX11_signAt 1 = .ok (.iload_n 1, 1) := by decide +kernel
theorem dX11_signAt_2 : decode cX11_signAt 2 = .ok (.i2l, 1) := by decide +kernel
theorem dX11_signAt_3 : decode cX11_signAt 3 = .ok (.lconst 0, 1) := by decide +kernel
theorem dX11_signAt_4 : decode cX11_signAt 4 = .ok (.aload_n 0, 1) := by decide +kernel
theorem dX11_signAt_5 : decode cX11_signAt 5 = .ok (.getfield 189, 3) := by decide +kernel
theorem dX11_signAt_8 : decode cX11_signAt 8 = .ok (.iconst 1, 1) := by decide +kernel
theorem dX11_signAt_9 : decode cX11_signAt 9 = .ok (.isub, 1) := by decide +kernel
theorem dX11_signAt_10 : decode cX11_signAt 10 = .ok (.i2l, 1) := by decide +kernel
theorem dX11_signAt_11 : decode cX11_signAt 11 = .ok (.invokestatic 175, 3) := by decide +kernel
theorem dX11_signAt_14 : decode cX11_signAt 14 = .ok (.iconst 1, 1) := by decide +kernel
theorem dX11_signAt_15 : decode cX11_signAt 15 = .ok (.iconst 1, 1) := by decide +kernel
theorem dX11_signAt_16 : decode cX11_signAt 16 = .ok (.invokevirtual 185, 3) := by decide +kernel
theorem dX11_signAt_19 : decode cX11_signAt 19 = .ok (.ifCond .eq 12, 3) := by decide +kernel
theorem dX11_signAt_22 : decode cX11_signAt 22 = .ok (.aload_n 0, 1) := by decide +kernel
theorem dX11_signAt_23 : decode cX11_signAt 23 = .ok (.getfield 7, 3) := by decide +kernel
theorem dX11_signAt_26 : decode cX11_signAt 26 = .ok (.iload_n 1, 1) := by decide +kernel
theorem dX11_signAt_27 : decode cX11_signAt 27 = .ok (.caload, 1) := by decide +kernel
theorem dX11_signAt_28 : decode cX11_signAt 28 = .ok (.goto 5, 3) := by decide +kernel
theorem dX11_signAt_31 : decode cX11_signAt 31 = .ok (.bipush 32, 2) := by decide +kernel
theorem dX11_signAt_33 : decode cX11_signAt 33 = .ok (.ireturn, 1) := by decide +kernel
theorem dX11_isDigit_0 : decode cX11_isDigit 0 = .ok (.iload_n 0, 1) := by decide +kernel
theorem dX11_isDigit_1 : decode cX11_isDigit 1 = .ok (.bipush 48, 2) := by decide +kernel
theorem dX11_isDigit_3 : decode cX11_isDigit 3 = .ok (.if_icmp .lt 13, 3) := by decide +kernel
theorem dX11_isDigit_6 : decode cX11_isDigit 6 = .ok (.iload_n 0, 1) := by decide +kernel
theorem dX11_isDigit_7 : decode cX11_isDigit 7 = .ok (.bipush 57, 2) := by decide +kernel
theorem dX11_isDigit_9 : decode cX11_isDigit 9 = .ok (.if_icmp .gt 7, 3) := by decide +kernel
theorem dX11_isDigit_12 : decode cX11_isDigit 12 = .ok (.iconst 1, 1) := by decide +kernel
theorem dX11_isDigit_13 : decode cX11_isDigit 13 = .ok (.goto 4, 3) := by decide +kernel
theorem dX11_isDigit_16 : decode cX11_isDigit 16 = .ok (.iconst 0, 1) := by decide +kernel
theorem dX11_isDigit_17 : decode cX11_isDigit 17 = .ok (.ireturn, 1) := by decide +kernel
theorem dX11_isLetter_0 : decode cX11_isLetter 0 = .ok (.iload_n 0, 1) := by decide +kernel
theorem dX11_isLetter_1 : decode cX11_isLetter 1 = .ok (.bipush 97, 2) := by decide +kernel
theorem dX11_isLetter_3 : decode cX11_isLetter 3 = .ok (.if_icmp .lt 13, 3) := by decide +kernel
theorem dX11_isLetter_6 : decode cX11_isLetter 6 = .ok (.iload_n 0, 1) := by decide +kernel
theorem dX11_isLetter_7 : decode cX11_isLetter 7 = .ok (.bipush 122, 2) := by decide +kernel
theorem dX11_isLetter_9 : decode cX11_isLetter 9 = .ok (.if_icmp .gt 7, 3) := by decide +kernel
theorem dX11_isLetter_12 : decode cX11_isLetter 12 = .ok (.iconst 1, 1) := by decide +kernel
theorem dX11_isLetter_13 : decode cX11_isLetter 13 = .ok (.goto 4, 3) := by decide +kernel
theorem dX11_isLetter_16 : decode cX11_isLetter 16 = .ok (.iconst 0, 1) := by decide +kernel
theorem dX11_isLetter_17 : decode cX11_isLetter 17 = .ok (.ireturn, 1) := by decide +kernel
theorem dX11_skips_0 : decode cX11_skips 0 = .ok (.iload_n 1, 1) := by decide +kernel
theorem dX11_skips_1 : decode cX11_skips 1 = .ok (.istore_n 2, 1) := by decide +kernel
theorem dX11_skips_2 : decode cX11_skips 2 = .ok (.iload_n 2, 1) := by decide +kernel
theorem dX11_skips_3 : decode cX11_skips 3 = .ok (.aload_n 0, 1) := by decide +kernel
theorem dX11_skips_4 : decode cX11_skips 4 = .ok (.getfield 196, 3) := by decide +kernel
theorem dX11_skips_7 : decode cX11_skips 7 = .ok (.if_icmp .ge 31, 3) := by decide +kernel
theorem dX11_skips_10 : decode cX11_skips 10 = .ok (.aload_n 0, 1) := by decide +kernel
theorem dX11_skips_11 : decode cX11_skips 11 = .ok (.getfield 16, 3) := by decide +kernel
theorem dX11_skips_14 : decode cX11_skips 14 = .ok (.iload_n 2, 1) := by decide +kernel
theorem dX11_skips_15 : decode cX11_skips 15 = .ok (.caload, 1) := by decide +kernel
theorem dX11_skips_16 : decode cX11_skips 16 = .ok (.bipush 32, 2) := by decide +kernel
theorem dX11_skips_18 : decode cX11_skips 18 = .ok (.if_icmp .eq 14, 3) := by decide +kernel
theorem dX11_skips_21 : decode cX11_skips 21 = .ok (.aload_n 0, 1) := by decide +kernel
theorem dX11_skips_22 : decode cX11_skips 22 = .ok (.getfield 16, 3) := by decide +kernel
theorem dX11_skips_25 : decode cX11_skips 25 = .ok (.iload_n 2, 1) := by decide +kernel
theorem dX11_skips_26 : decode cX11_skips 26 = .ok (.caload, 1) := by decide +kernel
theorem dX11_skips_27 : decode cX11_skips 27 = .ok (.bipush 10, 2) := by decide +kernel
theorem dX11_skips_29 : decode cX11_skips 29 = .ok (.if_icmp .ne 9, 3) := by decide +kernel
theorem dX11_skips_32 : decode cX11_skips 32 = .ok (.iinc 2 1, 3) := by decide +kernel
theorem dX11_skips_35 : decode cX11_skips 35 = .ok (.goto (-33), 3) := by decide +kernel
theorem dX11_skips_38 : decode cX11_skips 38 = .ok (.iload_n 2, 1) := by decide +kernel
theorem dX11_skips_39 : decode cX11_skips 39 = .ok (.ireturn, 1) := by decide +kernel
theorem dX11_isOpenBehind_0 : decode cX11_isOpenBehind 0 = .ok (.aload_n 0, 1) := by decide +kernel
theorem dX11_isOpenBehind_1 : decode cX11_isOpenBehind 1 = .ok (.aload_n 0, 1) := by decide +kernel
theorem dX11_isOpenBehind_2 : decode cX11_isOpenBehind 2 = .ok (.getfield 199, 3) := by decide +kernel
theorem dX11_isOpenBehind_5 : decode cX11_isOpenBehind 5 = .ok (.invokevirtual 202, 3) := by decide +kernel
theorem dX11_isOpenBehind_8 : decode cX11_isOpenBehind 8 = .ok (.istore_n 1, 1) := by decide +kernel
theorem dX11_isOpenBehind_9 : decode cX11_isOpenBehind 9 = .ok (.iload_n 1, 1) := by decide +kernel
theorem dX11_isOpenBehind_10 : decode cX11_isOpenBehind 10 = .ok (.aload_n 0, 1) := by decide +kernel
theorem dX11_isOpenBehind_11 : decode cX11_isOpenBehind 11 = .ok (.getfield 196, 3) := by decide +kernel
theorem dX11_isOpenBehind_14 : decode cX11_isOpenBehind 14 = .ok (.if_icmp .ge 18, 3) := by decide +kernel
theorem dX11_isOpenBehind_17 : decode cX11_isOpenBehind 17 = .ok (.aload_n 0, 1) := by decide +kernel
theorem dX11_isOpenBehind_18 : decode cX11_isOpenBehind 18 = .ok (.getfield 16, 3) := by decide +kernel
theorem dX11_isOpenBehind_21 : decode cX11_isOpenBehind 21 = .ok (.iload_n 1, 1) := by decide +kernel
theorem dX11_isOpenBehind_22 : decode cX11_isOpenBehind 22 = .ok (.caload, 1) := by decide +kernel
theorem dX11_isOpenBehind_23 : decode cX11_isOpenBehind 23 = .ok (.bipush 40, 2) := by decide +kernel
theorem dX11_isOpenBehind_25 : decode cX11_isOpenBehind 25 = .ok (.if_icmp .ne 7, 3) := by decide +kernel
theorem dX11_isOpenBehind_28 : decode cX11_isOpenBehind 28 = .ok (.iconst 1, 1) := by decide +kernel
theorem dX11_isOpenBehind_29 : decode cX11_isOpenBehind 29 = .ok (.goto 4, 3) := by decide +kernel
theorem dX11_isOpenBehind_32 : decode cX11_isOpenBehind 32 = .ok (.iconst 0, 1) := by decide +kernel
theorem dX11_isOpenBehind_33 : decode cX11_isOpenBehind 33 = .ok (.ireturn, 1) := by decide +kernel
theorem dX11_number_0 : decode cX11_number 0 = .ok (.lconst 0, 1) := by decide +kernel
theorem dX11_number_1 : decode cX11_number 1 = .ok (.lstore_n 1, 1) := by decide +kernel
theorem dX11_number_2 : decode cX11_number 2 = .ok (.aload_n 0, 1) := by decide +kernel
theorem dX11_number_3 : decode cX11_number 3 = .ok (.getfield 199, 3) := by decide +kernel
theorem dX11_number_6 : decode cX11_number 6 = .ok (.aload_n 0, 1) := by decide +kernel
theorem dX11_number_7 : decode cX11_number 7 = .ok (.getfield 196, 3) := by decide +kernel
theorem dX11_number_10 : decode cX11_number 10 = .ok (.if_icmp .ge 67, 3) := by decide +kernel
theorem dX11_number_13 : decode cX11_number 13 = .ok (.aload_n 0, 1) := by decide +kernel
theorem dX11_number_14 : decode cX11_number 14 = .ok (.getfield 16, 3) := by decide +kernel
theorem dX11_number_17 : decode cX11_number 17 = .ok (.aload_n 0, 1) := by decide +kernel
theorem dX11_number_18 : decode cX11_number 18 = .ok (.getfield 199, 3) := by decide +kernel
theorem dX11_number_21 : decode cX11_number 21 = .ok (.caload, 1) := by decide +kernel
theorem dX11_number_22 : decode cX11_number 22 = .ok (.invokestatic 205, 3) := by decide +kernel
theorem dX11_number_25 : decode cX11_number 25 = .ok (.ifCond .eq 52, 3) := by decide +kernel
theorem dX11_number_28 : decode cX11_number 28 = .ok (.lload_n 1, 1) := by decide +kernel
theorem dX11_number_29 : decode cX11_number 29 = .ok (.ldc2_w 169, 3) := by decide +kernel
theorem dX11_number_32 : decode cX11_number 32 = .ok (.lmul, 1) := by decide +kernel
theorem dX11_number_33 : decode cX11_number 33 = .ok (.aload_n 0, 1) := by decide +kernel
theorem dX11_number_34 : decode cX11_number 34 = .ok (.getfield 16, 3) := by decide +kernel
theorem dX11_number_37 : decode cX11_number 37 = .ok (.aload_n 0, 1) := by decide +kernel
theorem dX11_number_38 : decode cX11_number 38 = .ok (.getfield 199, 3) := by decide +kernel
theorem dX11_number_41 : decode cX11_number 41 = .ok (.caload, 1) := by decide +kernel
theorem dX11_number_42 : decode cX11_number 42 = .ok (.bipush 48, 2) := by decide +kernel
theorem dX11_number_44 : decode cX11_number 44 = .ok (.isub, 1) := by decide +kernel
theorem dX11_number_45 : decode cX11_number 45 = .ok (.i2l, 1) := by decide +kernel
theorem dX11_number_46 : decode cX11_number 46 = .ok (.ladd, 1) := by decide +kernel
theorem dX11_number_47 : decode cX11_number 47 = .ok (.lstore_n 1, 1) := by decide +kernel
theorem dX11_number_48 : decode cX11_number 48 = .ok (.lload_n 1, 1) := by decide +kernel
theorem dX11_number_49 : decode cX11_number 49 = .ok (.ldc2_w 209, 3) := by decide +kernel
theorem dX11_number_52 : decode cX11_number 52 = .ok (.lcmp, 1) := by decide +kernel
theorem dX11_number_53 : decode cX11_number 53 = .ok (.ifCond .le 9, 3) := by decide +kernel
theorem dX11_number_56 : decode cX11_number 56 = .ok (.ldc2_w 209, 3) := by decide +kernel
theorem dX11_number_59 : decode cX11_number 59 = .ok (.goto 4, 3) := by decide +kernel
theorem dX11_number_62 : decode cX11_number 62 = .ok (.lload_n 1, 1) := by decide +kernel
theorem dX11_number_63 : decode cX11_number 63 = .ok (.lstore_n 1, 1) := by decide +kernel
theorem dX11_number_64 : decode cX11_number 64 = .ok (.aload_n 0, 1) := by decide +kernel
theorem dX11_number_65 : decode cX11_number 65 = .ok (.dup, 1) := by decide +kernel
theorem dX11_number_66 : decode cX11_number 66 = .ok (.getfield 199, 3) := by decide +kernel
theorem dX11_number_69 : decode cX11_number 69 = .ok (.iconst 1, 1) := by decide +kernel
theorem dX11_number_70 : decode cX11_number 70 = .ok (.iadd, 1) := by decide +kernel
theorem dX11_number_71 : decode cX11_number 71 = .ok (.putfield 199, 3) := by decide +kernel
theorem dX11_number_74 : decode cX11_number 74 = .ok (.goto (-72), 3) := by decide +kernel
theorem dX11_number_77 : decode cX11_number 77 = .ok (.aload_n 0, 1) := by decide +kernel
theorem dX11_number_78 : decode cX11_number 78 = .ok (.lload_n 1, 1) := by decide +kernel
theorem dX11_number_79 : decode cX11_number 79 = .ok (.ldc2_w 211, 3) := by decide +kernel
theorem dX11_number_82 : decode cX11_number 82 = .ok (.lcmp, 1) := by decide +kernel
theorem dX11_number_83 : decode cX11_number 83 = .ok (.ifCond .le 7, 3) := by decide +kernel
theorem dX11_number_86 : decode cX11_number 86 = .ok (.iconst 0, 1) := by decide +kernel
theorem dX11_number_87 : decode cX11_number 87 = .ok (.goto 5, 3) := by decide +kernel
theorem dX11_number_90 : decode cX11_number 90 = .ok (.lload_n 1, 1) := by decide +kernel
theorem dX11_number_91 : decode cX11_number 91 = .ok (.l2i, 1) := by decide +kernel
theorem dX11_number_92 : decode cX11_number 92 = .ok (.putfield 213, 3) := by decide +kernel
theorem dX11_number_95 : decode cX11_number 95 = .ok (.lload_n 1, 1) := by decide +kernel
theorem dX11_number_96 : decode cX11_number 96 = .ok (.ldc2_w 211, 3) := by decide +kernel
theorem dX11_number_99 : decode cX11_number 99 = .ok (.lcmp, 1) := by decide +kernel
theorem dX11_number_100 : decode cX11_number 100 = .ok (.ifCond .le 8, 3) := by decide +kernel
theorem dX11_number_103 : decode cX11_number 103 = .ok (.bipush (-2), 2) := by decide +kernel
theorem dX11_number_105 : decode cX11_number 105 = .ok (.goto 4, 3) := by decide +kernel
theorem dX11_number_108 : decode cX11_number 108 = .ok (.iconst 1, 1) := by decide +kernel
theorem dX11_number_109 : decode cX11_number 109 = .ok (.ireturn, 1) := by decide +kernel
theorem dX11_word_0 : decode cX11_word 0 = .ok (.lconst 0, 1) := by decide +kernel
theorem dX11_word_1 : decode cX11_word 1 = .ok (.lstore_n 1, 1) := by decide +kernel
theorem dX11_word_2 : decode cX11_word 2 = .ok (.aload_n 0, 1) := by decide +kernel
theorem dX11_word_3 : decode cX11_word 3 = .ok (.getfield 199, 3) := by decide +kernel
theorem dX11_word_6 : decode cX11_word 6 = .ok (.aload_n 0, 1) := by decide +kernel
theorem dX11_word_7 : decode cX11_word 7 = .ok (.getfield 196, 3) := by decide +kernel
theorem dX11_word_10 : decode cX11_word 10 = .ok (.if_icmp .ge 73, 3) := by decide +kernel
theorem dX11_word_13 : decode cX11_word 13 = .ok (.aload_n 0, 1) := by decide +kernel
theorem dX11_word_14 : decode cX11_word 14 = .ok (.getfield 16, 3) := by decide +kernel
theorem dX11_word_17 : decode cX11_word 17 = .ok (.aload_n 0, 1) := by decide +kernel
theorem dX11_word_18 : decode cX11_word 18 = .ok (.getfield 199, 3) := by decide +kernel
theorem dX11_word_21 : decode cX11_word 21 = .ok (.caload, 1) := by decide +kernel
theorem dX11_word_22 : decode cX11_word 22 = .ok (.invokestatic 216, 3) := by decide +kernel
theorem dX11_word_25 : decode cX11_word 25 = .ok (.ifCond .eq 58, 3) := by decide +kernel
theorem dX11_word_28 : decode cX11_word 28 = .ok (.aload_n 0, 1) := by decide +kernel
theorem dX11_word_29 : decode cX11_word 29 = .ok (.getfield 199, 3) := by decide +kernel
theorem dX11_word_32 : decode cX11_word 32 = .ok (.aload_n 0, 1) := by decide +kernel
theorem dX11_word_33 : decode cX11_word 33 = .ok (.getfield 219, 3) := by decide +kernel
theorem dX11_word_36 : decode cX11_word 36 = .ok (.isub, 1) := by decide +kernel
theorem dX11_word_37 : decode cX11_word 37 = .ok (.istore_n 3, 1) := by decide +kernel
theorem dX11_word_38 : decode cX11_word 38 = .ok (.lload_n 1, 1) := by decide +kernel
theorem dX11_word_39 : decode cX11_word 39 = .ok (.iload_n 3, 1) := by decide +kernel
theorem dX11_word_40 : decode cX11_word 40 = .ok (.bipush 7, 2) := by decide +kernel
theorem dX11_word_42 : decode cX11_word 42 = .ok (.if_icmp .ge 25, 3) := by decide +kernel
theorem dX11_word_45 : decode cX11_word 45 = .ok (.aload_n 0, 1) := by decide +kernel
theorem dX11_word_46 : decode cX11_word 46 = .ok (.getfield 16, 3) := by decide +kernel
theorem dX11_word_49 : decode cX11_word 49 = .ok (.aload_n 0, 1) := by decide +kernel
theorem dX11_word_50 : decode cX11_word 50 = .ok (.getfield 199, 3) := by decide +kernel
theorem dX11_word_53 : decode cX11_word 53 = .ok (.caload, 1) := by decide +kernel
theorem dX11_word_54 : decode cX11_word 54 = .ok (.bipush 97, 2) := by decide +kernel
theorem dX11_word_56 : decode cX11_word 56 = .ok (.isub, 1) := by decide +kernel
theorem dX11_word_57 : decode cX11_word 57 = .ok (.iconst 1, 1) := by decide +kernel
theorem dX11_word_58 : decode cX11_word 58 = .ok (.iadd, 1) := by decide +kernel
theorem dX11_word_59 : decode cX11_word 59 = .ok (.i2l, 1) := by decide +kernel
theorem dX11_word_60 : decode cX11_word 60 = .ok (.iconst 5, 1) := by decide +kernel
theorem dX11_word_61 : decode cX11_word 61 = .ok (.iload_n 3, 1) := by decide +kernel
theorem dX11_word_62 : decode cX11_word 62 = .ok (.imul, 1) := by decide +kernel
theorem dX11_word_63 : decode cX11_word 63 = .ok (.lshl, 1) := by decide +kernel
theorem dX11_word_64 : decode cX11_word 64 = .ok (.goto 4, 3) := by decide +kernel
theorem dX11_word_67 : decode cX11_word 67 = .ok (.lconst 0, 1) := by decide +kernel
theorem dX11_word_68 : decode cX11_word 68 = .ok (.ladd, 1) := by decide +kernel
theorem dX11_word_69 : decode cX11_word 69 = .ok (.lstore_n 1, 1) := by decide +kernel
theorem dX11_word_70 : decode cX11_word 70 = .ok (.aload_n 0, 1) := by decide +kernel
theorem dX11_word_71 : decode cX11_word 71 = .ok (.dup, 1) := by decide +kernel
theorem dX11_word_72 : decode cX11_word 72 = .ok (.getfield 199, 3) := by decide +kernel
theorem dX11_word_75 : decode cX11_word 75 = .ok (.iconst 1, 1) := by decide +kernel
theorem dX11_word_76 : decode cX11_word 76 = .ok (.iadd, 1) := by decide +kernel
theorem dX11_word_77 : decode cX11_word 77 = .ok (.putfield 199, 3) := by decide +kernel
theorem dX11_word_80 : decode cX11_word 80 = .ok (.goto (-78), 3) := by decide +kernel
theorem dX11_word_83 : decode cX11_word 83 = .ok (.lload_n 1, 1) := by decide +kernel
theorem dX11_word_84 : decode cX11_word 84 = .ok (.ldc2_w 222, 3) := by decide +kernel
theorem dX11_word_87 : decode cX11_word 87 = .ok (.lcmp, 1) := by decide +kernel
theorem dX11_word_88 : decode cX11_word 88 = .ok (.ifCond .ne 5, 3) := by decide +kernel
theorem dX11_word_91 : decode cX11_word 91 = .ok (.iconst 4, 1) := by decide +kernel
theorem dX11_word_92 : decode cX11_word 92 = .ok (.ireturn, 1) := by decide +kernel
theorem dX11_word_93 : decode cX11_word 93 = .ok (.lload_n 1, 1) := by decide +kernel
theorem dX11_word_94 : decode cX11_word 94 = .ok (.ldc2_w 224, 3) := by decide +kernel
theorem dX11_word_97 : decode cX11_word 97 = .ok (.lcmp, 1) := by decide +kernel
theorem dX11_word_98 : decode cX11_word 98 = .ok (.ifCond .ne 5, 3) := by decide +kernel
theorem dX11_word_101 : decode cX11_word 101 = .ok (.iconst 5, 1) := by decide +kernel
theorem dX11_word_102 : decode cX11_word 102 = .ok (.ireturn, 1) := by decide +kernel
theorem dX11_word_103 : decode cX11_word 103 = .ok (.lload_n 1, 1) := by decide +kernel
theorem dX11_word_104 : decode cX11_word 104 = .ok (.ldc2_w 226, 3) := by decide +kernel
theorem dX11_word_107 : decode cX11_word 107 = .ok (.lcmp, 1) := by decide +kernel
theorem dX11_word_108 : decode cX11_word 108 = .ok (.ifCond .ne 6, 3) := by decide +kernel
theorem dX11_word_111 : decode cX11_word 111 = .ok (.bipush 6, 2) := by decide +kernel
theorem dX11_word_113 : decode cX11_word 113 = .ok (.ireturn, 1) := by decide +kernel
theorem dX11_word_114 : decode cX11_word 114 = .ok (.lload_n 1, 1) := by decide +kernel
theorem dX11_word_115 : decode cX11_word 115 = .ok (.ldc2_w 228, 3) := by decide +kernel
theorem dX11_word_118 : decode cX11_word 118 = .ok (.lcmp, 1) := by decide +kernel
theorem dX11_word_119 : decode cX11_word 119 = .ok (.ifCond .ne 6, 3) := by decide +kernel
theorem dX11_word_122 : decode cX11_word 122 = .ok (.bipush 7, 2) := by decide +kernel
theorem dX11_word_124 : decode cX11_word 124 = .ok (.ireturn, 1) := by decide +kernel
theorem dX11_word_125 : decode cX11_word 125 = .ok (.lload_n 1, 1) := by decide +kernel
theorem dX11_word_126 : decode cX11_word 126 = .ok (.ldc2_w 230, 3) := by decide +kernel
theorem dX11_word_129 : decode cX11_word 129 = .ok (.lcmp, 1) := by decide +kernel
theorem dX11_word_130 : decode cX11_word 130 = .ok (.ifCond .ne 6, 3) := by decide +kernel
theorem dX11_word_133 : decode cX11_word 133 = .ok (.bipush 8, 2) := by decide +kernel
theorem dX11_word_135 : decode cX11_word 135 = .ok (.ireturn, 1) := by decide +kernel
theorem dX11_word_136 : decode cX11_word 136 = .ok (.lload_n 1, 1) := by decide +kernel
theorem dX11_word_137 : decode cX11_word 137 = .ok (.ldc2_w 232, 3) := by decide +kernel
theorem dX11_word_140 : decode cX11_word 140 = .ok (.lcmp, 1) := by decide +kernel
theorem dX11_word_141 : decode cX11_word 141 = .ok (.ifCond .ne 6, 3) := by decide +kernel
theorem dX11_word_144 : decode cX11_word 144 = .ok (.bipush 9, 2) := by decide +kernel
theorem dX11_word_146 : decode cX11_word 146 = .ok (.ireturn, 1) := by decide +kernel
theorem dX11_word_147 : decode cX11_word 147 = .ok (.lload_n 1, 1) := by decide +kernel
theorem dX11_word_148 : decode cX11_word 148 = .ok (.ldc2_w 234, 3) := by decide +kernel
theorem dX11_word_151 : decode cX11_word 151 = .ok (.lcmp, 1) := by decide +kernel
theorem dX11_word_152 : decode cX11_word 152 = .ok (.ifCond .ne 8, 3) := by decide +kernel
theorem dX11_word_155 : decode cX11_word 155 = .ok (.bipush 10, 2) := by decide +kernel
theorem dX11_word_157 : decode cX11_word 157 = .ok (.goto 4, 3) := by decide +kernel
theorem dX11_word_160 : decode cX11_word 160 = .ok (.iconst 2, 1) := by decide +kernel
theorem dX11_word_161 : decode cX11_word 161 = .ok (.ireturn, 1) := by decide +kernel
theorem dX11_either_0 : decode cX11_either 0 = .ok (.aload_n 0, 1) := by decide +kernel
theorem dX11_either_1 : decode cX11_either 1 = .ok (.getfield 199, 3) := by decide +kernel
theorem dX11_either_4 : decode cX11_either 4 = .ok (.aload_n 0, 1) := by decide +kernel
theorem dX11_either_5 : decode cX11_either 5 = .ok (.getfield 196, 3) := by decide +kernel
theorem dX11_either_8 : decode cX11_either 8 = .ok (.if_icmp .ge 20, 3) := by decide +kernel
theorem dX11_either_11 : decode cX11_either 11 = .ok (.aload_n 0, 1) := by decide +kernel
theorem dX11_either_12 : decode cX11_either 12 = .ok (.getfield 16, 3) := by decide +kernel
theorem dX11_either_15 : decode cX11_either 15 = .ok (.aload_n 0, 1) := by decide +kernel
theorem dX11_either_16 : decode cX11_either 16 = .ok (.getfield 199, 3) := by decide +kernel
theorem dX11_either_19 : decode cX11_either 19 = .ok (.caload, 1) := by decide +kernel
theorem dX11_either_20 : decode cX11_either 20 = .ok (.iload_n 1, 1) := by decide +kernel
theorem dX11_either_21 : decode cX11_either 21 = .ok (.if_icmp .ne 7, 3) := by decide +kernel
theorem dX11_either_24 : decode cX11_either 24 = .ok (.iconst 1, 1) := by decide +kernel
theorem dX11_either_25 : decode cX11_either 25 = .ok (.goto 4, 3) := by decide +kernel
theorem dX11_either_28 : decode cX11_either 28 = .ok (.iconst 0, 1) := by decide +kernel
theorem dX11_either_29 : decode cX11_either 29 = .ok (.istore 4, 2) := by decide +kernel
theorem dX11_either_31 : decode cX11_either 31 = .ok (.aload_n 0, 1) := by decide +kernel
theorem dX11_either_32 : decode cX11_either 32 = .ok (.dup, 1) := by decide +kernel
theorem dX11_either_33 : decode cX11_either 33 = .ok (.getfield 199, 3) := by decide +kernel
theorem dX11_either_36 : decode cX11_either 36 = .ok (.iload 4, 2) := by decide +kernel
theorem dX11_either_38 : decode cX11_either 38 = .ok (.ifCond .eq 7, 3) := by decide +kernel
theorem dX11_either_41 : decode cX11_either 41 = .ok (.iconst 1, 1) := by decide +kernel
theorem dX11_either_42 : decode cX11_either 42 = .ok (.goto 4, 3) := by decide +kernel
theorem dX11_either_45 : decode cX11_either 45 = .ok (.iconst 0, 1) := by decide +kernel
theorem dX11_either_46 : decode cX11_either 46 = .ok (.iadd, 1) := by decide +kernel
theorem dX11_either_47 : decode cX11_either 47 = .ok (.putfield 199, 3) := by decide +kernel
theorem dX11_either_50 : decode cX11_either 50 = .ok (.iload 4, 2) := by decide +kernel
theorem dX11_either_52 : decode cX11_either 52 = .ok (.ifCond .eq 7, 3) := by decide +kernel
theorem dX11_either_55 : decode cX11_either 55 = .ok (.iload_n 2, 1) := by decide +kernel
theorem dX11_either_56 : decode cX11_either 56 = .ok (.goto 4, 3) := by decide +kernel
theorem dX11_either_59 : decode cX11_either 59 = .ok (.iload_n 3, 1) := by decide +kernel
theorem dX11_either_60 : decode cX11_either 60 = .ok (.ireturn, 1) := by decide +kernel
theorem dX11_mark_0 : decode cX11_mark 0 = .ok (.iload_n 1, 1) := by decide +kernel
theorem dX11_mark_1 : decode cX11_mark 1 = .ok (.lookupswitch 255 #[(33, 203), (35, 252), (37, 167), (38, 214), (40, 234), (41, 237), (42, 161), (43, 155), (44, 246), (45, 158), (47, 164), (59, 249), (60, 170), (61, 192), (62, 181), (123, 240), (124, 224), (125, 243)], 155) := by decide +kernel
theorem dX11_mark_156 : decode cX11_mark 156 = .ok (.bipush 11, 2) := by decide +kernel
theorem dX11_mark_158 : decode cX11_mark 158 = .ok (.ireturn, 1) := by decide +kernel
theorem dX11_mark_159 : decode cX11_mark 159 = .ok (.bipush 12, 2) := by decide +kernel
theorem dX11_mark_161 : decode cX11_mark 161 = .ok (.ireturn, 1) := by decide +kernel
theorem dX11_mark_162 : decode cX11_mark 162 = .ok (.bipush 13, 2) := by decide +kernel
theorem dX11_mark_164 : decode cX11_mark 164 = .ok (.ireturn, 1) := by decide +kernel
theorem dX11_mark_165 : decode cX11_mark 165 = .ok (.bipush 14, 2) := by decide +kernel
theorem dX11_mark_167 : decode cX11_mark 167 = .ok (.ireturn, 1) := by decide +kernel
theorem dX11_mark_168 : decode cX11_mark 168 = .ok (.bipush 15, 2) := by decide +kernel
theorem dX11_mark_170 : decode cX11_mark 170 = .ok (.ireturn, 1) := by decide +kernel
theorem dX11_mark_171 : decode cX11_mark 171 = .ok (.aload_n 0, 1) := by decide +kernel
theorem dX11_mark_172 : decode cX11_mark 172 = .ok (.bipush 61, 2) := by decide +kernel
theorem dX11_mark_174 : decode cX11_mark 174 = .ok (.bipush 17, 2) := by decide +kernel
theorem dX11_mark_176 : decode cX11_mark 176 = .ok (.bipush 16, 2) := by decide +kernel
theorem dX11_mark_178 : decode cX11_mark 178 = .ok (.invokevirtual 236, 3) := by decide +kernel
theorem dX11_mark_181 : decode cX11_mark 181 = .ok (.ireturn, 1) := by decide +kernel
theorem dX11_mark_182 : decode cX11_mark 182 = .ok (.aload_n 0, 1) := by decide +kernel
theorem dX11_mark_183 : decode cX11_mark 183 = .ok (.bipush 61, 2) := by decide +kernel
theorem dX11_mark_185 : decode cX11_mark 185 = .ok (.bipush 19, 2) := by decide +kernel
theorem dX11_mark_187 : decode cX11_mark 187 = .ok (.bipush 18, 2) := by decide +kernel
theorem dX11_mark_189 : decode cX11_mark 189 = .ok (.invokevirtual 236, 3) := by decide +kernel
theorem dX11_mark_192 : decode cX11_mark 192 = .ok (.ireturn, 1) := by decide +kernel
theorem dX11_mark_193 : decode cX11_mark 193 = .ok (.aload_n 0, 1) := by decide +kernel
theorem dX11_mark_194 : decode cX11_mark 194 = .ok (.bipush 61, 2) := by decide +kernel
theorem dX11_mark_196 : decode cX11_mark 196 = .ok (.bipush 20, 2) := by decide +kernel
theorem dX11_mark_198 : decode cX11_mark 198 = .ok (.bipush 25, 2) := by decide +kernel
theorem dX11_mark_200 : decode cX11_mark 200 = .ok (.invokevirtual 236, 3) := by decide +kernel
theorem dX11_mark_203 : decode cX11_mark 203 = .ok (.ireturn, 1) := by decide +kernel
theorem dX11_mark_204 : decode cX11_mark 204 = .ok (.aload_n 0, 1) := by decide +kernel
theorem dX11_mark_205 : decode cX11_mark 205 = .ok (.bipush 61, 2) := by decide +kernel
theorem dX11_mark_207 : decode cX11_mark 207 = .ok (.bipush 21, 2) := by decide +kernel
theorem dX11_mark_209 : decode cX11_mark 209 = .ok (.bipush 24, 2) := by decide +kernel
theorem dX11_mark_211 : decode cX11_mark 211 = .ok (.invokevirtual 236, 3) := by decide +kernel
theorem dX11_mark_214 : decode cX11_mark 214 = .ok (.ireturn, 1) := by decide +kernel
theorem dX11_mark_215 : decode cX11_mark 215 = .ok (.aload_n 0, 1) := by decide +kernel
theorem dX11_mark_216 : decode cX11_mark 216 = .ok (.bipush 38, 2) := by decide +kernel
theorem dX11_mark_218 : decode cX11_mark 218 = .ok (.bipush 22, 2) := by decide +kernel
theorem dX11_mark_220 : decode cX11_mark 220 = .ok (.iconst (-1), 1) := by decide +kernel
theorem dX11_mark_221 : decode cX11_mark 221 = .ok (.invokevirtual 236, 3) := by decide +kernel
theorem dX11_mark_224 : decode cX11_mark 224 = .ok (.ireturn, 1) := by decide +kernel
theorem dX11_mark_225 : decode cX11_mark 225 = .ok (.aload_n 0, 1) := by decide +kernel
theorem dX11_mark_226 : decode cX11_mark 226 = .ok (.bipush 124, 2) := by decide +kernel
theorem dX11_mark_228 : decode cX11_mark 228 = .ok (.bipush 23, 2) := by decide +kernel
theorem dX11_mark_230 : decode cX11_mark 230 = .ok (.iconst (-1), 1) := by decide +kernel
theorem dX11_mark_231 : decode cX11_mark 231 = .ok (.invokevirtual 236, 3) := by decide +kernel
theorem dX11_mark_234 : decode cX11_mark 234 = .ok (.ireturn, 1) := by decide +kernel
theorem dX11_mark_235 : decode cX11_mark 235 = .ok (.bipush 26, 2) := by decide +kernel
theorem dX11_mark_237 : decode cX11_mark 237 = .ok (.ireturn, 1) := by decide +kernel
theorem dX11_mark_238 : decode cX11_mark 238 = .ok (.bipush 27, 2) := by decide +kernel
theorem dX11_mark_240 : decode cX11_mark 240 = .ok (.ireturn, 1) := by decide +kernel
theorem dX11_mark_241 : decode cX11_mark 241 = .ok (.bipush 28, 2) := by decide +kernel
theorem dX11_mark_243 : decode cX11_mark 243 = .ok (.ireturn, 1) := by decide +kernel
theorem dX11_mark_244 : decode cX11_mark 244 = .ok (.bipush 29, 2) := by decide +kernel
theorem dX11_mark_246 : decode cX11_mark 246 = .ok (.ireturn, 1) := by decide +kernel
theorem dX11_mark_247 : decode cX11_mark 247 = .ok (.bipush 30, 2) := by decide +kernel
theorem dX11_mark_249 : decode cX11_mark 249 = .ok (.ireturn, 1) := by decide +kernel
theorem dX11_mark_250 : decode cX11_mark 250 = .ok (.bipush 31, 2) := by decide +kernel
theorem dX11_mark_252 : decode cX11_mark 252 = .ok (.ireturn, 1) := by decide +kernel
theorem dX11_mark_253 : decode cX11_mark 253 = .ok (.bipush 32, 2) := by decide +kernel
theorem dX11_mark_255 : decode cX11_mark 255 = .ok (.ireturn, 1) := by decide +kernel
theorem dX11_mark_256 : decode cX11_mark 256 = .ok (.iconst (-1), 1) := by decide +kernel
theorem dX11_mark_257 : decode cX11_mark 257 = .ok (.ireturn, 1) := by decide +kernel
theorem dX11_reads_0 : decode cX11_reads 0 = .ok (.aload_n 0, 1) := by decide +kernel
theorem dX11_reads_1 : decode cX11_reads 1 = .ok (.aload_n 0, 1) := by decide +kernel
theorem dX11_reads_2 : decode cX11_reads 2 = .ok (.aload_n 0, 1) := by decide +kernel
theorem dX11_reads_3 : decode cX11_reads 3 = .ok (.getfield 199, 3) := by decide +kernel
theorem dX11_reads_6 : decode cX11_reads 6 = .ok (.invokevirtual 202, 3) := by decide +kernel
theorem dX11_reads_9 : decode cX11_reads 9 = .ok (.putfield 219, 3) := by decide +kernel
theorem dX11_reads_12 : decode cX11_reads 12 = .ok (.aload_n 0, 1) := by decide +kernel
theorem dX11_reads_13 : decode cX11_reads 13 = .ok (.aload_n 0, 1) := by decide +kernel
theorem dX11_reads_14 : decode cX11_reads 14 = .ok (.getfield 219, 3) := by decide +kernel
theorem dX11_reads_17 : decode cX11_reads 17 = .ok (.putfield 199, 3) := by decide +kernel
theorem dX11_reads_20 : decode cX11_reads 20 = .ok (.aload_n 0, 1) := by decide +kernel
theorem dX11_reads_21 : decode cX11_reads 21 = .ok (.getfield 219, 3) := by decide +kernel
theorem dX11_reads_24 : decode cX11_reads 24 = .ok (.aload_n 0, 1) := by decide +kernel
theorem dX11_reads_25 : decode cX11_reads 25 = .ok (.getfield 196, 3) := by decide +kernel
theorem dX11_reads_28 : decode cX11_reads 28 = .ok (.if_icmp .ne 11, 3) := by decide +kernel
theorem dX11_reads_31 : decode cX11_reads 31 = .ok (.aload_n 0, 1) := by decide +kernel
theorem dX11_reads_32 : decode cX11_reads 32 = .ok (.iconst 0, 1) := by decide +kernel
theorem dX11_reads_33 : decode cX11_reads 33 = .ok (.putfield 240, 3) := by decide +kernel
theorem dX11_reads_36 : decode cX11_reads 36 = .ok (.goto 82, 3) := by decide +kernel
theorem dX11_reads_39 : decode cX11_reads 39 = .ok (.aload_n 0, 1) := by decide +kernel
theorem dX11_reads_40 : decode cX11_reads 40 = .ok (.getfield 16, 3) := by decide +kernel
theorem dX11_reads_43 : decode cX11_reads 43 = .ok (.aload_n 0, 1) := by decide +kernel
theorem dX11_reads_44 : decode cX11_reads 44 = .ok (.getfield 219, 3) := by decide +kernel
theorem dX11_reads_47 : decode cX11_reads 47 = .ok (.caload, 1) := by decide +kernel
theorem dX11_reads_48 : decode cX11_reads 48 = .ok (.invokestatic 205, 3) := by decide +kernel
theorem dX11_reads_51 : decode cX11_reads 51 = .ok (.ifCond .eq 14, 3) := by decide +kernel
theorem dX11_reads_54 : decode cX11_reads 54 = .ok (.aload_n 0, 1) := by decide +kernel
theorem dX11_reads_55 : decode cX11_reads 55 = .ok (.aload_n 0, 1) := by decide +kernel
theorem dX11_reads_56 : decode cX11_reads 56 = .ok (.invokevirtual 243, 3) := by decide +kernel
theorem dX11_reads_59 : decode cX11_reads 59 = .ok (.putfield 240, 3) := by decide +kernel
theorem dX11_reads_62 : decode cX11_reads 62 = .ok (.goto 56, 3) := by decide +kernel
theorem dX11_reads_65 : decode cX11_reads 65 = .ok (.aload_n 0, 1) := by decide +kernel
theorem dX11_reads_66 : decode cX11_reads 66 = .ok (.getfield 16, 3) := by decide +kernel
theorem dX11_reads_69 : decode cX11_reads 69 = .ok (.aload_n 0, 1) := by decide +kernel
theorem dX11_reads_70 : decode cX11_reads 70 = .ok (.getfield 219, 3) := by decide +kernel
theorem dX11_reads_73 : decode cX11_reads 73 = .ok (.caload, 1) := by decide +kernel
theorem dX11_reads_74 : decode cX11_reads 74 = .ok (.invokestatic 216, 3) := by decide +kernel
theorem dX11_reads_77 : decode cX11_reads 77 = .ok (.ifCond .eq 14, 3) := by decide +kernel
theorem dX11_reads_80 : decode cX11_reads 80 = .ok (.aload_n 0, 1) := by decide +kernel
theorem dX11_reads_81 : decode cX11_reads 81 = .ok (.aload_n 0, 1) := by decide +kernel
theorem dX11_reads_82 : decode cX11_reads 82 = .ok (.invokevirtual 247, 3) := by decide +kernel
theorem dX11_reads_85 : decode cX11_reads 85 = .ok (.putfield 240, 3) := by decide +kernel
theorem dX11_reads_88 : decode cX11_reads 88 = .ok (.goto 30, 3) := by decide +kernel
theorem dX11_reads_91 : decode cX11_reads 91 = .ok (.aload_n 0, 1) := by decide +kernel
theorem dX11_reads_92 : decode cX11_reads 92 = .ok (.dup, 1) := by decide +kernel
theorem dX11_reads_93 : decode cX11_reads 93 = .ok (.getfield 199, 3) := by decide +kernel
theorem dX11_reads_96 : decode cX11_reads 96 = .ok (.iconst 1, 1) := by decide +kernel
theorem dX11_reads_97 : decode cX11_reads 97 = .ok (.iadd, 1) := by decide +kernel
theorem dX11_reads_98 : decode cX11_reads 98 = .ok (.putfield 199, 3) := by decide +kernel
theorem dX11_reads_101 : decode cX11_reads 101 = .ok (.aload_n 0, 1) := by decide +kernel
theorem dX11_reads_102 : decode cX11_reads 102 = .ok (.aload_n 0, 1) := by decide +kernel
theorem dX11_reads_103 : decode cX11_reads 103 = .ok (.aload_n 0, 1) := by decide +kernel
theorem dX11_reads_104 : decode cX11_reads 104 = .ok (.getfield 16, 3) := by decide +kernel
theorem dX11_reads_107 : decode cX11_reads 107 = .ok (.aload_n 0, 1) := by decide +kernel
theorem dX11_reads_108 : decode cX11_reads 108 = .ok (.getfield 219, 3) := by decide +kernel
theorem dX11_reads_111 : decode cX11_reads 111 = .ok (.caload, 1) := by decide +kernel
theorem dX11_reads_112 : decode cX11_reads 112 = .ok (.invokevirtual 250, 3) := by decide +kernel
theorem dX11_reads_115 : decode cX11_reads 115 = .ok (.putfield 240, 3) := by decide +kernel
theorem dX11_reads_118 : decode cX11_reads 118 = .ok (.return_, 1) := by decide +kernel
theorem dX11_fails_0 : decode cX11_fails 0 = .ok (.aload_n 0, 1) := by decide +kernel
theorem dX11_fails_1 : decode cX11_fails 1 = .ok (.iload_n 1, 1) := by decide +kernel
theorem dX11_fails_2 : decode cX11_fails 2 = .ok (.putfield 254, 3) := by decide +kernel
theorem dX11_fails_5 : decode cX11_fails 5 = .ok (.aload_n 0, 1) := by decide +kernel
theorem dX11_fails_6 : decode cX11_fails 6 = .ok (.aload_n 0, 1) := by decide +kernel
theorem dX11_fails_7 : decode cX11_fails 7 = .ok (.getfield 219, 3) := by decide +kernel
theorem dX11_fails_10 : decode cX11_fails 10 = .ok (.putfield 257, 3) := by decide +kernel
theorem dX11_fails_13 : decode cX11_fails 13 = .ok (.iconst 0, 1) := by decide +kernel
theorem dX11_fails_14 : decode cX11_fails 14 = .ok (.ireturn, 1) := by decide +kernel
theorem dX11_adds_0 : decode cX11_adds 0 = .ok (.aload_n 0, 1) := by decide +kernel
theorem dX11_adds_1 : decode cX11_adds 1 = .ok (.getfield 19, 3) := by decide +kernel
theorem dX11_adds_4 : decode cX11_adds 4 = .ok (.aload_n 0, 1) := by decide +kernel
theorem dX11_adds_5 : decode cX11_adds 5 = .ok (.getfield 260, 3) := by decide +kernel
theorem dX11_adds_8 : decode cX11_adds 8 = .ok (.iload_n 1, 1) := by decide +kernel
theorem dX11_adds_9 : decode cX11_adds 9 = .ok (.iastore, 1) := by decide +kernel
theorem dX11_adds_10 : decode cX11_adds 10 = .ok (.aload_n 0, 1) := by decide +kernel
theorem dX11_adds_11 : decode cX11_adds 11 = .ok (.getfield 23, 3) := by decide +kernel
theorem dX11_adds_14 : decode cX11_adds 14 = .ok (.aload_n 0, 1) := by decide +kernel
theorem dX11_adds_15 : decode cX11_adds 15 = .ok (.getfield 260, 3) := by decide +kernel
theorem dX11_adds_18 : decode cX11_adds 18 = .ok (.iload_n 2, 1) := by decide +kernel
theorem dX11_adds_19 : decode cX11_adds 19 = .ok (.iastore, 1) := by decide +kernel
theorem dX11_adds_20 : decode cX11_adds 20 = .ok (.aload_n 0, 1) := by decide +kernel
theorem dX11_adds_21 : decode cX11_adds 21 = .ok (.dup, 1) := by decide +kernel
theorem dX11_adds_22 : decode cX11_adds 22 = .ok (.getfield 260, 3) := by decide +kernel
theorem dX11_adds_25 : decode cX11_adds 25 = .ok (.iconst 1, 1) := by decide +kernel
theorem dX11_adds_26 : decode cX11_adds 26 = .ok (.iadd, 1) := by decide +kernel
theorem dX11_adds_27 : decode cX11_adds 27 = .ok (.putfield 260, 3) := by decide +kernel
theorem dX11_adds_30 : decode cX11_adds 30 = .ok (.aload_n 0, 1) := by decide +kernel
theorem dX11_adds_31 : decode cX11_adds 31 = .ok (.getfield 260, 3) := by decide +kernel
theorem dX11_adds_34 : decode cX11_adds 34 = .ok (.iconst 1, 1) := by decide +kernel
theorem dX11_adds_35 : decode cX11_adds 35 = .ok (.isub, 1) := by decide +kernel
theorem dX11_adds_36 : decode cX11_adds 36 = .ok (.ireturn, 1) := by decide +kernel
theorem dX11_takes_0 : decode cX11_takes 0 = .ok (.aload_n 0, 1) := by decide +kernel
theorem dX11_takes_1 : decode cX11_takes 1 = .ok (.getfield 26, 3) := by decide +kernel
theorem dX11_takes_4 : decode cX11_takes 4 = .ok (.aload_n 0, 1) := by decide +kernel
theorem dX11_takes_5 : decode cX11_takes 5 = .ok (.getfield 263, 3) := by decide +kernel
theorem dX11_takes_8 : decode cX11_takes 8 = .ok (.iload_n 1, 1) := by decide +kernel
theorem dX11_takes_9 : decode cX11_takes 9 = .ok (.iastore, 1) := by decide +kernel
theorem dX11_takes_10 : decode cX11_takes 10 = .ok (.aload_n 0, 1) := by decide +kernel
theorem dX11_takes_11 : decode cX11_takes 11 = .ok (.dup, 1) := by decide +kernel
theorem dX11_takes_12 : decode cX11_takes 12 = .ok (.getfield 263, 3) := by decide +kernel
theorem dX11_takes_15 : decode cX11_takes 15 = .ok (.iconst 1, 1) := by decide +kernel
theorem dX11_takes_16 : decode cX11_takes 16 = .ok (.iadd, 1) := by decide +kernel
theorem dX11_takes_17 : decode cX11_takes 17 = .ok (.putfield 263, 3) := by decide +kernel
theorem dX11_takes_20 : decode cX11_takes 20 = .ok (.aload_n 0, 1) := by decide +kernel
theorem dX11_takes_21 : decode cX11_takes 21 = .ok (.iload_n 2, 1) := by decide +kernel
theorem dX11_takes_22 : decode cX11_takes 22 = .ok (.putfield 266, 3) := by decide +kernel
theorem dX11_takes_25 : decode cX11_takes 25 = .ok (.iconst 1, 1) := by decide +kernel
theorem dX11_takes_26 : decode cX11_takes 26 = .ok (.ireturn, 1) := by decide +kernel
theorem dX11_beginsPart_0 : decode cX11_beginsPart 0 = .ok (.aload_n 0, 1) := by decide +kernel
theorem dX11_beginsPart_1 : decode cX11_beginsPart 1 = .ok (.aload_n 0, 1) := by decide +kernel
theorem dX11_beginsPart_2 : decode cX11_beginsPart 2 = .ok (.getfield 269, 3) := by decide +kernel
theorem dX11_beginsPart_5 : decode cX11_beginsPart 5 = .ok (.putfield 272, 3) := by decide +kernel
theorem dX11_beginsPart_8 : decode cX11_beginsPart 8 = .ok (.aload_n 0, 1) := by decide +kernel
theorem dX11_beginsPart_9 : decode cX11_beginsPart 9 = .ok (.getfield 29, 3) := by decide +kernel
theorem dX11_beginsPart_12 : decode cX11_beginsPart 12 = .ok (.aload_n 0, 1) := by decide +kernel
theorem dX11_beginsPart_13 : decode cX11_beginsPart 13 = .ok (.getfield 272, 3) := by decide +kernel
theorem dX11_beginsPart_16 : decode cX11_beginsPart 16 = .ok (.aload_n 0, 1) := by decide +kernel
theorem dX11_beginsPart_17 : decode cX11_beginsPart 17 = .ok (.getfield 263, 3) := by decide +kernel
theorem dX11_beginsPart_20 : decode cX11_beginsPart 20 = .ok (.iastore, 1) := by decide +kernel
theorem dX11_beginsPart_21 : decode cX11_beginsPart 21 = .ok (.aload_n 0, 1) := by decide +kernel
theorem dX11_beginsPart_22 : decode cX11_beginsPart 22 = .ok (.dup, 1) := by decide +kernel
theorem dX11_beginsPart_23 : decode cX11_beginsPart 23 = .ok (.getfield 269, 3) := by decide +kernel
theorem dX11_beginsPart_26 : decode cX11_beginsPart 26 = .ok (.iconst 1, 1) := by decide +kernel
theorem dX11_beginsPart_27 : decode cX11_beginsPart 27 = .ok (.iadd, 1) := by decide +kernel
theorem dX11_beginsPart_28 : decode cX11_beginsPart 28 = .ok (.putfield 269, 3) := by decide +kernel
theorem dX11_beginsPart_31 : decode cX11_beginsPart 31 = .ok (.return_, 1) := by decide +kernel
theorem dX11_opens_0 : decode cX11_opens 0 = .ok (.aload_n 0, 1) := by decide +kernel
theorem dX11_opens_1 : decode cX11_opens 1 = .ok (.getfield 68, 3) := by decide +kernel
theorem dX11_opens_4 : decode cX11_opens 4 = .ok (.aload_n 0, 1) := by decide +kernel
theorem dX11_opens_5 : decode cX11_opens 5 = .ok (.getfield 275, 3) := by decide +kernel
theorem dX11_opens_8 : decode cX11_opens 8 = .ok (.iload_n 1, 1) := by decide +kernel
theorem dX11_opens_9 : decode cX11_opens 9 = .ok (.iastore, 1) := by decide +kernel
theorem dX11_opens_10 : decode cX11_opens 10 = .ok (.aload_n 0, 1) := by decide +kernel
theorem dX11_opens_11 : decode cX11_opens 11 = .ok (.getfield 71, 3) := by decide +kernel
theorem dX11_opens_14 : decode cX11_opens 14 = .ok (.aload_n 0, 1) := by decide +kernel
theorem dX11_opens_15 : decode cX11_opens 15 = .ok (.getfield 275, 3) := by decide +kernel
theorem dX11_opens_18 : decode cX11_opens 18 = .ok (.iload_n 2, 1) := by decide +kernel
theorem dX11_opens_19 : decode cX11_opens 19 = .ok (.iastore, 1) := by decide +kernel
theorem dX11_opens_20 : decode cX11_opens 20 = .ok (.aload_n 0, 1) := by decide +kernel
theorem dX11_opens_21 : decode cX11_opens 21 = .ok (.dup, 1) := by decide +kernel
theorem dX11_opens_22 : decode cX11_opens 22 = .ok (.getfield 275, 3) := by decide +kernel
theorem dX11_opens_25 : decode cX11_opens 25 = .ok (.iconst 1, 1) := by decide +kernel
theorem dX11_opens_26 : decode cX11_opens 26 = .ok (.iadd, 1) := by decide +kernel
theorem dX11_opens_27 : decode cX11_opens 27 = .ok (.putfield 275, 3) := by decide +kernel
theorem dX11_opens_30 : decode cX11_opens 30 = .ok (.return_, 1) := by decide +kernel
theorem dX11_top_0 : decode cX11_top 0 = .ok (.aload_n 0, 1) := by decide +kernel
theorem dX11_top_1 : decode cX11_top 1 = .ok (.getfield 275, 3) := by decide +kernel
theorem dX11_top_4 : decode cX11_top 4 = .ok (.ifCond .ne 7, 3) := by decide +kernel
theorem dX11_top_7 : decode cX11_top 7 = .ok (.iconst (-1), 1) := by decide +kernel
theorem dX11_top_8 : decode cX11_top 8 = .ok (.goto 14, 3) := by decide +kernel
theorem dX11_top_11 : decode cX11_top 11 = .ok (.aload_n 0, 1) := by decide +kernel
theorem dX11_top_12 : decode cX11_top 12 = .ok (.getfield 68, 3) := by decide +kernel
theorem dX11_top_15 : decode cX11_top 15 = .ok (.aload_n 0, 1) := by decide +kernel
theorem dX11_top_16 : decode cX11_top 16 = .ok (.getfield 275, 3) := by decide +kernel
theorem dX11_top_19 : decode cX11_top 19 = .ok (.iconst 1, 1) := by decide +kernel
theorem dX11_top_20 : decode cX11_top 20 = .ok (.isub, 1) := by decide +kernel
theorem dX11_top_21 : decode cX11_top 21 = .ok (.iaload, 1) := by decide +kernel
theorem dX11_top_22 : decode cX11_top 22 = .ok (.ireturn, 1) := by decide +kernel
theorem dX11_rises_0 : decode cX11_rises 0 = .ok (.aload_n 0, 1) := by decide +kernel
theorem dX11_rises_1 : decode cX11_rises 1 = .ok (.getfield 278, 3) := by decide +kernel
theorem dX11_rises_4 : decode cX11_rises 4 = .ok (.bipush 8, 2) := by decide +kernel
theorem dX11_rises_6 : decode cX11_rises 6 = .ok (.if_icmp .ne 9, 3) := by decide +kernel
theorem dX11_rises_9 : decode cX11_rises 9 = .ok (.aload_n 0, 1) := by decide +kernel
theorem dX11_rises_10 : decode cX11_rises 10 = .ok (.iconst 4, 1) := by decide +kernel
theorem dX11_rises_11 : decode cX11_rises 11 = .ok (.invokevirtual 281, 3) := by decide +kernel
theorem dX11_rises_14 : decode cX11_rises 14 = .ok (.ireturn, 1) := by decide +kernel
theorem dX11_rises_15 : decode cX11_rises 15 = .ok (.aload_n 0, 1) := by decide +kernel
theorem dX11_rises_16 : decode cX11_rises 16 = .ok (.dup, 1) := by decide +kernel
theorem dX11_rises_17 : decode cX11_rises 17 = .ok (.getfield 278, 3) := by decide +kernel
theorem dX11_rises_20 : decode cX11_rises 20 = .ok (.iconst 1, 1) := by decide +kernel
theorem dX11_rises_21 : decode cX11_rises 21 = .ok (.iadd, 1) := by decide +kernel
theorem dX11_rises_22 : decode cX11_rises 22 = .ok (.putfield 278, 3) := by decide +kernel
theorem dX11_rises_25 : decode cX11_rises 25 = .ok (.iconst 1, 1) := by decide +kernel
theorem dX11_rises_26 : decode cX11_rises 26 = .ok (.ireturn, 1) := by decide +kernel
theorem dX11_isName_0 : decode cX11_isName 0 = .ok (.iload_n 2, 1) := by decide +kernel
theorem dX11_isName_1 : decode cX11_isName 1 = .ok (.iload 4, 2) := by decide +kernel
theorem dX11_isName_3 : decode cX11_isName 3 = .ok (.if_icmp .ne 7, 3) := by decide +kernel
theorem dX11_isName_6 : decode cX11_isName 6 = .ok (.iconst 1, 1) := by decide +kernel
theorem dX11_isName_7 : decode cX11_isName 7 = .ok (.goto 4, 3) := by decide +kernel
theorem dX11_isName_10 : decode cX11_isName 10 = .ok (.iconst 0, 1) := by decide +kernel
theorem dX11_isName_11 : decode cX11_isName 11 = .ok (.istore 5, 2) := by decide +kernel
theorem dX11_isName_13 : decode cX11_isName 13 = .ok (.iconst 0, 1) := by decide +kernel
theorem dX11_isName_14 : decode cX11_isName 14 = .ok (.istore 6, 2) := by decide +kernel
theorem dX11_isName_16 : decode cX11_isName 16 = .ok (.iload 6, 2) := by decide +kernel
theorem dX11_isName_18 : decode cX11_isName 18 = .ok (.iload_n 2, 1) := by decide +kernel
theorem dX11_isName_19 : decode cX11_isName 19 = .ok (.if_icmp .ge 42, 3) := by decide +kernel
theorem dX11_isName_22 : decode cX11_isName 22 = .ok (.iload 5, 2) := by decide +kernel
theorem dX11_isName_24 : decode cX11_isName 24 = .ok (.ifCond .eq 37, 3) := by decide +kernel
theorem dX11_isName_27 : decode cX11_isName 27 = .ok (.aload_n 0, 1) := by decide +kernel
theorem dX11_isName_28 : decode cX11_isName 28 = .ok (.getfield 16, 3) := by decide +kernel
theorem dX11_isName_31 : decode cX11_isName 31 = .ok (.iload_n 1, 1) := by decide +kernel
theorem dX11_isName_32 : decode cX11_isName 32 = .ok (.iload 6, 2) := by decide +kernel
theorem dX11_isName_34 : decode cX11_isName 34 = .ok (.iadd, 1) := by decide +kernel
theorem dX11_isName_35 : decode cX11_isName 35 = .ok (.caload, 1) := by decide +kernel
theorem dX11_isName_36 : decode cX11_isName 36 = .ok (.aload_n 0, 1) := by decide +kernel
theorem dX11_isName_37 : decode cX11_isName 37 = .ok (.getfield 16, 3) := by decide +kernel
theorem dX11_isName_40 : decode cX11_isName 40 = .ok (.iload_n 3, 1) := by decide +kernel
theorem dX11_isName_41 : decode cX11_isName 41 = .ok (.iload 6, 2) := by decide +kernel
theorem dX11_isName_43 : decode cX11_isName 43 = .ok (.iadd, 1) := by decide +kernel
theorem dX11_isName_44 : decode cX11_isName 44 = .ok (.caload, 1) := by decide +kernel
theorem dX11_isName_45 : decode cX11_isName 45 = .ok (.if_icmp .ne 7, 3) := by decide +kernel
theorem dX11_isName_48 : decode cX11_isName 48 = .ok (.iconst 1, 1) := by decide +kernel
theorem dX11_isName_49 : decode cX11_isName 49 = .ok (.goto 4, 3) := by decide +kernel
theorem dX11_isName_52 : decode cX11_isName 52 = .ok (.iconst 0, 1) := by decide +kernel
theorem dX11_isName_53 : decode cX11_isName 53 = .ok (.istore 5, 2) := by decide +kernel
theorem dX11_isName_55 : decode cX11_isName 55 = .ok (.iinc 6 1, 3) := by decide +kernel
theorem dX11_isName_58 : decode cX11_isName 58 = .ok (.goto (-42), 3) := by decide +kernel
theorem dX11_isName_61 : decode cX11_isName 61 = .ok (.iload 5, 2) := by decide +kernel
theorem dX11_isName_63 : decode cX11_isName 63 = .ok (.ireturn, 1) := by decide +kernel
theorem dX11_known_0 : decode cX11_known 0 = .ok (.iconst (-1), 1) := by decide +kernel
theorem dX11_known_1 : decode cX11_known 1 = .ok (.istore_n 1, 1) := by decide +kernel
theorem dX11_known_2 : decode cX11_known 2 = .ok (.iconst 0, 1) := by decide +kernel
theorem dX11_known_3 : decode cX11_known 3 = .ok (.istore_n 2, 1) := by decide +kernel
theorem dX11_known_4 : decode cX11_known 4 = .ok (.iload_n 2, 1) := by decide +kernel
theorem dX11_known_5 : decode cX11_known 5 = .ok (.aload_n 0, 1) := by decide +kernel
theorem dX11_known_6 : decode cX11_known 6 = .ok (.getfield 35, 3) := by decide +kernel
theorem dX11_known_9 : decode cX11_known 9 = .ok (.aload_n 0, 1) := by decide +kernel
theorem dX11_known_10 : decode cX11_known 10 = .ok (.getfield 285, 3) := by decide +kernel
theorem dX11_known_13 : decode cX11_known 13 = .ok (.iaload, 1) := by decide +kernel
theorem dX11_known_14 : decode cX11_known 14 = .ok (.if_icmp .ge 57, 3) := by decide +kernel
theorem dX11_known_17 : decode cX11_known 17 = .ok (.bipush 8, 2) := by decide +kernel
theorem dX11_known_19 : decode cX11_known 19 = .ok (.aload_n 0, 1) := by decide +kernel
theorem dX11_known_20 : decode cX11_known 20 = .ok (.getfield 285, 3) := by decide +kernel
theorem dX11_known_23 : decode cX11_known 23 = .ok (.imul, 1) := by decide +kernel
theorem dX11_known_24 : decode cX11_known 24 = .ok (.iload_n 2, 1) := by decide +kernel
theorem dX11_known_25 : decode cX11_known 25 = .ok (.iadd, 1) := by decide +kernel
theorem dX11_known_26 : decode cX11_known 26 = .ok (.istore_n 3, 1) := by decide +kernel
theorem dX11_known_27 : decode cX11_known 27 = .ok (.aload_n 0, 1) := by decide +kernel
theorem dX11_known_28 : decode cX11_known 28 = .ok (.aload_n 0, 1) := by decide +kernel
theorem dX11_known_29 : decode cX11_known 29 = .ok (.getfield 38, 3) := by decide +kernel
theorem dX11_known_32 : decode cX11_known 32 = .ok (.iload_n 3, 1) := by decide +kernel
theorem dX11_known_33 : decode cX11_known 33 = .ok (.iaload, 1) := by decide +kernel
theorem dX11_known_34 : decode cX11_known 34 = .ok (.aload_n 0, 1) := by decide +kernel
theorem dX11_known_35 : decode cX11_known 35 = .ok (.getfield 41, 3) := by decide +kernel
theorem dX11_known_38 : decode cX11_known 38 = .ok (.iload_n 3, 1) := by decide +kernel
theorem dX11_known_39 : decode cX11_known 39 = .ok (.iaload, 1) := by decide +kernel
theorem dX11_known_40 : decode cX11_known 40 = .ok (.aload_n 0, 1) := by decide +kernel
theorem dX11_known_41 : decode cX11_known 41 = .ok (.getfield 219, 3) := by decide +kernel
theorem dX11_known_44 : decode cX11_known 44 = .ok (.aload_n 0, 1) := by decide +kernel
theorem dX11_known_45 : decode cX11_known 45 = .ok (.getfield 199, 3) := by decide +kernel
theorem dX11_known_48 : decode cX11_known 48 = .ok (.aload_n 0, 1) := by decide +kernel
theorem dX11_known_49 : decode cX11_known 49 = .ok (.getfield 219, 3) := by decide +kernel
theorem dX11_known_52 : decode cX11_known 52 = .ok (.isub, 1) := by decide +kernel
theorem dX11_known_53 : decode cX11_known 53 = .ok (.invokevirtual 288, 3) := by decide +kernel
theorem dX11_known_56 : decode cX11_known 56 = .ok (.ifCond .eq 7, 3) := by decide +kernel
theorem dX11_known_59 : decode cX11_known 59 = .ok (.iload_n 2, 1) := by decide +kernel
theorem dX11_known_60 : decode cX11_known 60 = .ok (.goto 4, 3) := by decide +kernel
theorem dX11_known_63 : decode cX11_known 63 = .ok (.iload_n 1, 1) := by decide +kernel
theorem dX11_known_64 : decode cX11_known 64 = .ok (.istore_n 1, 1) := by decide +kernel
theorem dX11_known_65 : decode cX11_known 65 = .ok (.iinc 2 1, 3) := by decide +kernel
theorem dX11_known_68 : decode cX11_known 68 = .ok (.goto (-64), 3) := by decide +kernel
theorem dX11_known_71 : decode cX11_known 71 = .ok (.iload_n 1, 1) := by decide +kernel
theorem dX11_known_72 : decode cX11_known 72 = .ok (.ireturn, 1) := by decide +kernel
theorem dX11_variable_0 : decode cX11_variable 0 = .ok (.aload_n 0, 1) := by decide +kernel
theorem dX11_variable_1 : decode cX11_variable 1 = .ok (.invokevirtual 292, 3) := by decide +kernel
theorem dX11_variable_4 : decode cX11_variable 4 = .ok (.istore_n 1, 1) := by decide +kernel
theorem dX11_variable_5 : decode cX11_variable 5 = .ok (.iload_n 1, 1) := by decide +kernel
theorem dX11_variable_6 : decode cX11_variable 6 = .ok (.iconst (-1), 1) := by decide +kernel
theorem dX11_variable_7 : decode cX11_variable 7 = .ok (.if_icmp .ne 17, 3) := by decide +kernel
theorem dX11_variable_10 : decode cX11_variable 10 = .ok (.aload_n 0, 1) := by decide +kernel
theorem dX11_variable_11 : decode cX11_variable 11 = .ok (.getfield 35, 3) := by decide +kernel
theorem dX11_variable_14 : decode cX11_variable 14 = .ok (.aload_n 0, 1) := by decide +kernel
theorem dX11_variable_15 : decode cX11_variable 15 = .ok (.getfield 285, 3) := by decide +kernel
theorem dX11_variable_18 : decode cX11_variable 18 = .ok (.iaload, 1) := by decide +kernel
theorem dX11_variable_19 : decode cX11_variable 19 = .ok (.bipush 8, 2) := by decide +kernel
theorem dX11_variable_21 : decode cX11_variable 21 = .ok (.if_icmp .ne 5, 3) := by decide +kernel
theorem dX11_variable_24 : decode cX11_variable 24 = .ok (.iload_n 1, 1) := by decide +kernel
theorem dX11_variable_25 : decode cX11_variable 25 = .ok (.ireturn, 1) := by decide +kernel
theorem dX11_variable_26 : decode cX11_variable 26 = .ok (.aload_n 0, 1) := by decide +kernel
theorem dX11_variable_27 : decode cX11_variable 27 = .ok (.getfield 38, 3) := by decide +kernel
theorem dX11_variable_30 : decode cX11_variable 30 = .ok (.bipush 8, 2) := by decide +kernel
theorem dX11_variable_32 : decode cX11_variable 32 = .ok (.aload_n 0, 1) := by decide +kernel
theorem dX11_variable_33 : decode cX11_variable 33 = .ok (.getfield 285, 3) := by decide +kernel
theorem dX11_variable_36 : decode cX11_variable 36 = .ok (.imul, 1) := by decide +kernel
theorem dX11_variable_37 : decode cX11_variable 37 = .ok (.aload_n 0, 1) := by decide +kernel
theorem dX11_variable_38 : decode cX11_variable 38 = .ok (.getfield 35, 3) := by decide +kernel
theorem dX11_variable_41 : decode cX11_variable 41 = .ok (.aload_n 0, 1) := by decide +kernel
theorem dX11_variable_42 : decode cX11_variable 42 = .ok (.getfield 285, 3) := by decide +kernel
theorem dX11_variable_45 : decode cX11_variable 45 = .ok (.iaload, 1) := by decide +kernel
theorem dX11_variable_46 : decode cX11_variable 46 = .ok (.iadd, 1) := by decide +kernel
theorem dX11_variable_47 : decode cX11_variable 47 = .ok (.aload_n 0, 1) := by decide +kernel
theorem dX11_variable_48 : decode cX11_variable 48 = .ok (.getfield 219, 3) := by decide +kernel
theorem dX11_variable_51 : decode cX11_variable 51 = .ok (.iastore, 1) := by decide +kernel
theorem dX11_variable_52 : decode cX11_variable 52 = .ok (.aload_n 0, 1) := by decide +kernel
theorem dX11_variable_53 : decode cX11_variable 53 = .ok (.getfield 41, 3) := by decide +kernel
theorem dX11_variable_56 : decode cX11_variable 56 = .ok (.bipush 8, 2) := by decide +kernel
theorem dX11_variable_58 : decode cX11_variable 58 = .ok (.aload_n 0, 1) := by decide +kernel
theorem dX11_variable_59 : decode cX11_variable 59 = .ok (.getfield 285, 3) := by decide +kernel
theorem dX11_variable_62 : decode cX11_variable 62 = .ok (.imul, 1) := by decide +kernel
theorem dX11_variable_63 : decode cX11_variable 63 = .ok (.aload_n 0, 1) := by decide +kernel
theorem dX11_variable_64 : decode cX11_variable 64 = .ok (.getfield 35, 3) := by decide +kernel
theorem dX11_variable_67 : decode cX11_variable 67 = .ok (.aload_n 0, 1) := by decide +kernel
theorem dX11_variable_68 : decode cX11_variable 68 = .ok (.getfield 285, 3) := by decide +kernel
theorem dX11_variable_71 : decode cX11_variable 71 = .ok (.iaload, 1) := by decide +kernel
theorem dX11_variable_72 : decode cX11_variable 72 = .ok (.iadd, 1) := by decide +kernel
theorem dX11_variable_73 : decode cX11_variable 73 = .ok (.aload_n 0, 1) := by decide +kernel
theorem dX11_variable_74 : decode cX11_variable 74 = .ok (.getfield 199, 3) := by decide +kernel
theorem dX11_variable_77 : decode cX11_variable 77 = .ok (.aload_n 0, 1) := by decide +kernel
theorem dX11_variable_78 : decode cX11_variable 78 = .ok (.getfield 219, 3) := by decide +kernel
theorem dX11_variable_81 : decode cX11_variable 81 = .ok (.isub, 1) := by decide +kernel
theorem dX11_variable_82 : decode cX11_variable 82 = .ok (.iastore, 1) := by decide +kernel
theorem dX11_variable_83 : decode cX11_variable 83 = .ok (.aload_n 0, 1) := by decide +kernel
theorem dX11_variable_84 : decode cX11_variable 84 = .ok (.getfield 35, 3) := by decide +kernel
theorem dX11_variable_87 : decode cX11_variable 87 = .ok (.aload_n 0, 1) := by decide +kernel
theorem dX11_variable_88 : decode cX11_variable 88 = .ok (.getfield 285, 3) := by decide +kernel
theorem dX11_variable_91 : decode cX11_variable 91 = .ok (.dup2, 1) := by decide +kernel
theorem dX11_variable_92 : decode cX11_variable 92 = .ok (.iaload, 1) := by decide +kernel
theorem dX11_variable_93 : decode cX11_variable 93 = .ok (.iconst 1, 1) := by decide +kernel
theorem dX11_variable_94 : decode cX11_variable 94 = .ok (.iadd, 1) := by decide +kernel
theorem dX11_variable_95 : decode cX11_variable 95 = .ok (.iastore, 1) := by decide +kernel
theorem dX11_variable_96 : decode cX11_variable 96 = .ok (.aload_n 0, 1) := by decide +kernel
theorem dX11_variable_97 : decode cX11_variable 97 = .ok (.getfield 35, 3) := by decide +kernel
theorem dX11_variable_100 : decode cX11_variable 100 = .ok (.aload_n 0, 1) := by decide +kernel
theorem dX11_variable_101 : decode cX11_variable 101 = .ok (.getfield 285, 3) := by decide +kernel
theorem dX11_variable_104 : decode cX11_variable 104 = .ok (.iaload, 1) := by decide +kernel
theorem dX11_variable_105 : decode cX11_variable 105 = .ok (.iconst 1, 1) := by decide +kernel
theorem dX11_variable_106 : decode cX11_variable 106 = .ok (.isub, 1) := by decide +kernel
theorem dX11_variable_107 : decode cX11_variable 107 = .ok (.ireturn, 1) := by decide +kernel
theorem dX11_defOf_0 : decode cX11_defOf 0 = .ok (.iconst (-1), 1) := by decide +kernel
theorem dX11_defOf_1 : decode cX11_defOf 1 = .ok (.istore_n 3, 1) := by decide +kernel
theorem dX11_defOf_2 : decode cX11_defOf 2 = .ok (.aload_n 0, 1) := by decide +kernel
theorem dX11_defOf_3 : decode cX11_defOf 3 = .ok (.getfield 295, 3) := by decide +kernel
theorem dX11_defOf_6 : decode cX11_defOf 6 = .ok (.iconst 1, 1) := by decide +kernel
theorem dX11_defOf_7 : decode cX11_defOf 7 = .ok (.isub, 1) := by decide +kernel
theorem dX11_defOf_8 : decode cX11_defOf 8 = .ok (.istore 4, 2) := by decide +kernel
theorem dX11_defOf_10 : decode cX11_defOf 10 = .ok (.iload 4, 2) := by decide +kernel
theorem dX11_defOf_12 : decode cX11_defOf 12 = .ok (.ifCond .lt 39, 3) := by decide +kernel
theorem dX11_defOf_15 : decode cX11_defOf 15 = .ok (.aload_n 0, 1) := by decide +kernel
theorem dX11_defOf_16 : decode cX11_defOf 16 = .ok (.aload_n 0, 1) := by decide +kernel
theorem dX11_defOf_17 : decode cX11_defOf 17 = .ok (.getfield 44, 3) := by decide +kernel
theorem dX11_defOf_20 : decode cX11_defOf 20 = .ok (.iload 4, 2) := by decide +kernel
theorem dX11_defOf_22 : decode cX11_defOf 22 = .ok (.iaload, 1) := by decide +kernel
theorem dX11_defOf_23 : decode cX11_defOf 23 = .ok (.aload_n 0, 1) := by decide +kernel
theorem dX11_defOf_24 : decode cX11_defOf 24 = .ok (.getfield 47, 3) := by decide +kernel
theorem dX11_defOf_27 : decode cX11_defOf 27 = .ok (.iload 4, 2) := by decide +kernel
theorem dX11_defOf_29 : decode cX11_defOf 29 = .ok (.iaload, 1) := by decide +kernel
theorem dX11_defOf_30 : decode cX11_defOf 30 = .ok (.iload_n 1, 1) := by decide +kernel
theorem dX11_defOf_31 : decode cX11_defOf 31 = .ok (.iload_n 2, 1) := by decide +kernel
theorem dX11_defOf_32 : decode cX11_defOf 32 = .ok (.invokevirtual 288, 3) := by decide +kernel
theorem dX11_defOf_35 : decode cX11_defOf 35 = .ok (.ifCond .eq 8, 3) := by decide +kernel
theorem dX11_defOf_38 : decode cX11_defOf 38 = .ok (.iload 4, 2) := by decide +kernel
theorem dX11_defOf_40 : decode cX11_defOf 40 = .ok (.goto 4, 3) := by decide +kernel
theorem dX11_defOf_43 : decode cX11_defOf 43 = .ok (.iload_n 3, 1) := by decide +kernel
theorem dX11_defOf_44 : decode cX11_defOf 44 = .ok (.istore_n 3, 1) := by decide +kernel
theorem dX11_defOf_45 : decode cX11_defOf 45 = .ok (.iinc 4 (-1), 3) := by decide +kernel
theorem dX11_defOf_48 : decode cX11_defOf 48 = .ok (.goto (-38), 3) := by decide +kernel
theorem dX11_defOf_51 : decode cX11_defOf 51 = .ok (.iload_n 3, 1) := by decide +kernel
theorem dX11_defOf_52 : decode cX11_defOf 52 = .ok (.ireturn, 1) := by decide +kernel
theorem dX11_level_0 : decode cX11_level 0 = .ok (.iload_n 0, 1) := by decide +kernel
theorem dX11_level_1 : decode cX11_level 1 = .ok (.tableswitch 80 11 23 #[75, 75, 77, 77, 77, 73, 73, 73, 73, 71, 71, 69, 67], 67) := by decide +kernel
theorem dX11_level_68 : decode cX11_level 68 = .ok (.iconst 1, 1) := by decide +kernel
theorem dX11_level_69 : decode cX11_level 69 = .ok (.ireturn, 1) := by decide +kernel
theorem dX11_level_70 : decode cX11_level 70 = .ok (.iconst 2, 1) := by decide +kernel
theorem dX11_level_71 : decode cX11_level 71 = .ok (.ireturn, 1) := by decide +kernel
theorem dX11_level_72 : decode cX11_level 72 = .ok (.iconst 3, 1) := by decide +kernel
theorem dX11_level_73 : decode cX11_level 73 = .ok (.ireturn, 1) := by decide +kernel
theorem dX11_level_74 : decode cX11_level 74 = .ok (.iconst 4, 1) := by decide +kernel
theorem dX11_level_75 : decode cX11_level 75 = .ok (.ireturn, 1) := by decide +kernel
theorem dX11_level_76 : decode cX11_level 76 = .ok (.iconst 5, 1) := by decide +kernel
theorem dX11_level_77 : decode cX11_level 77 = .ok (.ireturn, 1) := by decide +kernel
theorem dX11_level_78 : decode cX11_level 78 = .ok (.bipush 6, 2) := by decide +kernel
theorem dX11_level_80 : decode cX11_level 80 = .ok (.ireturn, 1) := by decide +kernel
theorem dX11_level_81 : decode cX11_level 81 = .ok (.iconst 0, 1) := by decide +kernel
theorem dX11_level_82 : decode cX11_level 82 = .ok (.ireturn, 1) := by decide +kernel
theorem dX11_ends_0 : decode cX11_ends 0 = .ok (.aload_n 0, 1) := by decide +kernel
theorem dX11_ends_1 : decode cX11_ends 1 = .ok (.invokevirtual 298, 3) := by decide +kernel
theorem dX11_ends_4 : decode cX11_ends 4 = .ok (.iconst (-1), 1) := by decide +kernel
theorem dX11_ends_5 : decode cX11_ends 5 = .ok (.if_icmp .eq 108, 3) := by decide +kernel
theorem dX11_ends_8 : decode cX11_ends 8 = .ok (.aload_n 0, 1) := by decide +kernel
theorem dX11_ends_9 : decode cX11_ends 9 = .ok (.invokevirtual 298, 3) := by decide +kernel
theorem dX11_ends_12 : decode cX11_ends 12 = .ok (.bipush 40, 2) := by decide +kernel
theorem dX11_ends_14 : decode cX11_ends 14 = .ok (.if_icmp .ge 99, 3) := by decide +kernel
theorem dX11_ends_17 : decode cX11_ends 17 = .ok (.aload_n 0, 1) := by decide +kernel
theorem dX11_ends_18 : decode cX11_ends 18 = .ok (.invokevirtual 298, 3) := by decide +kernel
theorem dX11_ends_21 : decode cX11_ends 21 = .ok (.invokestatic 301, 3) := by decide +kernel
theorem dX11_ends_24 : decode cX11_ends 24 = .ok (.iload_n 1, 1) := by decide +kernel
theorem dX11_ends_25 : decode cX11_ends 25 = .ok (.if_icmp .lt 88, 3) := by decide +kernel
theorem dX11_ends_28 : decode cX11_ends 28 = .ok (.aload_n 0, 1) := by decide +kernel
theorem dX11_ends_29 : decode cX11_ends 29 = .ok (.dup, 1) := by decide +kernel
theorem dX11_ends_30 : decode cX11_ends 30 = .ok (.getfield 275, 3) := by decide +kernel
theorem dX11_ends_33 : decode cX11_ends 33 = .ok (.iconst 1, 1) := by decide +kernel
theorem dX11_ends_34 : decode cX11_ends 34 = .ok (.isub, 1) := by decide +kernel
theorem dX11_ends_35 : decode cX11_ends 35 = .ok (.putfield 275, 3) := by decide +kernel
theorem dX11_ends_38 : decode cX11_ends 38 = .ok (.aload_n 0, 1) := by decide +kernel
theorem dX11_ends_39 : decode cX11_ends 39 = .ok (.getfield 68, 3) := by decide +kernel
theorem dX11_ends_42 : decode cX11_ends 42 = .ok (.aload_n 0, 1) := by decide +kernel
theorem dX11_ends_43 : decode cX11_ends 43 = .ok (.getfield 275, 3) := by decide +kernel
theorem dX11_ends_46 : decode cX11_ends 46 = .ok (.iaload, 1) := by decide +kernel
theorem dX11_ends_47 : decode cX11_ends 47 = .ok (.bipush 22, 2) := by decide +kernel
theorem dX11_ends_49 : decode cX11_ends 49 = .ok (.if_icmp .eq 17, 3) := by decide +kernel
theorem dX11_ends_52 : decode cX11_ends 52 = .ok (.aload_n 0, 1) := by decide +kernel
theorem dX11_ends_53 : decode cX11_ends 53 = .ok (.getfield 68, 3) := by decide +kernel
theorem dX11_ends_56 : decode cX11_ends 56 = .ok (.aload_n 0, 1) := by decide +kernel
theorem dX11_ends_57 : decode cX11_ends 57 = .ok (.getfield 275, 3) := by decide +kernel
theorem dX11_ends_60 : decode cX11_ends 60 = .ok (.iaload, 1) := by decide +kernel
theorem dX11_ends_61 : decode cX11_ends 61 = .ok (.bipush 23, 2) := by decide +kernel
theorem dX11_ends_63 : decode cX11_ends 63 = .ok (.if_icmp .ne 32, 3) := by decide +kernel
theorem dX11_ends_66 : decode cX11_ends 66 = .ok (.aload_n 0, 1) := by decide +kernel
theorem dX11_ends_67 : decode cX11_ends 67 = .ok (.bipush 8, 2) := by decide +kernel
theorem dX11_ends_69 : decode cX11_ends 69 = .ok (.iconst 0, 1) := by decide +kernel
theorem dX11_ends_70 : decode cX11_ends 70 = .ok (.invokevirtual 304, 3) := by decide +kernel
theorem dX11_ends_73 : decode cX11_ends 73 = .ok (.istore_n 2, 1) := by decide +kernel
theorem dX11_ends_74 : decode cX11_ends 74 = .ok (.aload_n 0, 1) := by decide +kernel
theorem dX11_ends_75 : decode cX11_ends 75 = .ok (.getfield 23, 3) := by decide +kernel
theorem dX11_ends_78 : decode cX11_ends 78 = .ok (.aload_n 0, 1) := by decide +kernel
theorem dX11_ends_79 : decode cX11_ends 79 = .ok (.getfield 71, 3) := by decide +kernel
theorem dX11_ends_82 : decode cX11_ends 82 = .ok (.aload_n 0, 1) := by decide +kernel
theorem dX11_ends_83 : decode cX11_ends 83 = .ok (.getfield 275, 3) := by decide +kernel
theorem dX11_ends_86 : decode cX11_ends 86 = .ok (.iaload, 1) := by decide +kernel
theorem dX11_ends_87 : decode cX11_ends 87 = .ok (.aload_n 0, 1) := by decide +kernel
theorem dX11_ends_88 : decode cX11_ends 88 = .ok (.getfield 260, 3) := by decide +kernel
theorem dX11_ends_91 : decode cX11_ends 91 = .ok (.iastore, 1) := by decide +kernel
theorem dX11_ends_92 : decode cX11_ends 92 = .ok (.goto (-92), 3) := by decide +kernel
theorem dX11_ends_95 : decode cX11_ends 95 = .ok (.aload_n 0, 1) := by decide +kernel
theorem dX11_ends_96 : decode cX11_ends 96 = .ok (.iconst 5, 1) := by decide +kernel
theorem dX11_ends_97 : decode cX11_ends 97 = .ok (.aload_n 0, 1) := by decide +kernel
theorem dX11_ends_98 : decode cX11_ends 98 = .ok (.getfield 68, 3) := by decide +kernel
theorem dX11_ends_101 : decode cX11_ends 101 = .ok (.aload_n 0, 1) := by decide +kernel
theorem dX11_ends_102 : decode cX11_ends 102 = .ok (.getfield 275, 3) := by decide +kernel
theorem dX11_ends_105 : decode cX11_ends 105 = .ok (.iaload, 1) := by decide +kernel
theorem dX11_ends_106 : decode cX11_ends 106 = .ok (.invokevirtual 304, 3) := by decide +kernel
theorem dX11_ends_109 : decode cX11_ends 109 = .ok (.istore_n 2, 1) := by decide +kernel
theorem dX11_ends_110 : decode cX11_ends 110 = .ok (.goto (-110), 3) := by decide +kernel
theorem dX11_ends_113 : decode cX11_ends 113 = .ok (.return_, 1) := by decide +kernel
theorem dX11_around_0 : decode cX11_around 0 = .ok (.aload_n 0, 1) := by decide +kernel
theorem dX11_around_1 : decode cX11_around 1 = .ok (.getfield 275, 3) := by decide +kernel
theorem dX11_around_4 : decode cX11_around 4 = .ok (.iconst 1, 1) := by decide +kernel
theorem dX11_around_5 : decode cX11_around 5 = .ok (.isub, 1) := by decide +kernel
theorem dX11_around_6 : decode cX11_around 6 = .ok (.istore_n 1, 1) := by decide +kernel
theorem dX11_around_7 : decode cX11_around 7 = .ok (.aload_n 0, 1) := by decide +kernel
theorem dX11_around_8 : decode cX11_around 8 = .ok (.getfield 68, 3) := by decide +kernel
theorem dX11_around_11 : decode cX11_around 11 = .ok (.iload_n 1, 1) := by decide +kernel
theorem dX11_around_12 : decode cX11_around 12 = .ok (.iaload, 1) := by decide +kernel
theorem dX11_around_13 : decode cX11_around 13 = .ok (.bipush 40, 2) := by decide +kernel
theorem dX11_around_15 : decode cX11_around 15 = .ok (.if_icmp .ge 9, 3) := by decide +kernel
theorem dX11_around_18 : decode cX11_around 18 = .ok (.iinc 1 (-1), 3) := by decide +kernel
theorem dX11_around_21 : decode cX11_around 21 = .ok (.goto (-14), 3) := by decide +kernel
theorem dX11_around_24 : decode cX11_around 24 = .ok (.aload_n 0, 1) := by decide +kernel
theorem dX11_around_25 : decode cX11_around 25 = .ok (.getfield 68, 3) := by decide +kernel
theorem dX11_around_28 : decode cX11_around 28 = .ok (.iload_n 1, 1) := by decide +kernel
theorem dX11_around_29 : decode cX11_around 29 = .ok (.iaload, 1) := by decide +kernel
theorem dX11_around_30 : decode cX11_around 30 = .ok (.ireturn, 1) := by decide +kernel
theorem dX11_ended_0 : decode cX11_ended 0 = .ok (.aload_n 0, 1) := by decide +kernel
theorem dX11_ended_1 : decode cX11_ended 1 = .ok (.invokevirtual 298, 3) := by decide +kernel
theorem dX11_ended_4 : decode cX11_ended 4 = .ok (.bipush 40, 2) := by decide +kernel
theorem dX11_ended_6 : decode cX11_ended 6 = .ok (.if_icmp .ne 41, 3) := by decide +kernel
theorem dX11_ended_9 : decode cX11_ended 9 = .ok (.aload_n 0, 1) := by decide +kernel
theorem dX11_ended_10 : decode cX11_ended 10 = .ok (.dup, 1) := by decide +kernel
theorem dX11_ended_11 : decode cX11_ended 11 = .ok (.getfield 275, 3) := by decide +kernel
theorem dX11_ended_14 : decode cX11_ended 14 = .ok (.iconst 1, 1) := by decide +kernel
theorem dX11_ended_15 : decode cX11_ended 15 = .ok (.isub, 1) := by decide +kernel
theorem dX11_ended_16 : decode cX11_ended 16 = .ok (.putfield 275, 3) := by decide +kernel
theorem dX11_ended_19 : decode cX11_ended 19 = .ok (.aload_n 0, 1) := by decide +kernel
theorem dX11_ended_20 : decode cX11_ended 20 = .ok (.dup, 1) := by decide +kernel
theorem dX11_ended_21 : decode cX11_ended 21 = .ok (.getfield 278, 3) := by decide +kernel
theorem dX11_ended_24 : decode cX11_ended 24 = .ok (.iconst 1, 1) := by decide +kernel
theorem dX11_ended_25 : decode cX11_ended 25 = .ok (.isub, 1) := by decide +kernel
theorem dX11_ended_26 : decode cX11_ended 26 = .ok (.putfield 278, 3) := by decide +kernel
theorem dX11_ended_29 : decode cX11_ended 29 = .ok (.aload_n 0, 1) := by decide +kernel
theorem dX11_ended_30 : decode cX11_ended 30 = .ok (.iconst 4, 1) := by decide +kernel
theorem dX11_ended_31 : decode cX11_ended 31 = .ok (.aload_n 0, 1) := by decide +kernel
theorem dX11_ended_32 : decode cX11_ended 32 = .ok (.getfield 71, 3) := by decide +kernel
theorem dX11_ended_35 : decode cX11_ended 35 = .ok (.aload_n 0, 1) := by decide +kernel
theorem dX11_ended_36 : decode cX11_ended 36 = .ok (.getfield 275, 3) := by decide +kernel
theorem dX11_ended_39 : decode cX11_ended 39 = .ok (.iaload, 1) := by decide +kernel
theorem dX11_ended_40 : decode cX11_ended 40 = .ok (.invokevirtual 304, 3) := by decide +kernel
theorem dX11_ended_43 : decode cX11_ended 43 = .ok (.istore_n 1, 1) := by decide +kernel
theorem dX11_ended_44 : decode cX11_ended 44 = .ok (.goto (-44), 3) := by decide +kernel
theorem dX11_ended_47 : decode cX11_ended 47 = .ok (.aload_n 0, 1) := by decide +kernel
theorem dX11_ended_48 : decode cX11_ended 48 = .ok (.iconst 4, 1) := by decide +kernel
theorem dX11_ended_49 : decode cX11_ended 49 = .ok (.putfield 266, 3) := by decide +kernel
theorem dX11_ended_52 : decode cX11_ended 52 = .ok (.aload_n 0, 1) := by decide +kernel
theorem dX11_ended_53 : decode cX11_ended 53 = .ok (.invokevirtual 298, 3) := by decide +kernel
theorem dX11_ended_56 : decode cX11_ended 56 = .ok (.bipush 48, 2) := by decide +kernel
theorem dX11_ended_58 : decode cX11_ended 58 = .ok (.if_icmp .ne 32, 3) := by decide +kernel
theorem dX11_ended_61 : decode cX11_ended 61 = .ok (.aload_n 0, 1) := by decide +kernel
theorem dX11_ended_62 : decode cX11_ended 62 = .ok (.dup, 1) := by decide +kernel
theorem dX11_ended_63 : decode cX11_ended 63 = .ok (.getfield 275, 3) := by decide +kernel
theorem dX11_ended_66 : decode cX11_ended 66 = .ok (.iconst 1, 1) := by decide +kernel
theorem dX11_ended_67 : decode cX11_ended 67 = .ok (.isub, 1) := by decide +kernel
theorem dX11_ended_68 : decode cX11_ended 68 = .ok (.putfield 275, 3) := by decide +kernel
theorem dX11_ended_71 : decode cX11_ended 71 = .ok (.aload_n 0, 1) := by decide +kernel
theorem dX11_ended_72 : decode cX11_ended 72 = .ok (.dup, 1) := by decide +kernel
theorem dX11_ended_73 : decode cX11_ended 73 = .ok (.getfield 278, 3) := by decide +kernel
theorem dX11_ended_76 : decode cX11_ended 76 = .ok (.iconst 1, 1) := by decide +kernel
theorem dX11_ended_77 : decode cX11_ended 77 = .ok (.isub, 1) := by decide +kernel
theorem dX11_ended_78 : decode cX11_ended 78 = .ok (.putfield 278, 3) := by decide +kernel
theorem dX11_ended_81 : decode cX11_ended 81 = .ok (.aload_n 0, 1) := by decide +kernel
theorem dX11_ended_82 : decode cX11_ended 82 = .ok (.bipush 6, 2) := by decide +kernel
theorem dX11_ended_84 : decode cX11_ended 84 = .ok (.putfield 266, 3) := by decide +kernel
theorem dX11_ended_87 : decode cX11_ended 87 = .ok (.goto 36, 3) := by decide +kernel
theorem dX11_ended_90 : decode cX11_ended 90 = .ok (.aload_n 0, 1) := by decide +kernel
theorem dX11_ended_91 : decode cX11_ended 91 = .ok (.invokevirtual 298, 3) := by decide +kernel
theorem dX11_ended_94 : decode cX11_ended 94 = .ok (.bipush 50, 2) := by decide +kernel
theorem dX11_ended_96 : decode cX11_ended 96 = .ok (.if_icmp .ne 27, 3) := by decide +kernel
theorem dX11_ended_99 : decode cX11_ended 99 = .ok (.aload_n 0, 1) := by decide +kernel
theorem dX11_ended_100 : decode cX11_ended 100 = .ok (.dup, 1) := by decide +kernel
theorem dX11_ended_101 : decode cX11_ended 101 = .ok (.getfield 275, 3) := by decide +kernel
theorem dX11_ended_104 : decode cX11_ended 104 = .ok (.iconst 1, 1) := by decide +kernel
theorem dX11_ended_105 : decode cX11_ended 105 = .ok (.isub, 1) := by decide +kernel
theorem dX11_ended_106 : decode cX11_ended 106 = .ok (.putfield 275, 3) := by decide +kernel
theorem dX11_ended_109 : decode cX11_ended 109 = .ok (.aload_n 0, 1) := by decide +kernel
theorem dX11_ended_110 : decode cX11_ended 110 = .ok (.bipush 16, 2) := by decide +kernel
theorem dX11_ended_112 : decode cX11_ended 112 = .ok (.iconst 0, 1) := by decide +kernel
theorem dX11_ended_113 : decode cX11_ended 113 = .ok (.invokevirtual 304, 3) := by decide +kernel
theorem dX11_ended_116 : decode cX11_ended 116 = .ok (.istore_n 1, 1) := by decide +kernel
theorem dX11_ended_117 : decode cX11_ended 117 = .ok (.aload_n 0, 1) := by decide +kernel
theorem dX11_ended_118 : decode cX11_ended 118 = .ok (.bipush 14, 2) := by decide +kernel
theorem dX11_ended_120 : decode cX11_ended 120 = .ok (.putfield 266, 3) := by decide +kernel
theorem dX11_ended_123 : decode cX11_ended 123 = .ok (.iconst 1, 1) := by decide +kernel
theorem dX11_ended_124 : decode cX11_ended 124 = .ok (.ireturn, 1) := by decide +kernel
theorem dX11_opensCall_0 : decode cX11_opensCall 0 = .ok (.aload_n 0, 1) := by decide +kernel
theorem dX11_opensCall_1 : decode cX11_opensCall 1 = .ok (.getfield 56, 3) := by decide +kernel
theorem dX11_opensCall_4 : decode cX11_opensCall 4 = .ok (.aload_n 0, 1) := by decide +kernel
theorem dX11_opensCall_5 : decode cX11_opensCall 5 = .ok (.getfield 308, 3) := by decide +kernel
theorem dX11_opensCall_8 : decode cX11_opensCall 8 = .ok (.aload_n 0, 1) := by decide +kernel
theorem dX11_opensCall_9 : decode cX11_opensCall 9 = .ok (.getfield 219, 3) := by decide +kernel
theorem dX11_opensCall_12 : decode cX11_opensCall 12 = .ok (.iastore, 1) := by decide +kernel
theorem dX11_opensCall_13 : decode cX11_opensCall 13 = .ok (.aload_n 0, 1) := by decide +kernel
theorem dX11_opensCall_14 : decode cX11_opensCall 14 = .ok (.getfield 59, 3) := by decide +kernel
theorem dX11_opensCall_17 : decode cX11_opensCall 17 = .ok (.aload_n 0, 1) := by decide +kernel
theorem dX11_opensCall_18 : decode cX11_opensCall 18 = .ok (.getfield 308, 3) := by decide +kernel
theorem dX11_opensCall_21 : decode cX11_opensCall 21 = .ok (.aload_n 0, 1) := by decide +kernel
theorem dX11_opensCall_22 : decode cX11_opensCall 22 = .ok (.getfield 199, 3) := by decide +kernel
theorem dX11_opensCall_25 : decode cX11_opensCall 25 = .ok (.aload_n 0, 1) := by decide +kernel
theorem dX11_opensCall_26 : decode cX11_opensCall 26 = .ok (.getfield 219, 3) := by decide +kernel
theorem dX11_opensCall_29 : decode cX11_opensCall 29 = .ok (.isub, 1) := by decide +kernel
theorem dX11_opensCall_30 : decode cX11_opensCall 30 = .ok (.iastore, 1) := by decide +kernel
theorem dX11_opensCall_31 : decode cX11_opensCall 31 = .ok (.aload_n 0, 1) := by decide +kernel
theorem dX11_opensCall_32 : decode cX11_opensCall 32 = .ok (.getfield 62, 3) := by decide +kernel
theorem dX11_opensCall_35 : decode cX11_opensCall 35 = .ok (.aload_n 0, 1) := by decide +kernel
theorem dX11_opensCall_36 : decode cX11_opensCall 36 = .ok (.getfield 308, 3) := by decide +kernel
theorem dX11_opensCall_39 : decode cX11_opensCall 39 = .ok (.iconst 0, 1) := by decide +kernel
theorem dX11_opensCall_40 : decode cX11_opensCall 40 = .ok (.iastore, 1) := by decide +kernel
theorem dX11_opensCall_41 : decode cX11_opensCall 41 = .ok (.aload_n 0, 1) := by decide +kernel
theorem dX11_opensCall_42 : decode cX11_opensCall 42 = .ok (.bipush 42, 2) := by decide +kernel
theorem dX11_opensCall_44 : decode cX11_opensCall 44 = .ok (.aload_n 0, 1) := by decide +kernel
theorem dX11_opensCall_45 : decode cX11_opensCall 45 = .ok (.getfield 308, 3) := by decide +kernel
theorem dX11_opensCall_48 : decode cX11_opensCall 48 = .ok (.invokevirtual 311, 3) := by decide +kernel
theorem dX11_opensCall_51 : decode cX11_opensCall 51 = .ok (.aload_n 0, 1) := by decide +kernel
theorem dX11_opensCall_52 : decode cX11_opensCall 52 = .ok (.dup, 1) := by decide +kernel
theorem dX11_opensCall_53 : decode cX11_opensCall 53 = .ok (.getfield 308, 3) := by decide +kernel
theorem dX11_opensCall_56 : decode cX11_opensCall 56 = .ok (.iconst 1, 1) := by decide +kernel
theorem dX11_opensCall_57 : decode cX11_opensCall 57 = .ok (.iadd, 1) := by decide +kernel
theorem dX11_opensCall_58 : decode cX11_opensCall 58 = .ok (.putfield 308, 3) := by decide +kernel
theorem dX11_opensCall_61 : decode cX11_opensCall 61 = .ok (.aload_n 0, 1) := by decide +kernel
theorem dX11_opensCall_62 : decode cX11_opensCall 62 = .ok (.iconst 3, 1) := by decide +kernel
theorem dX11_opensCall_63 : decode cX11_opensCall 63 = .ok (.bipush 13, 2) := by decide +kernel
theorem dX11_opensCall_65 : decode cX11_opensCall 65 = .ok (.invokevirtual 315, 3) := by decide +kernel
theorem dX11_opensCall_68 : decode cX11_opensCall 68 = .ok (.ireturn, 1) := by decide +kernel
theorem dX11_closesCall_0 : decode cX11_closesCall 0 = .ok (.aload_n 0, 1) := by decide +kernel
theorem dX11_closesCall_1 : decode cX11_closesCall 1 = .ok (.bipush 27, 2) := by decide +kernel
theorem dX11_closesCall_3 : decode cX11_closesCall 3 = .ok (.iconst 4, 1) := by decide +kernel
theorem dX11_closesCall_4 : decode cX11_closesCall 4 = .ok (.invokevirtual 315, 3) := by decide +kernel
theorem dX11_closesCall_7 : decode cX11_closesCall 7 = .ok (.istore_n 1, 1) := by decide +kernel
theorem dX11_closesCall_8 : decode cX11_closesCall 8 = .ok (.aload_n 0, 1) := by decide +kernel
theorem dX11_closesCall_9 : decode cX11_closesCall 9 = .ok (.dup, 1) := by decide +kernel
theorem dX11_closesCall_10 : decode cX11_closesCall 10 = .ok (.getfield 275, 3) := by decide +kernel
theorem dX11_closesCall_13 : decode cX11_closesCall 13 = .ok (.iconst 1, 1) := by decide +kernel
theorem dX11_closesCall_14 : decode cX11_closesCall 14 = .ok (.isub, 1) := by decide +kernel
theorem dX11_closesCall_15 : decode cX11_closesCall 15 = .ok (.putfield 275, 3) := by decide +kernel
theorem dX11_closesCall_18 : decode cX11_closesCall 18 = .ok (.aload_n 0, 1) := by decide +kernel
theorem dX11_closesCall_19 : decode cX11_closesCall 19 = .ok (.dup, 1) := by decide +kernel
theorem dX11_closesCall_20 : decode cX11_closesCall 20 = .ok (.getfield 278, 3) := by decide +kernel
theorem dX11_closesCall_23 : decode cX11_closesCall 23 = .ok (.iconst 1, 1) := by decide +kernel
theorem dX11_closesCall_24 : decode cX11_closesCall 24 = .ok (.isub, 1) := by decide +kernel
theorem dX11_closesCall_25 : decode cX11_closesCall 25 = .ok (.putfield 278, 3) := by decide +kernel
theorem dX11_closesCall_28 : decode cX11_closesCall 28 = .ok (.aload_n 0, 1) := by decide +kernel
theorem dX11_closesCall_29 : decode cX11_closesCall 29 = .ok (.getfield 65, 3) := by decide +kernel
theorem dX11_closesCall_32 : decode cX11_closesCall 32 = .ok (.aload_n 0, 1) := by decide +kernel
theorem dX11_closesCall_33 : decode cX11_closesCall 33 = .ok (.getfield 71, 3) := by decide +kernel
theorem dX11_closesCall_36 : decode cX11_closesCall 36 = .ok (.aload_n 0, 1) := by decide +kernel
theorem dX11_closesCall_37 : decode cX11_closesCall 37 = .ok (.getfield 275, 3) := by decide +kernel
theorem dX11_closesCall_40 : decode cX11_closesCall 40 = .ok (.iaload, 1) := by decide +kernel
theorem dX11_closesCall_41 : decode cX11_closesCall 41 = .ok (.aload_n 0, 1) := by decide +kernel
theorem dX11_closesCall_42 : decode cX11_closesCall 42 = .ok (.bipush 10, 2) := by decide +kernel
theorem dX11_closesCall_44 : decode cX11_closesCall 44 = .ok (.iconst 0, 1) := by decide +kernel
theorem dX11_closesCall_45 : decode cX11_closesCall 45 = .ok (.invokevirtual 304, 3) := by decide +kernel
theorem dX11_closesCall_48 : decode cX11_closesCall 48 = .ok (.iastore, 1) := by decide +kernel
theorem dX11_closesCall_49 : decode cX11_closesCall 49 = .ok (.aload_n 0, 1) := by decide +kernel
theorem dX11_closesCall_50 : decode cX11_closesCall 50 = .ok (.invokevirtual 319, 3) := by decide +kernel
theorem dX11_closesCall_53 : decode cX11_closesCall 53 = .ok (.ireturn, 1) := by decide +kernel
theorem dX11_opensBlock_0 : decode cX11_opensBlock 0 = .ok (.aload_n 0, 1) := by decide +kernel
theorem dX11_opensBlock_1 : decode cX11_opensBlock 1 = .ok (.invokevirtual 323, 3) := by decide +kernel
theorem dX11_opensBlock_4 : decode cX11_opensBlock 4 = .ok (.ifCond .ne 5, 3) := by decide +kernel
theorem dX11_opensBlock_7 : decode cX11_opensBlock 7 = .ok (.iconst 0, 1) := by decide +kernel
theorem dX11_opensBlock_8 : decode cX11_opensBlock 8 = .ok (.ireturn, 1) := by decide +kernel
theorem dX11_opensBlock_9 : decode cX11_opensBlock 9 = .ok (.aload_n 0, 1) := by decide +kernel
theorem dX11_opensBlock_10 : decode cX11_opensBlock 10 = .ok (.getfield 74, 3) := by decide +kernel
theorem dX11_opensBlock_13 : decode cX11_opensBlock 13 = .ok (.aload_n 0, 1) := by decide +kernel
theorem dX11_opensBlock_14 : decode cX11_opensBlock 14 = .ok (.getfield 326, 3) := by decide +kernel
theorem dX11_opensBlock_17 : decode cX11_opensBlock 17 = .ok (.iload_n 1, 1) := by decide +kernel
theorem dX11_opensBlock_18 : decode cX11_opensBlock 18 = .ok (.iastore, 1) := by decide +kernel
theorem dX11_opensBlock_19 : decode cX11_opensBlock 19 = .ok (.aload_n 0, 1) := by decide +kernel
theorem dX11_opensBlock_20 : decode cX11_opensBlock 20 = .ok (.getfield 77, 3) := by decide +kernel
theorem dX11_opensBlock_23 : decode cX11_opensBlock 23 = .ok (.aload_n 0, 1) := by decide +kernel
theorem dX11_opensBlock_24 : decode cX11_opensBlock 24 = .ok (.getfield 326, 3) := by decide +kernel
theorem dX11_opensBlock_27 : decode cX11_opensBlock 27 = .ok (.iload_n 2, 1) := by decide +kernel
theorem dX11_opensBlock_28 : decode cX11_opensBlock 28 = .ok (.iastore, 1) := by decide +kernel
theorem dX11_opensBlock_29 : decode cX11_opensBlock 29 = .ok (.aload_n 0, 1) := by decide +kernel
theorem dX11_opensBlock_30 : decode cX11_opensBlock 30 = .ok (.getfield 80, 3) := by decide +kernel
theorem dX11_opensBlock_33 : decode cX11_opensBlock 33 = .ok (.aload_n 0, 1) := by decide +kernel
theorem dX11_opensBlock_34 : decode cX11_opensBlock 34 = .ok (.getfield 326, 3) := by decide +kernel
theorem dX11_opensBlock_37 : decode cX11_opensBlock 37 = .ok (.iload_n 3, 1) := by decide +kernel
theorem dX11_opensBlock_38 : decode cX11_opensBlock 38 = .ok (.iastore, 1) := by decide +kernel
theorem dX11_opensBlock_39 : decode cX11_opensBlock 39 = .ok (.aload_n 0, 1) := by decide +kernel
theorem dX11_opensBlock_40 : decode cX11_opensBlock 40 = .ok (.getfield 83, 3) := by decide +kernel
theorem dX11_opensBlock_43 : decode cX11_opensBlock 43 = .ok (.aload_n 0, 1) := by decide +kernel
theorem dX11_opensBlock_44 : decode cX11_opensBlock 44 = .ok (.getfield 326, 3) := by decide +kernel
theorem dX11_opensBlock_47 : decode cX11_opensBlock 47 = .ok (.iload 4, 2) := by decide +kernel
theorem dX11_opensBlock_49 : decode cX11_opensBlock 49 = .ok (.iastore, 1) := by decide +kernel
theorem dX11_opensBlock_50 : decode cX11_opensBlock 50 = .ok (.aload_n 0, 1) := by decide +kernel
theorem dX11_opensBlock_51 : decode cX11_opensBlock 51 = .ok (.dup, 1) := by decide +kernel
theorem dX11_opensBlock_52 : decode cX11_opensBlock 52 = .ok (.getfield 326, 3) := by decide +kernel
theorem dX11_opensBlock_55 : decode cX11_opensBlock 55 = .ok (.iconst 1, 1) := by decide +kernel
theorem dX11_opensBlock_56 : decode cX11_opensBlock 56 = .ok (.iadd, 1) := by decide +kernel
theorem dX11_opensBlock_57 : decode cX11_opensBlock 57 = .ok (.putfield 326, 3) := by decide +kernel
theorem dX11_opensBlock_60 : decode cX11_opensBlock 60 = .ok (.aload_n 0, 1) := by decide +kernel
theorem dX11_opensBlock_61 : decode cX11_opensBlock 61 = .ok (.bipush 28, 2) := by decide +kernel
theorem dX11_opensBlock_63 : decode cX11_opensBlock 63 = .ok (.iconst 0, 1) := by decide +kernel
theorem dX11_opensBlock_64 : decode cX11_opensBlock 64 = .ok (.invokevirtual 315, 3) := by decide +kernel
theorem dX11_opensBlock_67 : decode cX11_opensBlock 67 = .ok (.ireturn, 1) := by decide +kernel
theorem dX11_closesBlock_0 : decode cX11_closesBlock 0 = .ok (.aload_n 0, 1) := by decide +kernel
theorem dX11_closesBlock_1 : decode cX11_closesBlock 1 = .ok (.bipush 29, 2) := by decide +kernel
theorem dX11_closesBlock_3 : decode cX11_closesBlock 3 = .ok (.iconst 0, 1) := by decide +kernel
theorem dX11_closesBlock_4 : decode cX11_closesBlock 4 = .ok (.invokevirtual 315, 3) := by decide +kernel
theorem dX11_closesBlock_7 : decode cX11_closesBlock 7 = .ok (.istore_n 1, 1) := by decide +kernel
theorem dX11_closesBlock_8 : decode cX11_closesBlock 8 = .ok (.aload_n 0, 1) := by decide +kernel
theorem dX11_closesBlock_9 : decode cX11_closesBlock 9 = .ok (.dup, 1) := by decide +kernel
theorem dX11_closesBlock_10 : decode cX11_closesBlock 10 = .ok (.getfield 326, 3) := by decide +kernel
theorem dX11_closesBlock_13 : decode cX11_closesBlock 13 = .ok (.iconst 1, 1) := by decide +kernel
theorem dX11_closesBlock_14 : decode cX11_closesBlock 14 = .ok (.isub, 1) := by decide +kernel
theorem dX11_closesBlock_15 : decode cX11_closesBlock 15 = .ok (.putfield 326, 3) := by decide +kernel
theorem dX11_closesBlock_18 : decode cX11_closesBlock 18 = .ok (.aload_n 0, 1) := by decide +kernel
theorem dX11_closesBlock_19 : decode cX11_closesBlock 19 = .ok (.dup, 1) := by decide +kernel
theorem dX11_closesBlock_20 : decode cX11_closesBlock 20 = .ok (.getfield 278, 3) := by decide +kernel
theorem dX11_closesBlock_23 : decode cX11_closesBlock 23 = .ok (.iconst 1, 1) := by decide +kernel
theorem dX11_closesBlock_24 : decode cX11_closesBlock 24 = .ok (.isub, 1) := by decide +kernel
theorem dX11_closesBlock_25 : decode cX11_closesBlock 25 = .ok (.putfield 278, 3) := by decide +kernel
theorem dX11_closesBlock_28 : decode cX11_closesBlock 28 = .ok (.aload_n 0, 1) := by decide +kernel
theorem dX11_closesBlock_29 : decode cX11_closesBlock 29 = .ok (.getfield 32, 3) := by decide +kernel
theorem dX11_closesBlock_32 : decode cX11_closesBlock 32 = .ok (.aload_n 0, 1) := by decide +kernel
theorem dX11_closesBlock_33 : decode cX11_closesBlock 33 = .ok (.getfield 77, 3) := by decide +kernel
theorem dX11_closesBlock_36 : decode cX11_closesBlock 36 = .ok (.aload_n 0, 1) := by decide +kernel
theorem dX11_closesBlock_37 : decode cX11_closesBlock 37 = .ok (.getfield 326, 3) := by decide +kernel
theorem dX11_closesBlock_40 : decode cX11_closesBlock 40 = .ok (.iaload, 1) := by decide +kernel
theorem dX11_closesBlock_41 : decode cX11_closesBlock 41 = .ok (.aload_n 0, 1) := by decide +kernel
theorem dX11_closesBlock_42 : decode cX11_closesBlock 42 = .ok (.getfield 263, 3) := by decide +kernel
theorem dX11_closesBlock_45 : decode cX11_closesBlock 45 = .ok (.iconst 1, 1) := by decide +kernel
theorem dX11_closesBlock_46 : decode cX11_closesBlock 46 = .ok (.isub, 1) := by decide +kernel
theorem dX11_closesBlock_47 : decode cX11_closesBlock 47 = .ok (.iastore, 1) := by decide +kernel
theorem dX11_closesBlock_48 : decode cX11_closesBlock 48 = .ok (.aload_n 0, 1) := by decide +kernel
theorem dX11_closesBlock_49 : decode cX11_closesBlock 49 = .ok (.getfield 74, 3) := by decide +kernel
theorem dX11_closesBlock_52 : decode cX11_closesBlock 52 = .ok (.aload_n 0, 1) := by decide +kernel
theorem dX11_closesBlock_53 : decode cX11_closesBlock 53 = .ok (.getfield 326, 3) := by decide +kernel
theorem dX11_closesBlock_56 : decode cX11_closesBlock 56 = .ok (.iaload, 1) := by decide +kernel
theorem dX11_closesBlock_57 : decode cX11_closesBlock 57 = .ok (.istore_n 2, 1) := by decide +kernel
theorem dX11_closesBlock_58 : decode cX11_closesBlock 58 = .ok (.iload_n 2, 1) := by decide +kernel
theorem dX11_closesBlock_59 : decode cX11_closesBlock 59 = .ok (.iconst 4, 1) := by decide +kernel
theorem dX11_closesBlock_60 : decode cX11_closesBlock 60 = .ok (.if_icmp .ne 10, 3) := by decide +kernel
theorem dX11_closesBlock_63 : decode cX11_closesBlock 63 = .ok (.aload_n 0, 1) := by decide +kernel
theorem dX11_closesBlock_64 : decode cX11_closesBlock 64 = .ok (.iconst 1, 1) := by decide +kernel
theorem dX11_closesBlock_65 : decode cX11_closesBlock 65 = .ok (.putfield 266, 3) := by decide +kernel
theorem dX11_closesBlock_68 : decode cX11_closesBlock 68 = .ok (.iconst 1, 1) := by decide +kernel
theorem dX11_closesBlock_69 : decode cX11_closesBlock 69 = .ok (.ireturn, 1) := by decide +kernel
theorem dX11_closesBlock_70 : decode cX11_closesBlock 70 = .ok (.iload_n 2, 1) := by decide +kernel
theorem dX11_closesBlock_71 : decode cX11_closesBlock 71 = .ok (.bipush 6, 2) := by decide +kernel
theorem dX11_closesBlock_73 : decode cX11_closesBlock 73 = .ok (.if_icmp .ne 22, 3) := by decide +kernel
theorem dX11_closesBlock_76 : decode cX11_closesBlock 76 = .ok (.aload_n 0, 1) := by decide +kernel
theorem dX11_closesBlock_77 : decode cX11_closesBlock 77 = .ok (.bipush 14, 2) := by decide +kernel
theorem dX11_closesBlock_79 : decode cX11_closesBlock 79 = .ok (.aload_n 0, 1) := by decide +kernel
theorem dX11_closesBlock_80 : decode cX11_closesBlock 80 = .ok (.getfield 83, 3) := by decide +kernel
theorem dX11_closesBlock_83 : decode cX11_closesBlock 83 = .ok (.aload_n 0, 1) := by decide +kernel
theorem dX11_closesBlock_84 : decode cX11_closesBlock 84 = .ok (.getfield 326, 3) := by decide +kernel
theorem dX11_closesBlock_87 : decode cX11_closesBlock 87 = .ok (.iaload, 1) := by decide +kernel
theorem dX11_closesBlock_88 : decode cX11_closesBlock 88 = .ok (.invokevirtual 304, 3) := by decide +kernel
theorem dX11_closesBlock_91 : decode cX11_closesBlock 91 = .ok (.istore_n 3, 1) := by decide +kernel
theorem dX11_closesBlock_92 : decode cX11_closesBlock 92 = .ok (.goto 29, 3) := by decide +kernel
theorem dX11_closesBlock_95 : decode cX11_closesBlock 95 = .ok (.iload_n 2, 1) := by decide +kernel
theorem dX11_closesBlock_96 : decode cX11_closesBlock 96 = .ok (.bipush 9, 2) := by decide +kernel
theorem dX11_closesBlock_98 : decode cX11_closesBlock 98 = .ok (.if_icmp .ne 23, 3) := by decide +kernel
theorem dX11_closesBlock_101 : decode cX11_closesBlock 101 = .ok (.aload_n 0, 1) := by decide +kernel
theorem dX11_closesBlock_102 : decode cX11_closesBlock 102 = .ok (.iconst 1, 1) := by decide +kernel
theorem dX11_closesBlock_103 : decode cX11_closesBlock 103 = .ok (.iconst 0, 1) := by decide +kernel
theorem dX11_closesBlock_104 : decode cX11_closesBlock 104 = .ok (.invokevirtual 304, 3) := by decide +kernel
theorem dX11_closesBlock_107 : decode cX11_closesBlock 107 = .ok (.istore_n 3, 1) := by decide +kernel
theorem dX11_closesBlock_108 : decode cX11_closesBlock 108 = .ok (.aload_n 0, 1) := by decide +kernel
theorem dX11_closesBlock_109 : decode cX11_closesBlock 109 = .ok (.bipush 15, 2) := by decide +kernel
theorem dX11_closesBlock_111 : decode cX11_closesBlock 111 = .ok (.iconst 0, 1) := by decide +kernel
theorem dX11_closesBlock_112 : decode cX11_closesBlock 112 = .ok (.invokevirtual 304, 3) := by decide +kernel
theorem dX11_closesBlock_115 : decode cX11_closesBlock 115 = .ok (.istore_n 3, 1) := by decide +kernel
theorem dX11_closesBlock_116 : decode cX11_closesBlock 116 = .ok (.aload_n 0, 1) := by decide +kernel
theorem dX11_closesBlock_117 : decode cX11_closesBlock 117 = .ok (.iconst 0, 1) := by decide +kernel
theorem dX11_closesBlock_118 : decode cX11_closesBlock 118 = .ok (.putfield 285, 3) := by decide +kernel
theorem dX11_closesBlock_121 : decode cX11_closesBlock 121 = .ok (.aload_n 0, 1) := by decide +kernel
theorem dX11_closesBlock_122 : decode cX11_closesBlock 122 = .ok (.getfield 23, 3) := by decide +kernel
theorem dX11_closesBlock_125 : decode cX11_closesBlock 125 = .ok (.aload_n 0, 1) := by decide +kernel
theorem dX11_closesBlock_126 : decode cX11_closesBlock 126 = .ok (.getfield 80, 3) := by decide +kernel
theorem dX11_closesBlock_129 : decode cX11_closesBlock 129 = .ok (.aload_n 0, 1) := by decide +kernel
theorem dX11_closesBlock_130 : decode cX11_closesBlock 130 = .ok (.getfield 326, 3) := by decide +kernel
theorem dX11_closesBlock_133 : decode cX11_closesBlock 133 = .ok (.iaload, 1) := by decide +kernel
theorem dX11_closesBlock_134 : decode cX11_closesBlock 134 = .ok (.aload_n 0, 1) := by decide +kernel
theorem dX11_closesBlock_135 : decode cX11_closesBlock 135 = .ok (.getfield 260, 3) := by decide +kernel
theorem dX11_closesBlock_138 : decode cX11_closesBlock 138 = .ok (.iastore, 1) := by decide +kernel
theorem dX11_closesBlock_139 : decode cX11_closesBlock 139 = .ok (.iconst 1, 1) := by decide +kernel
theorem dX11_closesBlock_140 : decode cX11_closesBlock 140 = .ok (.ireturn, 1) := by decide +kernel
theorem dX11_afterIf_0 : decode cX11_afterIf 0 = .ok (.aload_n 0, 1) := by decide +kernel
theorem dX11_afterIf_1 : decode cX11_afterIf 1 = .ok (.getfield 240, 3) := by decide +kernel
theorem dX11_afterIf_4 : decode cX11_afterIf 4 = .ok (.iconst 5, 1) := by decide +kernel
theorem dX11_afterIf_5 : decode cX11_afterIf 5 = .ok (.if_icmp .ne 57, 3) := by decide +kernel
theorem dX11_afterIf_8 : decode cX11_afterIf 8 = .ok (.aload_n 0, 1) := by decide +kernel
theorem dX11_afterIf_9 : decode cX11_afterIf 9 = .ok (.bipush 14, 2) := by decide +kernel
theorem dX11_afterIf_11 : decode cX11_afterIf 11 = .ok (.iconst 0, 1) := by decide +kernel
theorem dX11_afterIf_12 : decode cX11_afterIf 12 = .ok (.invokevirtual 304, 3) := by decide +kernel
theorem dX11_afterIf_15 : decode cX11_afterIf 15 = .ok (.istore_n 1, 1) := by decide +kernel
theorem dX11_afterIf_16 : decode cX11_afterIf 16 = .ok (.aload_n 0, 1) := by decide +kernel
theorem dX11_afterIf_17 : decode cX11_afterIf 17 = .ok (.getfield 23, 3) := by decide +kernel
theorem dX11_afterIf_20 : decode cX11_afterIf 20 = .ok (.aload_n 0, 1) := by decide +kernel
theorem dX11_afterIf_21 : decode cX11_afterIf 21 = .ok (.getfield 80, 3) := by decide +kernel
theorem dX11_afterIf_24 : decode cX11_afterIf 24 = .ok (.aload_n 0, 1) := by decide +kernel
theorem dX11_afterIf_25 : decode cX11_afterIf 25 = .ok (.getfield 326, 3) := by decide +kernel
theorem dX11_afterIf_28 : decode cX11_afterIf 28 = .ok (.iaload, 1) := by decide +kernel
theorem dX11_afterIf_29 : decode cX11_afterIf 29 = .ok (.aload_n 0, 1) := by decide +kernel
theorem dX11_afterIf_30 : decode cX11_afterIf 30 = .ok (.getfield 260, 3) := by decide +kernel
theorem dX11_afterIf_33 : decode cX11_afterIf 33 = .ok (.iastore, 1) := by decide +kernel
theorem dX11_afterIf_34 : decode cX11_afterIf 34 = .ok (.aload_n 0, 1) := by decide +kernel
theorem dX11_afterIf_35 : decode cX11_afterIf 35 = .ok (.getfield 80, 3) := by decide +kernel
theorem dX11_afterIf_38 : decode cX11_afterIf 38 = .ok (.aload_n 0, 1) := by decide +kernel
theorem dX11_afterIf_39 : decode cX11_afterIf 39 = .ok (.getfield 326, 3) := by decide +kernel
theorem dX11_afterIf_42 : decode cX11_afterIf 42 = .ok (.iload_n 1, 1) := by decide +kernel
theorem dX11_afterIf_43 : decode cX11_afterIf 43 = .ok (.iastore, 1) := by decide +kernel
theorem dX11_afterIf_44 : decode cX11_afterIf 44 = .ok (.aload_n 0, 1) := by decide +kernel
theorem dX11_afterIf_45 : decode cX11_afterIf 45 = .ok (.getfield 74, 3) := by decide +kernel
theorem dX11_afterIf_48 : decode cX11_afterIf 48 = .ok (.aload_n 0, 1) := by decide +kernel
theorem dX11_afterIf_49 : decode cX11_afterIf 49 = .ok (.getfield 326, 3) := by decide +kernel
theorem dX11_afterIf_52 : decode cX11_afterIf 52 = .ok (.iconst 5, 1) := by decide +kernel
theorem dX11_afterIf_53 : decode cX11_afterIf 53 = .ok (.iastore, 1) := by decide +kernel
theorem dX11_afterIf_54 : decode cX11_afterIf 54 = .ok (.aload_n 0, 1) := by decide +kernel
theorem dX11_afterIf_55 : decode cX11_afterIf 55 = .ok (.iconst 5, 1) := by decide +kernel
theorem dX11_afterIf_56 : decode cX11_afterIf 56 = .ok (.bipush 7, 2) := by decide +kernel
theorem dX11_afterIf_58 : decode cX11_afterIf 58 = .ok (.invokevirtual 315, 3) := by decide +kernel
theorem dX11_afterIf_61 : decode cX11_afterIf 61 = .ok (.ireturn, 1) := by decide +kernel
theorem dX11_afterIf_62 : decode cX11_afterIf 62 = .ok (.aload_n 0, 1) := by decide +kernel
theorem dX11_afterIf_63 : decode cX11_afterIf 63 = .ok (.getfield 23, 3) := by decide +kernel
theorem dX11_afterIf_66 : decode cX11_afterIf 66 = .ok (.aload_n 0, 1) := by decide +kernel
theorem dX11_afterIf_67 : decode cX11_afterIf 67 = .ok (.getfield 80, 3) := by decide +kernel
theorem dX11_afterIf_70 : decode cX11_afterIf 70 = .ok (.aload_n 0, 1) := by decide +kernel
theorem dX11_afterIf_71 : decode cX11_afterIf 71 = .ok (.getfield 326, 3) := by decide +kernel
theorem dX11_afterIf_74 : decode cX11_afterIf 74 = .ok (.iaload, 1) := by decide +kernel
theorem dX11_afterIf_75 : decode cX11_afterIf 75 = .ok (.aload_n 0, 1) := by decide +kernel
theorem dX11_afterIf_76 : decode cX11_afterIf 76 = .ok (.getfield 260, 3) := by decide +kernel
theorem dX11_afterIf_79 : decode cX11_afterIf 79 = .ok (.iastore, 1) := by decide +kernel
theorem dX11_afterIf_80 : decode cX11_afterIf 80 = .ok (.aload_n 0, 1) := by decide +kernel
theorem dX11_afterIf_81 : decode cX11_afterIf 81 = .ok (.iconst 0, 1) := by decide +kernel
theorem dX11_afterIf_82 : decode cX11_afterIf 82 = .ok (.putfield 266, 3) := by decide +kernel
theorem dX11_afterIf_85 : decode cX11_afterIf 85 = .ok (.aload_n 0, 1) := by decide +kernel
theorem dX11_afterIf_86 : decode cX11_afterIf 86 = .ok (.invokevirtual 329, 3) := by decide +kernel
theorem dX11_afterIf_89 : decode cX11_afterIf 89 = .ok (.ireturn, 1) := by decide +kernel
theorem dX11_begins_0 : decode cX11_begins 0 = .ok (.aload_n 0, 1) := by decide +kernel
theorem dX11_begins_1 : decode cX11_begins 1 = .ok (.invokevirtual 332, 3) := by decide +kernel
theorem dX11_begins_4 : decode cX11_begins 4 = .ok (.aload_n 0, 1) := by decide +kernel
theorem dX11_begins_5 : decode cX11_begins 5 = .ok (.getfield 83, 3) := by decide +kernel
theorem dX11_begins_8 : decode cX11_begins 8 = .ok (.aload_n 0, 1) := by decide +kernel
theorem dX11_begins_9 : decode cX11_begins 9 = .ok (.getfield 326, 3) := by decide +kernel
theorem dX11_begins_12 : decode cX11_begins 12 = .ok (.aload_n 0, 1) := by decide +kernel
theorem dX11_begins_13 : decode cX11_begins 13 = .ok (.iconst 0, 1) := by decide +kernel
theorem dX11_begins_14 : decode cX11_begins 14 = .ok (.iconst 0, 1) := by decide +kernel
theorem dX11_begins_15 : decode cX11_begins 15 = .ok (.invokevirtual 304, 3) := by decide +kernel
theorem dX11_begins_18 : decode cX11_begins 18 = .ok (.iastore, 1) := by decide +kernel
theorem dX11_begins_19 : decode cX11_begins 19 = .ok (.aload_n 0, 1) := by decide +kernel
theorem dX11_begins_20 : decode cX11_begins 20 = .ok (.iload_n 1, 1) := by decide +kernel
theorem dX11_begins_21 : decode cX11_begins 21 = .ok (.iload_n 2, 1) := by decide +kernel
theorem dX11_begins_22 : decode cX11_begins 22 = .ok (.invokevirtual 311, 3) := by decide +kernel
theorem dX11_begins_25 : decode cX11_begins 25 = .ok (.iconst 1, 1) := by decide +kernel
theorem dX11_begins_26 : decode cX11_begins 26 = .ok (.ireturn, 1) := by decide +kernel
theorem dX11_names_0 : decode cX11_names 0 = .ok (.aload_n 0, 1) := by decide +kernel
theorem dX11_names_1 : decode cX11_names 1 = .ok (.invokevirtual 335, 3) := by decide +kernel
theorem dX11_names_4 : decode cX11_names 4 = .ok (.ifCond .eq 16, 3) := by decide +kernel
theorem dX11_names_7 : decode cX11_names 7 = .ok (.aload_n 0, 1) := by decide +kernel
theorem dX11_names_8 : decode cX11_names 8 = .ok (.bipush 50, 2) := by decide +kernel
theorem dX11_names_10 : decode cX11_names 10 = .ok (.iconst 0, 1) := by decide +kernel
theorem dX11_names_11 : decode cX11_names 11 = .ok (.invokevirtual 338, 3) := by decide +kernel
theorem dX11_names_14 : decode cX11_names 14 = .ok (.istore_n 1, 1) := by decide +kernel
theorem dX11_names_15 : decode cX11_names 15 = .ok (.aload_n 0, 1) := by decide +kernel
theorem dX11_names_16 : decode cX11_names 16 = .ok (.invokevirtual 341, 3) := by decide +kernel
theorem dX11_names_19 : decode cX11_names 19 = .ok (.ireturn, 1) := by decide +kernel
theorem dX11_names_20 : decode cX11_names 20 = .ok (.aload_n 0, 1) := by decide +kernel
theorem dX11_names_21 : decode cX11_names 21 = .ok (.invokevirtual 344, 3) := by decide +kernel
theorem dX11_names_24 : decode cX11_names 24 = .ok (.istore_n 1, 1) := by decide +kernel
theorem dX11_names_25 : decode cX11_names 25 = .ok (.iload_n 1, 1) := by decide +kernel
theorem dX11_names_26 : decode cX11_names 26 = .ok (.iconst (-1), 1) := by decide +kernel
theorem dX11_names_27 : decode cX11_names 27 = .ok (.if_icmp .ne 9, 3) := by decide +kernel
theorem dX11_names_30 : decode cX11_names 30 = .ok (.aload_n 0, 1) := by decide +kernel
theorem dX11_names_31 : decode cX11_names 31 = .ok (.iconst 5, 1) := by decide +kernel
theorem dX11_names_32 : decode cX11_names 32 = .ok (.invokevirtual 281, 3) := by decide +kernel
theorem dX11_names_35 : decode cX11_names 35 = .ok (.ireturn, 1) := by decide +kernel
theorem dX11_names_36 : decode cX11_names 36 = .ok (.aload_n 0, 1) := by decide +kernel
theorem dX11_names_37 : decode cX11_names 37 = .ok (.bipush 43, 2) := by decide +kernel
theorem dX11_names_39 : decode cX11_names 39 = .ok (.iload_n 1, 1) := by decide +kernel
theorem dX11_names_40 : decode cX11_names 40 = .ok (.invokevirtual 338, 3) := by decide +kernel
theorem dX11_names_43 : decode cX11_names 43 = .ok (.istore_n 2, 1) := by decide +kernel
theorem dX11_names_44 : decode cX11_names 44 = .ok (.aload_n 0, 1) := by decide +kernel
theorem dX11_names_45 : decode cX11_names 45 = .ok (.iconst 2, 1) := by decide +kernel
theorem dX11_names_46 : decode cX11_names 46 = .ok (.iconst 5, 1) := by decide +kernel
theorem dX11_names_47 : decode cX11_names 47 = .ok (.invokevirtual 315, 3) := by decide +kernel
theorem dX11_names_50 : decode cX11_names 50 = .ok (.ireturn, 1) := by decide +kernel
theorem dX11_statement_0 : decode cX11_statement 0 = .ok (.aload_n 0, 1) := by decide +kernel
theorem dX11_statement_1 : decode cX11_statement 1 = .ok (.getfield 240, 3) := by decide +kernel
theorem dX11_statement_4 : decode cX11_statement 4 = .ok (.tableswitch 381 0 32 #[148, 381, 199, 381, 263, 381, 288, 237, 381, 355, 314, 381, 381, 381, 381, 381, 381, 381, 381, 381, 381, 381, 381, 381, 381, 381, 381, 381, 381, 179, 381, 381, 204], 148) := by decide +kernel
theorem dX11_statement_152 : decode cX11_statement 152 = .ok (.aload_n 0, 1) := by decide +kernel
theorem dX11_statement_153 : decode cX11_statement 153 = .ok (.getfield 326, 3) := by decide +kernel
theorem dX11_statement_156 : decode cX11_statement 156 = .ok (.ifCond .ne 21, 3) := by decide +kernel
theorem dX11_statement_159 : decode cX11_statement 159 = .ok (.aload_n 0, 1) := by decide +kernel
theorem dX11_statement_160 : decode cX11_statement 160 = .ok (.bipush 17, 2) := by decide +kernel
theorem dX11_statement_162 : decode cX11_statement 162 = .ok (.iconst 0, 1) := by decide +kernel
theorem dX11_statement_163 : decode cX11_statement 163 = .ok (.invokevirtual 304, 3) := by decide +kernel
theorem dX11_statement_166 : decode cX11_statement 166 = .ok (.ifCond .ge 7, 3) := by decide +kernel
theorem dX11_statement_169 : decode cX11_statement 169 = .ok (.iconst 1, 1) := by decide +kernel
theorem dX11_statement_170 : decode cX11_statement 170 = .ok (.goto 12, 3) := by decide +kernel
theorem dX11_statement_173 : decode cX11_statement 173 = .ok (.iconst 0, 1) := by decide +kernel
theorem dX11_statement_174 : decode cX11_statement 174 = .ok (.goto 8, 3) := by decide +kernel
theorem dX11_statement_177 : decode cX11_statement 177 = .ok (.aload_n 0, 1) := by decide +kernel
theorem dX11_statement_178 : decode cX11_statement 178 = .ok (.iconst 3, 1) := by decide +kernel
theorem dX11_statement_179 : decode cX11_statement 179 = .ok (.invokevirtual 281, 3) := by decide +kernel
theorem dX11_statement_182 : decode cX11_statement 182 = .ok (.ireturn, 1) := by decide +kernel
theorem dX11_statement_183 : decode cX11_statement 183 = .ok (.aload_n 0, 1) := by decide +kernel
theorem dX11_statement_184 : decode cX11_statement 184 = .ok (.getfield 326, 3) := by decide +kernel
theorem dX11_statement_187 : decode cX11_statement 187 = .ok (.ifCond .le 10, 3) := by decide +kernel
theorem dX11_statement_190 : decode cX11_statement 190 = .ok (.aload_n 0, 1) := by decide +kernel
theorem dX11_statement_191 : decode cX11_statement 191 = .ok (.invokevirtual 347, 3) := by decide +kernel
theorem dX11_statement_194 : decode cX11_statement 194 = .ok (.goto 8, 3) := by decide +kernel
theorem dX11_statement_197 : decode cX11_statement 197 = .ok (.aload_n 0, 1) := by decide +kernel
theorem dX11_statement_198 : decode cX11_statement 198 = .ok (.iconst 3, 1) := by decide +kernel
theorem dX11_statement_199 : decode cX11_statement 199 = .ok (.invokevirtual 281, 3) := by decide +kernel
theorem dX11_statement_202 : decode cX11_statement 202 = .ok (.ireturn, 1) := by decide +kernel
theorem dX11_statement_203 : decode cX11_statement 203 = .ok (.aload_n 0, 1) := by decide +kernel
theorem dX11_statement_204 : decode cX11_statement 204 = .ok (.invokevirtual 350, 3) := by decide +kernel
theorem dX11_statement_207 : decode cX11_statement 207 = .ok (.ireturn, 1) := by decide +kernel
theorem dX11_statement_208 : decode cX11_statement 208 = .ok (.aload_n 0, 1) := by decide +kernel
theorem dX11_statement_209 : decode cX11_statement 209 = .ok (.invokevirtual 323, 3) := by decide +kernel
theorem dX11_statement_212 : decode cX11_statement 212 = .ok (.ifCond .eq 27, 3) := by decide +kernel
theorem dX11_statement_215 : decode cX11_statement 215 = .ok (.aload_n 0, 1) := by decide +kernel
theorem dX11_statement_216 : decode cX11_statement 216 = .ok (.bipush 48, 2) := by decide +kernel
theorem dX11_statement_218 : decode cX11_statement 218 = .ok (.iconst 0, 1) := by decide +kernel
theorem dX11_statement_219 : decode cX11_statement 219 = .ok (.invokevirtual 338, 3) := by decide +kernel
theorem dX11_statement_222 : decode cX11_statement 222 = .ok (.ifCond .eq 17, 3) := by decide +kernel
theorem dX11_statement_225 : decode cX11_statement 225 = .ok (.aload_n 0, 1) := by decide +kernel
theorem dX11_statement_226 : decode cX11_statement 226 = .ok (.bipush 32, 2) := by decide +kernel
theorem dX11_statement_228 : decode cX11_statement 228 = .ok (.iconst 2, 1) := by decide +kernel
theorem dX11_statement_229 : decode cX11_statement 229 = .ok (.invokevirtual 315, 3) := by decide +kernel
theorem dX11_statement_232 : decode cX11_statement 232 = .ok (.ifCond .eq 7, 3) := by decide +kernel
theorem dX11_statement_235 : decode cX11_statement 235 = .ok (.iconst 1, 1) := by decide +kernel
theorem dX11_statement_236 : decode cX11_statement 236 = .ok (.goto 4, 3) := by decide +kernel
theorem dX11_statement_239 : decode cX11_statement 239 = .ok (.iconst 0, 1) := by decide +kernel
theorem dX11_statement_240 : decode cX11_statement 240 = .ok (.ireturn, 1) := by decide +kernel
theorem dX11_statement_241 : decode cX11_statement 241 = .ok (.aload_n 0, 1) := by decide +kernel
theorem dX11_statement_242 : decode cX11_statement 242 = .ok (.bipush 44, 2) := by decide +kernel
theorem dX11_statement_244 : decode cX11_statement 244 = .ok (.iconst 0, 1) := by decide +kernel
theorem dX11_statement_245 : decode cX11_statement 245 = .ok (.invokevirtual 338, 3) := by decide +kernel
theorem dX11_statement_248 : decode cX11_statement 248 = .ok (.ifCond .eq 17, 3) := by decide +kernel
theorem dX11_statement_251 : decode cX11_statement 251 = .ok (.aload_n 0, 1) := by decide +kernel
theorem dX11_statement_252 : decode cX11_statement 252 = .ok (.bipush 7, 2) := by decide +kernel
theorem dX11_statement_254 : decode cX11_statement 254 = .ok (.iconst 2, 1) := by decide +kernel
theorem dX11_statement_255 : decode cX11_statement 255 = .ok (.invokevirtual 315, 3) := by decide +kernel
theorem dX11_statement_258 : decode cX11_statement 258 = .ok (.ifCond .eq 7, 3) := by decide +kernel
theorem dX11_statement_261 : decode cX11_statement 261 = .ok (.iconst 1, 1) := by decide +kernel
theorem dX11_statement_262 : decode cX11_statement 262 = .ok (.goto 4, 3) := by decide +kernel
theorem dX11_statement_265 : decode cX11_statement 265 = .ok (.iconst 0, 1) := by decide +kernel
theorem dX11_statement_266 : decode cX11_statement 266 = .ok (.ireturn, 1) := by decide +kernel
theorem dX11_statement_267 : decode cX11_statement 267 = .ok (.aload_n 0, 1) := by decide +kernel
theorem dX11_statement_268 : decode cX11_statement 268 = .ok (.bipush 46, 2) := by decide +kernel
theorem dX11_statement_270 : decode cX11_statement 270 = .ok (.iconst 0, 1) := by decide +kernel
theorem dX11_statement_271 : decode cX11_statement 271 = .ok (.invokevirtual 338, 3) := by decide +kernel
theorem dX11_statement_274 : decode cX11_statement 274 = .ok (.ifCond .eq 16, 3) := by decide +kernel
theorem dX11_statement_277 : decode cX11_statement 277 = .ok (.aload_n 0, 1) := by decide +kernel
theorem dX11_statement_278 : decode cX11_statement 278 = .ok (.iconst 4, 1) := by decide +kernel
theorem dX11_statement_279 : decode cX11_statement 279 = .ok (.iconst 2, 1) := by decide +kernel
theorem dX11_statement_280 : decode cX11_statement 280 = .ok (.invokevirtual 315, 3) := by decide +kernel
theorem dX11_statement_283 : decode cX11_statement 283 = .ok (.ifCond .eq 7, 3) := by decide +kernel
theorem dX11_statement_286 : decode cX11_statement 286 = .ok (.iconst 1, 1) := by decide +kernel
theorem dX11_statement_287 : decode cX11_statement 287 = .ok (.goto 4, 3) := by decide +kernel
theorem dX11_statement_290 : decode cX11_statement 290 = .ok (.iconst 0, 1) := by decide +kernel
theorem dX11_statement_291 : decode cX11_statement 291 = .ok (.ireturn, 1) := by decide +kernel
theorem dX11_statement_292 : decode cX11_statement 292 = .ok (.aload_n 0, 1) := by decide +kernel
theorem dX11_statement_293 : decode cX11_statement 293 = .ok (.bipush 47, 2) := by decide +kernel
theorem dX11_statement_295 : decode cX11_statement 295 = .ok (.iconst 0, 1) := by decide +kernel
theorem dX11_statement_296 : decode cX11_statement 296 = .ok (.invokevirtual 338, 3) := by decide +kernel
theorem dX11_statement_299 : decode cX11_statement 299 = .ok (.ifCond .eq 17, 3) := by decide +kernel
theorem dX11_statement_302 : decode cX11_statement 302 = .ok (.aload_n 0, 1) := by decide +kernel
theorem dX11_statement_303 : decode cX11_statement 303 = .ok (.bipush 6, 2) := by decide +kernel
theorem dX11_statement_305 : decode cX11_statement 305 = .ok (.iconst 2, 1) := by decide +kernel
theorem dX11_statement_306 : decode cX11_statement 306 = .ok (.invokevirtual 315, 3) := by decide +kernel
theorem dX11_statement_309 : decode cX11_statement 309 = .ok (.ifCond .eq 7, 3) := by decide +kernel
theorem dX11_statement_312 : decode cX11_statement 312 = .ok (.iconst 1, 1) := by decide +kernel
theorem dX11_statement_313 : decode cX11_statement 313 = .ok (.goto 4, 3) := by decide +kernel
theorem dX11_statement_316 : decode cX11_statement 316 = .ok (.iconst 0, 1) := by decide +kernel
theorem dX11_statement_317 : decode cX11_statement 317 = .ok (.ireturn, 1) := by decide +kernel
theorem dX11_statement_318 : decode cX11_statement 318 = .ok (.aload_n 0, 1) := by decide +kernel
theorem dX11_statement_319 : decode cX11_statement 319 = .ok (.getfield 285, 3) := by decide +kernel
theorem dX11_statement_322 : decode cX11_statement 322 = .ok (.ifCond .ne 11, 3) := by decide +kernel
theorem dX11_statement_325 : decode cX11_statement 325 = .ok (.aload_n 0, 1) := by decide +kernel
theorem dX11_statement_326 : decode cX11_statement 326 = .ok (.iconst 3, 1) := by decide +kernel
theorem dX11_statement_327 : decode cX11_statement 327 = .ok (.invokevirtual 281, 3) := by decide +kernel
theorem dX11_statement_330 : decode cX11_statement 330 = .ok (.goto 28, 3) := by decide +kernel
theorem dX11_statement_333 : decode cX11_statement 333 = .ok (.aload_n 0, 1) := by decide +kernel
theorem dX11_statement_334 : decode cX11_statement 334 = .ok (.bipush 45, 2) := by decide +kernel
theorem dX11_statement_336 : decode cX11_statement 336 = .ok (.iconst 0, 1) := by decide +kernel
theorem dX11_statement_337 : decode cX11_statement 337 = .ok (.invokevirtual 338, 3) := by decide +kernel
theorem dX11_statement_340 : decode cX11_statement 340 = .ok (.ifCond .eq 17, 3) := by decide +kernel
theorem dX11_statement_343 : decode cX11_statement 343 = .ok (.aload_n 0, 1) := by decide +kernel
theorem dX11_statement_344 : decode cX11_statement 344 = .ok (.bipush 10, 2) := by decide +kernel
theorem dX11_statement_346 : decode cX11_statement 346 = .ok (.iconst 2, 1) := by decide +kernel
theorem dX11_statement_347 : decode cX11_statement 347 = .ok (.invokevirtual 315, 3) := by decide +kernel
theorem dX11_statement_350 : decode cX11_statement 350 = .ok (.ifCond .eq 7, 3) := by decide +kernel
theorem dX11_statement_353 : decode cX11_statement 353 = .ok (.iconst 1, 1) := by decide +kernel
theorem dX11_statement_354 : decode cX11_statement 354 = .ok (.goto 4, 3) := by decide +kernel
theorem dX11_statement_357 : decode cX11_statement 357 = .ok (.iconst 0, 1) := by decide +kernel
theorem dX11_statement_358 : decode cX11_statement 358 = .ok (.ireturn, 1) := by decide +kernel
theorem dX11_statement_359 : decode cX11_statement 359 = .ok (.aload_n 0, 1) := by decide +kernel
theorem dX11_statement_360 : decode cX11_statement 360 = .ok (.getfield 326, 3) := by decide +kernel
theorem dX11_statement_363 : decode cX11_statement 363 = .ok (.ifCond .le 9, 3) := by decide +kernel
theorem dX11_statement_366 : decode cX11_statement 366 = .ok (.aload_n 0, 1) := by decide +kernel
theorem dX11_statement_367 : decode cX11_statement 367 = .ok (.iconst 3, 1) := by decide +kernel
theorem dX11_statement_368 : decode cX11_statement 368 = .ok (.invokevirtual 281, 3) := by decide +kernel
theorem dX11_statement_371 : decode cX11_statement 371 = .ok (.ireturn, 1) := by decide +kernel
theorem dX11_statement_372 : decode cX11_statement 372 = .ok (.aload_n 0, 1) := by decide +kernel
theorem dX11_statement_373 : decode cX11_statement 373 = .ok (.invokevirtual 332, 3) := by decide +kernel
theorem dX11_statement_376 : decode cX11_statement 376 = .ok (.aload_n 0, 1) := by decide +kernel
theorem dX11_statement_377 : decode cX11_statement 377 = .ok (.bipush 9, 2) := by decide +kernel
theorem dX11_statement_379 : decode cX11_statement 379 = .ok (.bipush 8, 2) := by decide +kernel
theorem dX11_statement_381 : decode cX11_statement 381 = .ok (.invokevirtual 315, 3) := by decide +kernel
theorem dX11_statement_384 : decode cX11_statement 384 = .ok (.ireturn, 1) := by decide +kernel
theorem dX11_statement_385 : decode cX11_statement 385 = .ok (.aload_n 0, 1) := by decide +kernel
theorem dX11_statement_386 : decode cX11_statement 386 = .ok (.iconst 3, 1) := by decide +kernel
theorem dX11_statement_387 : decode cX11_statement 387 = .ok (.invokevirtual 281, 3) := by decide +kernel
theorem dX11_statement_390 : decode cX11_statement 390 = .ok (.ireturn, 1) := by decide +kernel
theorem dX11_operand_0 : decode cX11_operand 0 = .ok (.aload_n 0, 1) := by decide +kernel
theorem dX11_operand_1 : decode cX11_operand 1 = .ok (.getfield 240, 3) := by decide +kernel
theorem dX11_operand_4 : decode cX11_operand 4 = .ok (.lookupswitch 236 #[(1, 76), (2, 217), (8, 110), (12, 167), (24, 167), (26, 143), (27, 196), (32, 167)], 76) := by decide +kernel
theorem dX11_operand_80 : decode cX11_operand 80 = .ok (.aload_n 0, 1) := by decide +kernel
theorem dX11_operand_81 : decode cX11_operand 81 = .ok (.iconst 1, 1) := by decide +kernel
theorem dX11_operand_82 : decode cX11_operand 82 = .ok (.aload_n 0, 1) := by decide +kernel
theorem dX11_operand_83 : decode cX11_operand 83 = .ok (.getfield 213, 3) := by decide +kernel
theorem dX11_operand_86 : decode cX11_operand 86 = .ok (.invokevirtual 304, 3) := by decide +kernel
theorem dX11_operand_89 : decode cX11_operand 89 = .ok (.ifCond .lt 23, 3) := by decide +kernel
theorem dX11_operand_92 : decode cX11_operand 92 = .ok (.aload_n 0, 1) := by decide +kernel
theorem dX11_operand_93 : decode cX11_operand 93 = .ok (.iconst 1, 1) := by decide +kernel
theorem dX11_operand_94 : decode cX11_operand 94 = .ok (.iconst 4, 1) := by decide +kernel
theorem dX11_operand_95 : decode cX11_operand 95 = .ok (.invokevirtual 315, 3) := by decide +kernel
theorem dX11_operand_98 : decode cX11_operand 98 = .ok (.ifCond .eq 14, 3) := by decide +kernel
theorem dX11_operand_101 : decode cX11_operand 101 = .ok (.aload_n 0, 1) := by decide +kernel
theorem dX11_operand_102 : decode cX11_operand 102 = .ok (.invokevirtual 319, 3) := by decide +kernel
theorem dX11_operand_105 : decode cX11_operand 105 = .ok (.ifCond .eq 7, 3) := by decide +kernel
theorem dX11_operand_108 : decode cX11_operand 108 = .ok (.iconst 1, 1) := by decide +kernel
theorem dX11_operand_109 : decode cX11_operand 109 = .ok (.goto 4, 3) := by decide +kernel
theorem dX11_operand_112 : decode cX11_operand 112 = .ok (.iconst 0, 1) := by decide +kernel
theorem dX11_operand_113 : decode cX11_operand 113 = .ok (.ireturn, 1) := by decide +kernel
theorem dX11_operand_114 : decode cX11_operand 114 = .ok (.aload_n 0, 1) := by decide +kernel
theorem dX11_operand_115 : decode cX11_operand 115 = .ok (.bipush 9, 2) := by decide +kernel
theorem dX11_operand_117 : decode cX11_operand 117 = .ok (.iconst 0, 1) := by decide +kernel
theorem dX11_operand_118 : decode cX11_operand 118 = .ok (.invokevirtual 304, 3) := by decide +kernel
theorem dX11_operand_121 : decode cX11_operand 121 = .ok (.ifCond .lt 24, 3) := by decide +kernel
theorem dX11_operand_124 : decode cX11_operand 124 = .ok (.aload_n 0, 1) := by decide +kernel
theorem dX11_operand_125 : decode cX11_operand 125 = .ok (.bipush 8, 2) := by decide +kernel
theorem dX11_operand_127 : decode cX11_operand 127 = .ok (.iconst 4, 1) := by decide +kernel
theorem dX11_operand_128 : decode cX11_operand 128 = .ok (.invokevirtual 315, 3) := by decide +kernel
theorem dX11_operand_131 : decode cX11_operand 131 = .ok (.ifCond .eq 14, 3) := by decide +kernel
theorem dX11_operand_134 : decode cX11_operand 134 = .ok (.aload_n 0, 1) := by decide +kernel
theorem dX11_operand_135 : decode cX11_operand 135 = .ok (.invokevirtual 319, 3) := by decide +kernel
theorem dX11_operand_138 : decode cX11_operand 138 = .ok (.ifCond .eq 7, 3) := by decide +kernel
theorem dX11_operand_141 : decode cX11_operand 141 = .ok (.iconst 1, 1) := by decide +kernel
theorem dX11_operand_142 : decode cX11_operand 142 = .ok (.goto 4, 3) := by decide +kernel
theorem dX11_operand_145 : decode cX11_operand 145 = .ok (.iconst 0, 1) := by decide +kernel
theorem dX11_operand_146 : decode cX11_operand 146 = .ok (.ireturn, 1) := by decide +kernel
theorem dX11_operand_147 : decode cX11_operand 147 = .ok (.aload_n 0, 1) := by decide +kernel
theorem dX11_operand_148 : decode cX11_operand 148 = .ok (.invokevirtual 323, 3) := by decide +kernel
theorem dX11_operand_151 : decode cX11_operand 151 = .ok (.ifCond .ne 5, 3) := by decide +kernel
theorem dX11_operand_154 : decode cX11_operand 154 = .ok (.iconst 0, 1) := by decide +kernel
theorem dX11_operand_155 : decode cX11_operand 155 = .ok (.ireturn, 1) := by decide +kernel
theorem dX11_operand_156 : decode cX11_operand 156 = .ok (.aload_n 0, 1) := by decide +kernel
theorem dX11_operand_157 : decode cX11_operand 157 = .ok (.bipush 41, 2) := by decide +kernel
theorem dX11_operand_159 : decode cX11_operand 159 = .ok (.iconst 0, 1) := by decide +kernel
theorem dX11_operand_160 : decode cX11_operand 160 = .ok (.invokevirtual 311, 3) := by decide +kernel
theorem dX11_operand_163 : decode cX11_operand 163 = .ok (.aload_n 0, 1) := by decide +kernel
theorem dX11_operand_164 : decode cX11_operand 164 = .ok (.bipush 26, 2) := by decide +kernel
theorem dX11_operand_166 : decode cX11_operand 166 = .ok (.iconst 2, 1) := by decide +kernel
theorem dX11_operand_167 : decode cX11_operand 167 = .ok (.invokevirtual 315, 3) := by decide +kernel
theorem dX11_operand_170 : decode cX11_operand 170 = .ok (.ireturn, 1) := by decide +kernel
theorem dX11_operand_171 : decode cX11_operand 171 = .ok (.aload_n 0, 1) := by decide +kernel
theorem dX11_operand_172 : decode cX11_operand 172 = .ok (.invokevirtual 323, 3) := by decide +kernel
theorem dX11_operand_175 : decode cX11_operand 175 = .ok (.ifCond .ne 5, 3) := by decide +kernel
theorem dX11_operand_178 : decode cX11_operand 178 = .ok (.iconst 0, 1) := by decide +kernel
theorem dX11_operand_179 : decode cX11_operand 179 = .ok (.ireturn, 1) := by decide +kernel
theorem dX11_operand_180 : decode cX11_operand 180 = .ok (.aload_n 0, 1) := by decide +kernel
theorem dX11_operand_181 : decode cX11_operand 181 = .ok (.bipush 40, 2) := by decide +kernel
theorem dX11_operand_183 : decode cX11_operand 183 = .ok (.aload_n 0, 1) := by decide +kernel
theorem dX11_operand_184 : decode cX11_operand 184 = .ok (.getfield 240, 3) := by decide +kernel
theorem dX11_operand_187 : decode cX11_operand 187 = .ok (.invokevirtual 311, 3) := by decide +kernel
theorem dX11_operand_190 : decode cX11_operand 190 = .ok (.aload_n 0, 1) := by decide +kernel
theorem dX11_operand_191 : decode cX11_operand 191 = .ok (.aload_n 0, 1) := by decide +kernel
theorem dX11_operand_192 : decode cX11_operand 192 = .ok (.getfield 240, 3) := by decide +kernel
theorem dX11_operand_195 : decode cX11_operand 195 = .ok (.iconst 2, 1) := by decide +kernel
theorem dX11_operand_196 : decode cX11_operand 196 = .ok (.invokevirtual 315, 3) := by decide +kernel
theorem dX11_operand_199 : decode cX11_operand 199 = .ok (.ireturn, 1) := by decide +kernel
theorem dX11_operand_200 : decode cX11_operand 200 = .ok (.aload_n 0, 1) := by decide +kernel
theorem dX11_operand_201 : decode cX11_operand 201 = .ok (.getfield 266, 3) := by decide +kernel
theorem dX11_operand_204 : decode cX11_operand 204 = .ok (.iconst 3, 1) := by decide +kernel
theorem dX11_operand_205 : decode cX11_operand 205 = .ok (.if_icmp .ne 10, 3) := by decide +kernel
theorem dX11_operand_208 : decode cX11_operand 208 = .ok (.aload_n 0, 1) := by decide +kernel
theorem dX11_operand_209 : decode cX11_operand 209 = .ok (.invokevirtual 353, 3) := by decide +kernel
theorem dX11_operand_212 : decode cX11_operand 212 = .ok (.goto 8, 3) := by decide +kernel
theorem dX11_operand_215 : decode cX11_operand 215 = .ok (.aload_n 0, 1) := by decide +kernel
theorem dX11_operand_216 : decode cX11_operand 216 = .ok (.iconst 3, 1) := by decide +kernel
theorem dX11_operand_217 : decode cX11_operand 217 = .ok (.invokevirtual 281, 3) := by decide +kernel
theorem dX11_operand_220 : decode cX11_operand 220 = .ok (.ireturn, 1) := by decide +kernel
theorem dX11_operand_221 : decode cX11_operand 221 = .ok (.aload_n 0, 1) := by decide +kernel
theorem dX11_operand_222 : decode cX11_operand 222 = .ok (.invokevirtual 335, 3) := by decide +kernel
theorem dX11_operand_225 : decode cX11_operand 225 = .ok (.ifCond .eq 10, 3) := by decide +kernel
theorem dX11_operand_228 : decode cX11_operand 228 = .ok (.aload_n 0, 1) := by decide +kernel
theorem dX11_operand_229 : decode cX11_operand 229 = .ok (.invokevirtual 341, 3) := by decide +kernel
theorem dX11_operand_232 : decode cX11_operand 232 = .ok (.goto 7, 3) := by decide +kernel
theorem dX11_operand_235 : decode cX11_operand 235 = .ok (.aload_n 0, 1) := by decide +kernel
theorem dX11_operand_236 : decode cX11_operand 236 = .ok (.invokevirtual 356, 3) := by decide +kernel
theorem dX11_operand_239 : decode cX11_operand 239 = .ok (.ireturn, 1) := by decide +kernel
theorem dX11_operand_240 : decode cX11_operand 240 = .ok (.aload_n 0, 1) := by decide +kernel
theorem dX11_operand_241 : decode cX11_operand 241 = .ok (.iconst 3, 1) := by decide +kernel
theorem dX11_operand_242 : decode cX11_operand 242 = .ok (.invokevirtual 281, 3) := by decide +kernel
theorem dX11_operand_245 : decode cX11_operand 245 = .ok (.ireturn, 1) := by decide +kernel
theorem dX11_loads_0 : decode cX11_loads 0 = .ok (.aload_n 0, 1) := by decide +kernel
theorem dX11_loads_1 : decode cX11_loads 1 = .ok (.invokevirtual 344, 3) := by decide +kernel
theorem dX11_loads_4 : decode cX11_loads 4 = .ok (.istore_n 1, 1) := by decide +kernel
theorem dX11_loads_5 : decode cX11_loads 5 = .ok (.iload_n 1, 1) := by decide +kernel
theorem dX11_loads_6 : decode cX11_loads 6 = .ok (.iconst (-1), 1) := by decide +kernel
theorem dX11_loads_7 : decode cX11_loads 7 = .ok (.if_icmp .ne 9, 3) := by decide +kernel
theorem dX11_loads_10 : decode cX11_loads 10 = .ok (.aload_n 0, 1) := by decide +kernel
theorem dX11_loads_11 : decode cX11_loads 11 = .ok (.iconst 5, 1) := by decide +kernel
theorem dX11_loads_12 : decode cX11_loads 12 = .ok (.invokevirtual 281, 3) := by decide +kernel
theorem dX11_loads_15 : decode cX11_loads 15 = .ok (.ireturn, 1) := by decide +kernel
theorem dX11_loads_16 : decode cX11_loads 16 = .ok (.aload_n 0, 1) := by decide +kernel
theorem dX11_loads_17 : decode cX11_loads 17 = .ok (.iconst 2, 1) := by decide +kernel
theorem dX11_loads_18 : decode cX11_loads 18 = .ok (.iload_n 1, 1) := by decide +kernel
theorem dX11_loads_19 : decode cX11_loads 19 = .ok (.invokevirtual 304, 3) := by decide +kernel
theorem dX11_loads_22 : decode cX11_loads 22 = .ok (.istore_n 2, 1) := by decide +kernel
theorem dX11_loads_23 : decode cX11_loads 23 = .ok (.aload_n 0, 1) := by decide +kernel
theorem dX11_loads_24 : decode cX11_loads 24 = .ok (.iconst 2, 1) := by decide +kernel
theorem dX11_loads_25 : decode cX11_loads 25 = .ok (.iconst 4, 1) := by decide +kernel
theorem dX11_loads_26 : decode cX11_loads 26 = .ok (.invokevirtual 315, 3) := by decide +kernel
theorem dX11_loads_29 : decode cX11_loads 29 = .ok (.ifCond .eq 14, 3) := by decide +kernel
theorem dX11_loads_32 : decode cX11_loads 32 = .ok (.aload_n 0, 1) := by decide +kernel
theorem dX11_loads_33 : decode cX11_loads 33 = .ok (.invokevirtual 319, 3) := by decide +kernel
theorem dX11_loads_36 : decode cX11_loads 36 = .ok (.ifCond .eq 7, 3) := by decide +kernel
theorem dX11_loads_39 : decode cX11_loads 39 = .ok (.iconst 1, 1) := by decide +kernel
theorem dX11_loads_40 : decode cX11_loads 40 = .ok (.goto 4, 3) := by decide +kernel
theorem dX11_loads_43 : decode cX11_loads 43 = .ok (.iconst 0, 1) := by decide +kernel
theorem dX11_loads_44 : decode cX11_loads 44 = .ok (.ireturn, 1) := by decide +kernel
theorem dX11_operator_0 : decode cX11_operator 0 = .ok (.aload_n 0, 1) := by decide +kernel
theorem dX11_operator_1 : decode cX11_operator 1 = .ok (.getfield 240, 3) := by decide +kernel
theorem dX11_operator_4 : decode cX11_operator 4 = .ok (.invokestatic 301, 3) := by decide +kernel
theorem dX11_operator_7 : decode cX11_operator 7 = .ok (.istore_n 1, 1) := by decide +kernel
theorem dX11_operator_8 : decode cX11_operator 8 = .ok (.iload_n 1, 1) := by decide +kernel
theorem dX11_operator_9 : decode cX11_operator 9 = .ok (.ifCond .le 67, 3) := by decide +kernel
theorem dX11_operator_12 : decode cX11_operator 12 = .ok (.aload_n 0, 1) := by decide +kernel
theorem dX11_operator_13 : decode cX11_operator 13 = .ok (.iload_n 1, 1) := by decide +kernel
theorem dX11_operator_14 : decode cX11_operator 14 = .ok (.invokevirtual 359, 3) := by decide +kernel
theorem dX11_operator_17 : decode cX11_operator 17 = .ok (.aload_n 0, 1) := by decide +kernel
theorem dX11_operator_18 : decode cX11_operator 18 = .ok (.getfield 240, 3) := by decide +kernel
theorem dX11_operator_21 : decode cX11_operator 21 = .ok (.bipush 22, 2) := by decide +kernel
theorem dX11_operator_23 : decode cX11_operator 23 = .ok (.if_icmp .ne 13, 3) := by decide +kernel
theorem dX11_operator_26 : decode cX11_operator 26 = .ok (.aload_n 0, 1) := by decide +kernel
theorem dX11_operator_27 : decode cX11_operator 27 = .ok (.bipush 6, 2) := by decide +kernel
theorem dX11_operator_29 : decode cX11_operator 29 = .ok (.iconst 0, 1) := by decide +kernel
theorem dX11_operator_30 : decode cX11_operator 30 = .ok (.invokevirtual 304, 3) := by decide +kernel
theorem dX11_operator_33 : decode cX11_operator 33 = .ok (.goto 23, 3) := by decide +kernel
theorem dX11_operator_36 : decode cX11_operator 36 = .ok (.aload_n 0, 1) := by decide +kernel
theorem dX11_operator_37 : decode cX11_operator 37 = .ok (.getfield 240, 3) := by decide +kernel
theorem dX11_operator_40 : decode cX11_operator 40 = .ok (.bipush 23, 2) := by decide +kernel
theorem dX11_operator_42 : decode cX11_operator 42 = .ok (.if_icmp .ne 13, 3) := by decide +kernel
theorem dX11_operator_45 : decode cX11_operator 45 = .ok (.aload_n 0, 1) := by decide +kernel
theorem dX11_operator_46 : decode cX11_operator 46 = .ok (.bipush 7, 2) := by decide +kernel
theorem dX11_operator_48 : decode cX11_operator 48 = .ok (.iconst 0, 1) := by decide +kernel
theorem dX11_operator_49 : decode cX11_operator 49 = .ok (.invokevirtual 304, 3) := by decide +kernel
theorem dX11_operator_52 : decode cX11_operator 52 = .ok (.goto 4, 3) := by decide +kernel
theorem dX11_operator_55 : decode cX11_operator 55 = .ok (.iconst 0, 1) := by decide +kernel
theorem dX11_operator_56 : decode cX11_operator 56 = .ok (.istore_n 2, 1) := by decide +kernel
theorem dX11_operator_57 : decode cX11_operator 57 = .ok (.aload_n 0, 1) := by decide +kernel
theorem dX11_operator_58 : decode cX11_operator 58 = .ok (.aload_n 0, 1) := by decide +kernel
theorem dX11_operator_59 : decode cX11_operator 59 = .ok (.getfield 240, 3) := by decide +kernel
theorem dX11_operator_62 : decode cX11_operator 62 = .ok (.iload_n 2, 1) := by decide +kernel
theorem dX11_operator_63 : decode cX11_operator 63 = .ok (.invokevirtual 311, 3) := by decide +kernel
theorem dX11_operator_66 : decode cX11_operator 66 = .ok (.aload_n 0, 1) := by decide +kernel
theorem dX11_operator_67 : decode cX11_operator 67 = .ok (.aload_n 0, 1) := by decide +kernel
theorem dX11_operator_68 : decode cX11_operator 68 = .ok (.getfield 240, 3) := by decide +kernel
theorem dX11_operator_71 : decode cX11_operator 71 = .ok (.iconst 2, 1) := by decide +kernel
theorem dX11_operator_72 : decode cX11_operator 72 = .ok (.invokevirtual 315, 3) := by decide +kernel
theorem dX11_operator_75 : decode cX11_operator 75 = .ok (.ireturn, 1) := by decide +kernel
theorem dX11_operator_76 : decode cX11_operator 76 = .ok (.aload_n 0, 1) := by decide +kernel
theorem dX11_operator_77 : decode cX11_operator 77 = .ok (.invokevirtual 363, 3) := by decide +kernel
theorem dX11_operator_80 : decode cX11_operator 80 = .ok (.istore_n 2, 1) := by decide +kernel
theorem dX11_operator_81 : decode cX11_operator 81 = .ok (.aload_n 0, 1) := by decide +kernel
theorem dX11_operator_82 : decode cX11_operator 82 = .ok (.getfield 240, 3) := by decide +kernel
theorem dX11_operator_85 : decode cX11_operator 85 = .ok (.tableswitch 168 27 31 #[35, 143, 168, 61, 106], 35) := by decide +kernel
theorem dX11_operator_120 : decode cX11_operator 120 = .ok (.iload_n 2, 1) := by decide +kernel
theorem dX11_operator_121 : decode cX11_operator 121 = .ok (.bipush 41, 2) := by decide +kernel
theorem dX11_operator_123 : decode cX11_operator 123 = .ok (.if_icmp .eq 9, 3) := by decide +kernel
theorem dX11_operator_126 : decode cX11_operator 126 = .ok (.iload_n 2, 1) := by decide +kernel
theorem dX11_operator_127 : decode cX11_operator 127 = .ok (.bipush 42, 2) := by decide +kernel
theorem dX11_operator_129 : decode cX11_operator 129 = .ok (.if_icmp .ne 11, 3) := by decide +kernel
theorem dX11_operator_132 : decode cX11_operator 132 = .ok (.aload_n 0, 1) := by decide +kernel
theorem dX11_operator_133 : decode cX11_operator 133 = .ok (.iload_n 2, 1) := by decide +kernel
theorem dX11_operator_134 : decode cX11_operator 134 = .ok (.invokevirtual 366, 3) := by decide +kernel
theorem dX11_operator_137 : decode cX11_operator 137 = .ok (.goto 8, 3) := by decide +kernel
theorem dX11_operator_140 : decode cX11_operator 140 = .ok (.aload_n 0, 1) := by decide +kernel
theorem dX11_operator_141 : decode cX11_operator 141 = .ok (.iconst 3, 1) := by decide +kernel
theorem dX11_operator_142 : decode cX11_operator 142 = .ok (.invokevirtual 281, 3) := by decide +kernel
theorem dX11_operator_145 : decode cX11_operator 145 = .ok (.ireturn, 1) := by decide +kernel
theorem dX11_operator_146 : decode cX11_operator 146 = .ok (.iload_n 2, 1) := by decide +kernel
theorem dX11_operator_147 : decode cX11_operator 147 = .ok (.bipush 42, 2) := by decide +kernel
theorem dX11_operator_149 : decode cX11_operator 149 = .ok (.if_icmp .eq 9, 3) := by decide +kernel
theorem dX11_operator_152 : decode cX11_operator 152 = .ok (.aload_n 0, 1) := by decide +kernel
theorem dX11_operator_153 : decode cX11_operator 153 = .ok (.iconst 3, 1) := by decide +kernel
theorem dX11_operator_154 : decode cX11_operator 154 = .ok (.invokevirtual 281, 3) := by decide +kernel
theorem dX11_operator_157 : decode cX11_operator 157 = .ok (.ireturn, 1) := by decide +kernel
theorem dX11_operator_158 : decode cX11_operator 158 = .ok (.aload_n 0, 1) := by decide +kernel
theorem dX11_operator_159 : decode cX11_operator 159 = .ok (.iconst 1, 1) := by decide +kernel
theorem dX11_operator_160 : decode cX11_operator 160 = .ok (.invokevirtual 359, 3) := by decide +kernel
theorem dX11_operator_163 : decode cX11_operator 163 = .ok (.aload_n 0, 1) := by decide +kernel
theorem dX11_operator_164 : decode cX11_operator 164 = .ok (.getfield 62, 3) := by decide +kernel
theorem dX11_operator_167 : decode cX11_operator 167 = .ok (.aload_n 0, 1) := by decide +kernel
theorem dX11_operator_168 : decode cX11_operator 168 = .ok (.getfield 71, 3) := by decide +kernel
theorem dX11_operator_171 : decode cX11_operator 171 = .ok (.aload_n 0, 1) := by decide +kernel
theorem dX11_operator_172 : decode cX11_operator 172 = .ok (.getfield 275, 3) := by decide +kernel
theorem dX11_operator_175 : decode cX11_operator 175 = .ok (.iconst 1, 1) := by decide +kernel
theorem dX11_operator_176 : decode cX11_operator 176 = .ok (.isub, 1) := by decide +kernel
theorem dX11_operator_177 : decode cX11_operator 177 = .ok (.iaload, 1) := by decide +kernel
theorem dX11_operator_178 : decode cX11_operator 178 = .ok (.dup2, 1) := by decide +kernel
theorem dX11_operator_179 : decode cX11_operator 179 = .ok (.iaload, 1) := by decide +kernel
theorem dX11_operator_180 : decode cX11_operator 180 = .ok (.iconst 1, 1) := by decide +kernel
theorem dX11_operator_181 : decode cX11_operator 181 = .ok (.iadd, 1) := by decide +kernel
theorem dX11_operator_182 : decode cX11_operator 182 = .ok (.iastore, 1) := by decide +kernel
theorem dX11_operator_183 : decode cX11_operator 183 = .ok (.aload_n 0, 1) := by decide +kernel
theorem dX11_operator_184 : decode cX11_operator 184 = .ok (.bipush 30, 2) := by decide +kernel
theorem dX11_operator_186 : decode cX11_operator 186 = .ok (.iconst 2, 1) := by decide +kernel
theorem dX11_operator_187 : decode cX11_operator 187 = .ok (.invokevirtual 315, 3) := by decide +kernel
theorem dX11_operator_190 : decode cX11_operator 190 = .ok (.ireturn, 1) := by decide +kernel
theorem dX11_operator_191 : decode cX11_operator 191 = .ok (.iload_n 2, 1) := by decide +kernel
theorem dX11_operator_192 : decode cX11_operator 192 = .ok (.bipush 43, 2) := by decide +kernel
theorem dX11_operator_194 : decode cX11_operator 194 = .ok (.if_icmp .eq 21, 3) := by decide +kernel
theorem dX11_operator_197 : decode cX11_operator 197 = .ok (.iload_n 2, 1) := by decide +kernel
theorem dX11_operator_198 : decode cX11_operator 198 = .ok (.bipush 44, 2) := by decide +kernel
theorem dX11_operator_200 : decode cX11_operator 200 = .ok (.if_icmp .eq 15, 3) := by decide +kernel
theorem dX11_operator_203 : decode cX11_operator 203 = .ok (.iload_n 2, 1) := by decide +kernel
theorem dX11_operator_204 : decode cX11_operator 204 = .ok (.bipush 45, 2) := by decide +kernel
theorem dX11_operator_206 : decode cX11_operator 206 = .ok (.if_icmp .eq 9, 3) := by decide +kernel
theorem dX11_operator_209 : decode cX11_operator 209 = .ok (.iload_n 2, 1) := by decide +kernel
theorem dX11_operator_210 : decode cX11_operator 210 = .ok (.bipush 49, 2) := by decide +kernel
theorem dX11_operator_212 : decode cX11_operator 212 = .ok (.if_icmp .ne 10, 3) := by decide +kernel
theorem dX11_operator_215 : decode cX11_operator 215 = .ok (.aload_n 0, 1) := by decide +kernel
theorem dX11_operator_216 : decode cX11_operator 216 = .ok (.invokevirtual 369, 3) := by decide +kernel
theorem dX11_operator_219 : decode cX11_operator 219 = .ok (.goto 8, 3) := by decide +kernel
theorem dX11_operator_222 : decode cX11_operator 222 = .ok (.aload_n 0, 1) := by decide +kernel
theorem dX11_operator_223 : decode cX11_operator 223 = .ok (.iconst 3, 1) := by decide +kernel
theorem dX11_operator_224 : decode cX11_operator 224 = .ok (.invokevirtual 281, 3) := by decide +kernel
theorem dX11_operator_227 : decode cX11_operator 227 = .ok (.ireturn, 1) := by decide +kernel
theorem dX11_operator_228 : decode cX11_operator 228 = .ok (.iload_n 2, 1) := by decide +kernel
theorem dX11_operator_229 : decode cX11_operator 229 = .ok (.bipush 46, 2) := by decide +kernel
theorem dX11_operator_231 : decode cX11_operator 231 = .ok (.if_icmp .eq 9, 3) := by decide +kernel
theorem dX11_operator_234 : decode cX11_operator 234 = .ok (.iload_n 2, 1) := by decide +kernel
theorem dX11_operator_235 : decode cX11_operator 235 = .ok (.bipush 47, 2) := by decide +kernel
theorem dX11_operator_237 : decode cX11_operator 237 = .ok (.if_icmp .ne 10, 3) := by decide +kernel
theorem dX11_operator_240 : decode cX11_operator 240 = .ok (.aload_n 0, 1) := by decide +kernel
theorem dX11_operator_241 : decode cX11_operator 241 = .ok (.invokevirtual 372, 3) := by decide +kernel
theorem dX11_operator_244 : decode cX11_operator 244 = .ok (.goto 8, 3) := by decide +kernel
theorem dX11_operator_247 : decode cX11_operator 247 = .ok (.aload_n 0, 1) := by decide +kernel
theorem dX11_operator_248 : decode cX11_operator 248 = .ok (.iconst 3, 1) := by decide +kernel
theorem dX11_operator_249 : decode cX11_operator 249 = .ok (.invokevirtual 281, 3) := by decide +kernel
theorem dX11_operator_252 : decode cX11_operator 252 = .ok (.ireturn, 1) := by decide +kernel
theorem dX11_operator_253 : decode cX11_operator 253 = .ok (.aload_n 0, 1) := by decide +kernel
theorem dX11_operator_254 : decode cX11_operator 254 = .ok (.iconst 3, 1) := by decide +kernel
theorem dX11_operator_255 : decode cX11_operator 255 = .ok (.invokevirtual 281, 3) := by decide +kernel
theorem dX11_operator_258 : decode cX11_operator 258 = .ok (.ireturn, 1) := by decide +kernel
theorem dX11_closes_0 : decode cX11_closes 0 = .ok (.aload_n 0, 1) := by decide +kernel
theorem dX11_closes_1 : decode cX11_closes 1 = .ok (.iconst 1, 1) := by decide +kernel
theorem dX11_closes_2 : decode cX11_closes 2 = .ok (.invokevirtual 359, 3) := by decide +kernel
theorem dX11_closes_5 : decode cX11_closes 5 = .ok (.iload_n 1, 1) := by decide +kernel
theorem dX11_closes_6 : decode cX11_closes 6 = .ok (.bipush 42, 2) := by decide +kernel
theorem dX11_closes_8 : decode cX11_closes 8 = .ok (.if_icmp .ne 28, 3) := by decide +kernel
theorem dX11_closes_11 : decode cX11_closes 11 = .ok (.aload_n 0, 1) := by decide +kernel
theorem dX11_closes_12 : decode cX11_closes 12 = .ok (.getfield 62, 3) := by decide +kernel
theorem dX11_closes_15 : decode cX11_closes 15 = .ok (.aload_n 0, 1) := by decide +kernel
theorem dX11_closes_16 : decode cX11_closes 16 = .ok (.getfield 71, 3) := by decide +kernel
theorem dX11_closes_19 : decode cX11_closes 19 = .ok (.aload_n 0, 1) := by decide +kernel
theorem dX11_closes_20 : decode cX11_closes 20 = .ok (.getfield 275, 3) := by decide +kernel
theorem dX11_closes_23 : decode cX11_closes 23 = .ok (.iconst 1, 1) := by decide +kernel
theorem dX11_closes_24 : decode cX11_closes 24 = .ok (.isub, 1) := by decide +kernel
theorem dX11_closes_25 : decode cX11_closes 25 = .ok (.iaload, 1) := by decide +kernel
theorem dX11_closes_26 : decode cX11_closes 26 = .ok (.dup2, 1) := by decide +kernel
theorem dX11_closes_27 : decode cX11_closes 27 = .ok (.iaload, 1) := by decide +kernel
theorem dX11_closes_28 : decode cX11_closes 28 = .ok (.iconst 1, 1) := by decide +kernel
theorem dX11_closes_29 : decode cX11_closes 29 = .ok (.iadd, 1) := by decide +kernel
theorem dX11_closes_30 : decode cX11_closes 30 = .ok (.iastore, 1) := by decide +kernel
theorem dX11_closes_31 : decode cX11_closes 31 = .ok (.aload_n 0, 1) := by decide +kernel
theorem dX11_closes_32 : decode cX11_closes 32 = .ok (.invokevirtual 353, 3) := by decide +kernel
theorem dX11_closes_35 : decode cX11_closes 35 = .ok (.ireturn, 1) := by decide +kernel
theorem dX11_closes_36 : decode cX11_closes 36 = .ok (.aload_n 0, 1) := by decide +kernel
theorem dX11_closes_37 : decode cX11_closes 37 = .ok (.dup, 1) := by decide +kernel
theorem dX11_closes_38 : decode cX11_closes 38 = .ok (.getfield 275, 3) := by decide +kernel
theorem dX11_closes_41 : decode cX11_closes 41 = .ok (.iconst 1, 1) := by decide +kernel
theorem dX11_closes_42 : decode cX11_closes 42 = .ok (.isub, 1) := by decide +kernel
theorem dX11_closes_43 : decode cX11_closes 43 = .ok (.putfield 275, 3) := by decide +kernel
theorem dX11_closes_46 : decode cX11_closes 46 = .ok (.aload_n 0, 1) := by decide +kernel
theorem dX11_closes_47 : decode cX11_closes 47 = .ok (.dup, 1) := by decide +kernel
theorem dX11_closes_48 : decode cX11_closes 48 = .ok (.getfield 278, 3) := by decide +kernel
theorem dX11_closes_51 : decode cX11_closes 51 = .ok (.iconst 1, 1) := by decide +kernel
theorem dX11_closes_52 : decode cX11_closes 52 = .ok (.isub, 1) := by decide +kernel
theorem dX11_closes_53 : decode cX11_closes 53 = .ok (.putfield 278, 3) := by decide +kernel
theorem dX11_closes_56 : decode cX11_closes 56 = .ok (.aload_n 0, 1) := by decide +kernel
theorem dX11_closes_57 : decode cX11_closes 57 = .ok (.bipush 27, 2) := by decide +kernel
theorem dX11_closes_59 : decode cX11_closes 59 = .ok (.iconst 4, 1) := by decide +kernel
theorem dX11_closes_60 : decode cX11_closes 60 = .ok (.invokevirtual 315, 3) := by decide +kernel
theorem dX11_closes_63 : decode cX11_closes 63 = .ok (.ifCond .eq 14, 3) := by decide +kernel
theorem dX11_closes_66 : decode cX11_closes 66 = .ok (.aload_n 0, 1) := by decide +kernel
theorem dX11_closes_67 : decode cX11_closes 67 = .ok (.invokevirtual 319, 3) := by decide +kernel
theorem dX11_closes_70 : decode cX11_closes 70 = .ok (.ifCond .eq 7, 3) := by decide +kernel
theorem dX11_closes_73 : decode cX11_closes 73 = .ok (.iconst 1, 1) := by decide +kernel
theorem dX11_closes_74 : decode cX11_closes 74 = .ok (.goto 4, 3) := by decide +kernel
theorem dX11_closes_77 : decode cX11_closes 77 = .ok (.iconst 0, 1) := by decide +kernel
theorem dX11_closes_78 : decode cX11_closes 78 = .ok (.ireturn, 1) := by decide +kernel
theorem dX11_stops_0 : decode cX11_stops 0 = .ok (.aload_n 0, 1) := by decide +kernel
theorem dX11_stops_1 : decode cX11_stops 1 = .ok (.iconst 1, 1) := by decide +kernel
theorem dX11_stops_2 : decode cX11_stops 2 = .ok (.invokevirtual 359, 3) := by decide +kernel
theorem dX11_stops_5 : decode cX11_stops 5 = .ok (.aload_n 0, 1) := by decide +kernel
theorem dX11_stops_6 : decode cX11_stops 6 = .ok (.dup, 1) := by decide +kernel
theorem dX11_stops_7 : decode cX11_stops 7 = .ok (.getfield 275, 3) := by decide +kernel
theorem dX11_stops_10 : decode cX11_stops 10 = .ok (.iconst 1, 1) := by decide +kernel
theorem dX11_stops_11 : decode cX11_stops 11 = .ok (.isub, 1) := by decide +kernel
theorem dX11_stops_12 : decode cX11_stops 12 = .ok (.putfield 275, 3) := by decide +kernel
theorem dX11_stops_15 : decode cX11_stops 15 = .ok (.aload_n 0, 1) := by decide +kernel
theorem dX11_stops_16 : decode cX11_stops 16 = .ok (.getfield 68, 3) := by decide +kernel
theorem dX11_stops_19 : decode cX11_stops 19 = .ok (.aload_n 0, 1) := by decide +kernel
theorem dX11_stops_20 : decode cX11_stops 20 = .ok (.getfield 275, 3) := by decide +kernel
theorem dX11_stops_23 : decode cX11_stops 23 = .ok (.iaload, 1) := by decide +kernel
theorem dX11_stops_24 : decode cX11_stops 24 = .ok (.istore_n 1, 1) := by decide +kernel
theorem dX11_stops_25 : decode cX11_stops 25 = .ok (.aload_n 0, 1) := by decide +kernel
theorem dX11_stops_26 : decode cX11_stops 26 = .ok (.iload_n 1, 1) := by decide +kernel
theorem dX11_stops_27 : decode cX11_stops 27 = .ok (.bipush 43, 2) := by decide +kernel
theorem dX11_stops_29 : decode cX11_stops 29 = .ok (.if_icmp .ne 7, 3) := by decide +kernel
theorem dX11_stops_32 : decode cX11_stops 32 = .ok (.iconst 3, 1) := by decide +kernel
theorem dX11_stops_33 : decode cX11_stops 33 = .ok (.goto 27, 3) := by decide +kernel
theorem dX11_stops_36 : decode cX11_stops 36 = .ok (.iload_n 1, 1) := by decide +kernel
theorem dX11_stops_37 : decode cX11_stops 37 = .ok (.bipush 44, 2) := by decide +kernel
theorem dX11_stops_39 : decode cX11_stops 39 = .ok (.if_icmp .ne 8, 3) := by decide +kernel
theorem dX11_stops_42 : decode cX11_stops 42 = .ok (.bipush 11, 2) := by decide +kernel
theorem dX11_stops_44 : decode cX11_stops 44 = .ok (.goto 16, 3) := by decide +kernel
theorem dX11_stops_47 : decode cX11_stops 47 = .ok (.iload_n 1, 1) := by decide +kernel
theorem dX11_stops_48 : decode cX11_stops 48 = .ok (.bipush 45, 2) := by decide +kernel
theorem dX11_stops_50 : decode cX11_stops 50 = .ok (.if_icmp .ne 8, 3) := by decide +kernel
theorem dX11_stops_53 : decode cX11_stops 53 = .ok (.bipush 15, 2) := by decide +kernel
theorem dX11_stops_55 : decode cX11_stops 55 = .ok (.goto 5, 3) := by decide +kernel
theorem dX11_stops_58 : decode cX11_stops 58 = .ok (.bipush 12, 2) := by decide +kernel
theorem dX11_stops_60 : decode cX11_stops 60 = .ok (.aload_n 0, 1) := by decide +kernel
theorem dX11_stops_61 : decode cX11_stops 61 = .ok (.getfield 71, 3) := by decide +kernel
theorem dX11_stops_64 : decode cX11_stops 64 = .ok (.aload_n 0, 1) := by decide +kernel
theorem dX11_stops_65 : decode cX11_stops 65 = .ok (.getfield 275, 3) := by decide +kernel
theorem dX11_stops_68 : decode cX11_stops 68 = .ok (.iaload, 1) := by decide +kernel
theorem dX11_stops_69 : decode cX11_stops 69 = .ok (.invokevirtual 304, 3) := by decide +kernel
theorem dX11_stops_72 : decode cX11_stops 72 = .ok (.istore_n 2, 1) := by decide +kernel
theorem dX11_stops_73 : decode cX11_stops 73 = .ok (.aload_n 0, 1) := by decide +kernel
theorem dX11_stops_74 : decode cX11_stops 74 = .ok (.getfield 32, 3) := by decide +kernel
theorem dX11_stops_77 : decode cX11_stops 77 = .ok (.aload_n 0, 1) := by decide +kernel
theorem dX11_stops_78 : decode cX11_stops 78 = .ok (.getfield 272, 3) := by decide +kernel
theorem dX11_stops_81 : decode cX11_stops 81 = .ok (.aload_n 0, 1) := by decide +kernel
theorem dX11_stops_82 : decode cX11_stops 82 = .ok (.getfield 263, 3) := by decide +kernel
theorem dX11_stops_85 : decode cX11_stops 85 = .ok (.iastore, 1) := by decide +kernel
theorem dX11_stops_86 : decode cX11_stops 86 = .ok (.aload_n 0, 1) := by decide +kernel
theorem dX11_stops_87 : decode cX11_stops 87 = .ok (.bipush 31, 2) := by decide +kernel
theorem dX11_stops_89 : decode cX11_stops 89 = .ok (.iconst 0, 1) := by decide +kernel
theorem dX11_stops_90 : decode cX11_stops 90 = .ok (.invokevirtual 315, 3) := by decide +kernel
theorem dX11_stops_93 : decode cX11_stops 93 = .ok (.ireturn, 1) := by decide +kernel
theorem dX11_begins__0 : decode cX11_begins_ 0 = .ok (.aload_n 0, 1) := by decide +kernel
theorem dX11_begins__1 : decode cX11_begins_ 1 = .ok (.getfield 278, 3) := by decide +kernel
theorem dX11_begins__4 : decode cX11_begins_ 4 = .ok (.bipush 8, 2) := by decide +kernel
theorem dX11_begins__6 : decode cX11_begins_ 6 = .ok (.if_icmp .ne 9, 3) := by decide +kernel
theorem dX11_begins__9 : decode cX11_begins_ 9 = .ok (.aload_n 0, 1) := by decide +kernel
theorem dX11_begins__10 : decode cX11_begins_ 10 = .ok (.iconst 4, 1) := by decide +kernel
theorem dX11_begins__11 : decode cX11_begins_ 11 = .ok (.invokevirtual 281, 3) := by decide +kernel
theorem dX11_begins__14 : decode cX11_begins_ 14 = .ok (.ireturn, 1) := by decide +kernel
theorem dX11_begins__15 : decode cX11_begins_ 15 = .ok (.aload_n 0, 1) := by decide +kernel
theorem dX11_begins__16 : decode cX11_begins_ 16 = .ok (.iconst 1, 1) := by decide +kernel
theorem dX11_begins__17 : decode cX11_begins_ 17 = .ok (.invokevirtual 359, 3) := by decide +kernel
theorem dX11_begins__20 : decode cX11_begins_ 20 = .ok (.aload_n 0, 1) := by decide +kernel
theorem dX11_begins__21 : decode cX11_begins_ 21 = .ok (.dup, 1) := by decide +kernel
theorem dX11_begins__22 : decode cX11_begins_ 22 = .ok (.getfield 275, 3) := by decide +kernel
theorem dX11_begins__25 : decode cX11_begins_ 25 = .ok (.iconst 1, 1) := by decide +kernel
theorem dX11_begins__26 : decode cX11_begins_ 26 = .ok (.isub, 1) := by decide +kernel
theorem dX11_begins__27 : decode cX11_begins_ 27 = .ok (.putfield 275, 3) := by decide +kernel
theorem dX11_begins__30 : decode cX11_begins_ 30 = .ok (.aload_n 0, 1) := by decide +kernel
theorem dX11_begins__31 : decode cX11_begins_ 31 = .ok (.bipush 13, 2) := by decide +kernel
theorem dX11_begins__33 : decode cX11_begins_ 33 = .ok (.iconst 0, 1) := by decide +kernel
theorem dX11_begins__34 : decode cX11_begins_ 34 = .ok (.invokevirtual 304, 3) := by decide +kernel
theorem dX11_begins__37 : decode cX11_begins_ 37 = .ok (.istore_n 1, 1) := by decide +kernel
theorem dX11_begins__38 : decode cX11_begins_ 38 = .ok (.aload_n 0, 1) := by decide +kernel
theorem dX11_begins__39 : decode cX11_begins_ 39 = .ok (.aload_n 0, 1) := by decide +kernel
theorem dX11_begins__40 : decode cX11_begins_ 40 = .ok (.getfield 68, 3) := by decide +kernel
theorem dX11_begins__43 : decode cX11_begins_ 43 = .ok (.aload_n 0, 1) := by decide +kernel
theorem dX11_begins__44 : decode cX11_begins_ 44 = .ok (.getfield 275, 3) := by decide +kernel
theorem dX11_begins__47 : decode cX11_begins_ 47 = .ok (.iaload, 1) := by decide +kernel
theorem dX11_begins__48 : decode cX11_begins_ 48 = .ok (.bipush 46, 2) := by decide +kernel
theorem dX11_begins__50 : decode cX11_begins_ 50 = .ok (.if_icmp .ne 7, 3) := by decide +kernel
theorem dX11_begins__53 : decode cX11_begins_ 53 = .ok (.iconst 4, 1) := by decide +kernel
theorem dX11_begins__54 : decode cX11_begins_ 54 = .ok (.goto 5, 3) := by decide +kernel
theorem dX11_begins__57 : decode cX11_begins_ 57 = .ok (.bipush 6, 2) := by decide +kernel
theorem dX11_begins__59 : decode cX11_begins_ 59 = .ok (.aload_n 0, 1) := by decide +kernel
theorem dX11_begins__60 : decode cX11_begins_ 60 = .ok (.getfield 272, 3) := by decide +kernel
theorem dX11_begins__63 : decode cX11_begins_ 63 = .ok (.iload_n 1, 1) := by decide +kernel
theorem dX11_begins__64 : decode cX11_begins_ 64 = .ok (.aload_n 0, 1) := by decide +kernel
theorem dX11_begins__65 : decode cX11_begins_ 65 = .ok (.getfield 83, 3) := by decide +kernel
theorem dX11_begins__68 : decode cX11_begins_ 68 = .ok (.aload_n 0, 1) := by decide +kernel
theorem dX11_begins__69 : decode cX11_begins_ 69 = .ok (.getfield 326, 3) := by decide +kernel
theorem dX11_begins__72 : decode cX11_begins_ 72 = .ok (.iaload, 1) := by decide +kernel
theorem dX11_begins__73 : decode cX11_begins_ 73 = .ok (.invokevirtual 374, 3) := by decide +kernel
theorem dX11_begins__76 : decode cX11_begins_ 76 = .ok (.ireturn, 1) := by decide +kernel
theorem dX11_defWord_0 : decode cX11_defWord 0 = .ok (.aload_n 0, 1) := by decide +kernel
theorem dX11_defWord_1 : decode cX11_defWord 1 = .ok (.getfield 240, 3) := by decide +kernel
theorem dX11_defWord_4 : decode cX11_defWord 4 = .ok (.iconst 2, 1) := by decide +kernel
theorem dX11_defWord_5 : decode cX11_defWord 5 = .ok (.if_icmp .eq 9, 3) := by decide +kernel
theorem dX11_defWord_8 : decode cX11_defWord 8 = .ok (.aload_n 0, 1) := by decide +kernel
theorem dX11_defWord_9 : decode cX11_defWord 9 = .ok (.iconst 3, 1) := by decide +kernel
theorem dX11_defWord_10 : decode cX11_defWord 10 = .ok (.invokevirtual 281, 3) := by decide +kernel
theorem dX11_defWord_13 : decode cX11_defWord 13 = .ok (.ireturn, 1) := by decide +kernel
theorem dX11_defWord_14 : decode cX11_defWord 14 = .ok (.aload_n 0, 1) := by decide +kernel
theorem dX11_defWord_15 : decode cX11_defWord 15 = .ok (.aload_n 0, 1) := by decide +kernel
theorem dX11_defWord_16 : decode cX11_defWord 16 = .ok (.getfield 219, 3) := by decide +kernel
theorem dX11_defWord_19 : decode cX11_defWord 19 = .ok (.aload_n 0, 1) := by decide +kernel
theorem dX11_defWord_20 : decode cX11_defWord 20 = .ok (.getfield 199, 3) := by decide +kernel
theorem dX11_defWord_23 : decode cX11_defWord 23 = .ok (.aload_n 0, 1) := by decide +kernel
theorem dX11_defWord_24 : decode cX11_defWord 24 = .ok (.getfield 219, 3) := by decide +kernel
theorem dX11_defWord_27 : decode cX11_defWord 27 = .ok (.isub, 1) := by decide +kernel
theorem dX11_defWord_28 : decode cX11_defWord 28 = .ok (.invokevirtual 377, 3) := by decide +kernel
theorem dX11_defWord_31 : decode cX11_defWord 31 = .ok (.iconst (-1), 1) := by decide +kernel
theorem dX11_defWord_32 : decode cX11_defWord 32 = .ok (.if_icmp .eq 10, 3) := by decide +kernel
theorem dX11_defWord_35 : decode cX11_defWord 35 = .ok (.aload_n 0, 1) := by decide +kernel
theorem dX11_defWord_36 : decode cX11_defWord 36 = .ok (.bipush 6, 2) := by decide +kernel
theorem dX11_defWord_38 : decode cX11_defWord 38 = .ok (.invokevirtual 281, 3) := by decide +kernel
theorem dX11_defWord_41 : decode cX11_defWord 41 = .ok (.ireturn, 1) := by decide +kernel
theorem dX11_defWord_42 : decode cX11_defWord 42 = .ok (.aload_n 0, 1) := by decide +kernel
theorem dX11_defWord_43 : decode cX11_defWord 43 = .ok (.getfield 44, 3) := by decide +kernel
theorem dX11_defWord_46 : decode cX11_defWord 46 = .ok (.aload_n 0, 1) := by decide +kernel
theorem dX11_defWord_47 : decode cX11_defWord 47 = .ok (.getfield 295, 3) := by decide +kernel
theorem dX11_defWord_50 : decode cX11_defWord 50 = .ok (.aload_n 0, 1) := by decide +kernel
theorem dX11_defWord_51 : decode cX11_defWord 51 = .ok (.getfield 219, 3) := by decide +kernel
theorem dX11_defWord_54 : decode cX11_defWord 54 = .ok (.iastore, 1) := by decide +kernel
theorem dX11_defWord_55 : decode cX11_defWord 55 = .ok (.aload_n 0, 1) := by decide +kernel
theorem dX11_defWord_56 : decode cX11_defWord 56 = .ok (.getfield 47, 3) := by decide +kernel
theorem dX11_defWord_59 : decode cX11_defWord 59 = .ok (.aload_n 0, 1) := by decide +kernel
theorem dX11_defWord_60 : decode cX11_defWord 60 = .ok (.getfield 295, 3) := by decide +kernel
theorem dX11_defWord_63 : decode cX11_defWord 63 = .ok (.aload_n 0, 1) := by decide +kernel
theorem dX11_defWord_64 : decode cX11_defWord 64 = .ok (.getfield 199, 3) := by decide +kernel
theorem dX11_defWord_67 : decode cX11_defWord 67 = .ok (.aload_n 0, 1) := by decide +kernel
theorem dX11_defWord_68 : decode cX11_defWord 68 = .ok (.getfield 219, 3) := by decide +kernel
theorem dX11_defWord_71 : decode cX11_defWord 71 = .ok (.isub, 1) := by decide +kernel
theorem dX11_defWord_72 : decode cX11_defWord 72 = .ok (.iastore, 1) := by decide +kernel
theorem dX11_defWord_73 : decode cX11_defWord 73 = .ok (.aload_n 0, 1) := by decide +kernel
theorem dX11_defWord_74 : decode cX11_defWord 74 = .ok (.getfield 50, 3) := by decide +kernel
theorem dX11_defWord_77 : decode cX11_defWord 77 = .ok (.aload_n 0, 1) := by decide +kernel
theorem dX11_defWord_78 : decode cX11_defWord 78 = .ok (.getfield 295, 3) := by decide +kernel
theorem dX11_defWord_81 : decode cX11_defWord 81 = .ok (.iconst 0, 1) := by decide +kernel
theorem dX11_defWord_82 : decode cX11_defWord 82 = .ok (.iastore, 1) := by decide +kernel
theorem dX11_defWord_83 : decode cX11_defWord 83 = .ok (.aload_n 0, 1) := by decide +kernel
theorem dX11_defWord_84 : decode cX11_defWord 84 = .ok (.getfield 80, 3) := by decide +kernel
theorem dX11_defWord_87 : decode cX11_defWord 87 = .ok (.iconst 0, 1) := by decide +kernel
theorem dX11_defWord_88 : decode cX11_defWord 88 = .ok (.aload_n 0, 1) := by decide +kernel
theorem dX11_defWord_89 : decode cX11_defWord 89 = .ok (.bipush 14, 2) := by decide +kernel
theorem dX11_defWord_91 : decode cX11_defWord 91 = .ok (.iconst 0, 1) := by decide +kernel
theorem dX11_defWord_92 : decode cX11_defWord 92 = .ok (.invokevirtual 304, 3) := by decide +kernel
theorem dX11_defWord_95 : decode cX11_defWord 95 = .ok (.iastore, 1) := by decide +kernel
theorem dX11_defWord_96 : decode cX11_defWord 96 = .ok (.aload_n 0, 1) := by decide +kernel
theorem dX11_defWord_97 : decode cX11_defWord 97 = .ok (.getfield 53, 3) := by decide +kernel
theorem dX11_defWord_100 : decode cX11_defWord 100 = .ok (.aload_n 0, 1) := by decide +kernel
theorem dX11_defWord_101 : decode cX11_defWord 101 = .ok (.getfield 295, 3) := by decide +kernel
theorem dX11_defWord_104 : decode cX11_defWord 104 = .ok (.aload_n 0, 1) := by decide +kernel
theorem dX11_defWord_105 : decode cX11_defWord 105 = .ok (.getfield 260, 3) := by decide +kernel
theorem dX11_defWord_108 : decode cX11_defWord 108 = .ok (.iastore, 1) := by decide +kernel
theorem dX11_defWord_109 : decode cX11_defWord 109 = .ok (.aload_n 0, 1) := by decide +kernel
theorem dX11_defWord_110 : decode cX11_defWord 110 = .ok (.dup, 1) := by decide +kernel
theorem dX11_defWord_111 : decode cX11_defWord 111 = .ok (.getfield 295, 3) := by decide +kernel
theorem dX11_defWord_114 : decode cX11_defWord 114 = .ok (.iconst 1, 1) := by decide +kernel
theorem dX11_defWord_115 : decode cX11_defWord 115 = .ok (.iadd, 1) := by decide +kernel
theorem dX11_defWord_116 : decode cX11_defWord 116 = .ok (.putfield 295, 3) := by decide +kernel
theorem dX11_defWord_119 : decode cX11_defWord 119 = .ok (.aload_n 0, 1) := by decide +kernel
theorem dX11_defWord_120 : decode cX11_defWord 120 = .ok (.iconst 1, 1) := by decide +kernel
theorem dX11_defWord_121 : decode cX11_defWord 121 = .ok (.putfield 285, 3) := by decide +kernel
theorem dX11_defWord_124 : decode cX11_defWord 124 = .ok (.aload_n 0, 1) := by decide +kernel
theorem dX11_defWord_125 : decode cX11_defWord 125 = .ok (.getfield 35, 3) := by decide +kernel
theorem dX11_defWord_128 : decode cX11_defWord 128 = .ok (.iconst 1, 1) := by decide +kernel
theorem dX11_defWord_129 : decode cX11_defWord 129 = .ok (.iconst 0, 1) := by decide +kernel
theorem dX11_defWord_130 : decode cX11_defWord 130 = .ok (.iastore, 1) := by decide +kernel
theorem dX11_defWord_131 : decode cX11_defWord 131 = .ok (.aload_n 0, 1) := by decide +kernel
theorem dX11_defWord_132 : decode cX11_defWord 132 = .ok (.iconst 3, 1) := by decide +kernel
theorem dX11_defWord_133 : decode cX11_defWord 133 = .ok (.bipush 9, 2) := by decide +kernel
theorem dX11_defWord_135 : decode cX11_defWord 135 = .ok (.invokevirtual 315, 3) := by decide +kernel
theorem dX11_defWord_138 : decode cX11_defWord 138 = .ok (.ireturn, 1) := by decide +kernel
theorem dX11_parameter_0 : decode cX11_parameter 0 = .ok (.aload_n 0, 1) := by decide +kernel
theorem dX11_parameter_1 : decode cX11_parameter 1 = .ok (.getfield 240, 3) := by decide +kernel
theorem dX11_parameter_4 : decode cX11_parameter 4 = .ok (.bipush 27, 2) := by decide +kernel
theorem dX11_parameter_6 : decode cX11_parameter 6 = .ok (.if_icmp .ne 31, 3) := by decide +kernel
theorem dX11_parameter_9 : decode cX11_parameter 9 = .ok (.aload_n 0, 1) := by decide +kernel
theorem dX11_parameter_10 : decode cX11_parameter 10 = .ok (.getfield 266, 3) := by decide +kernel
theorem dX11_parameter_13 : decode cX11_parameter 13 = .ok (.bipush 10, 2) := by decide +kernel
theorem dX11_parameter_15 : decode cX11_parameter 15 = .ok (.if_icmp .ne 22, 3) := by decide +kernel
theorem dX11_parameter_18 : decode cX11_parameter 18 = .ok (.aload_n 0, 1) := by decide +kernel
theorem dX11_parameter_19 : decode cX11_parameter 19 = .ok (.dup, 1) := by decide +kernel
theorem dX11_parameter_20 : decode cX11_parameter 20 = .ok (.getfield 278, 3) := by decide +kernel
theorem dX11_parameter_23 : decode cX11_parameter 23 = .ok (.iconst 1, 1) := by decide +kernel
theorem dX11_parameter_24 : decode cX11_parameter 24 = .ok (.isub, 1) := by decide +kernel
theorem dX11_parameter_25 : decode cX11_parameter 25 = .ok (.putfield 278, 3) := by decide +kernel
theorem dX11_parameter_28 : decode cX11_parameter 28 = .ok (.aload_n 0, 1) := by decide +kernel
theorem dX11_parameter_29 : decode cX11_parameter 29 = .ok (.bipush 27, 2) := by decide +kernel
theorem dX11_parameter_31 : decode cX11_parameter 31 = .ok (.bipush 7, 2) := by decide +kernel
theorem dX11_parameter_33 : decode cX11_parameter 33 = .ok (.invokevirtual 315, 3) := by decide +kernel
theorem dX11_parameter_36 : decode cX11_parameter 36 = .ok (.ireturn, 1) := by decide +kernel
theorem dX11_parameter_37 : decode cX11_parameter 37 = .ok (.aload_n 0, 1) := by decide +kernel
theorem dX11_parameter_38 : decode cX11_parameter 38 = .ok (.getfield 240, 3) := by decide +kernel
theorem dX11_parameter_41 : decode cX11_parameter 41 = .ok (.iconst 2, 1) := by decide +kernel
theorem dX11_parameter_42 : decode cX11_parameter 42 = .ok (.if_icmp .eq 9, 3) := by decide +kernel
theorem dX11_parameter_45 : decode cX11_parameter 45 = .ok (.aload_n 0, 1) := by decide +kernel
theorem dX11_parameter_46 : decode cX11_parameter 46 = .ok (.iconst 3, 1) := by decide +kernel
theorem dX11_parameter_47 : decode cX11_parameter 47 = .ok (.invokevirtual 281, 3) := by decide +kernel
theorem dX11_parameter_50 : decode cX11_parameter 50 = .ok (.ireturn, 1) := by decide +kernel
theorem dX11_parameter_51 : decode cX11_parameter 51 = .ok (.aload_n 0, 1) := by decide +kernel
theorem dX11_parameter_52 : decode cX11_parameter 52 = .ok (.invokevirtual 292, 3) := by decide +kernel
theorem dX11_parameter_55 : decode cX11_parameter 55 = .ok (.iconst (-1), 1) := by decide +kernel
theorem dX11_parameter_56 : decode cX11_parameter 56 = .ok (.if_icmp .eq 10, 3) := by decide +kernel
theorem dX11_parameter_59 : decode cX11_parameter 59 = .ok (.aload_n 0, 1) := by decide +kernel
theorem dX11_parameter_60 : decode cX11_parameter 60 = .ok (.bipush 6, 2) := by decide +kernel
theorem dX11_parameter_62 : decode cX11_parameter 62 = .ok (.invokevirtual 281, 3) := by decide +kernel
theorem dX11_parameter_65 : decode cX11_parameter 65 = .ok (.ireturn, 1) := by decide +kernel
theorem dX11_parameter_66 : decode cX11_parameter 66 = .ok (.aload_n 0, 1) := by decide +kernel
theorem dX11_parameter_67 : decode cX11_parameter 67 = .ok (.invokevirtual 344, 3) := by decide +kernel
theorem dX11_parameter_70 : decode cX11_parameter 70 = .ok (.iconst (-1), 1) := by decide +kernel
theorem dX11_parameter_71 : decode cX11_parameter 71 = .ok (.if_icmp .ne 9, 3) := by decide +kernel
theorem dX11_parameter_74 : decode cX11_parameter 74 = .ok (.aload_n 0, 1) := by decide +kernel
theorem dX11_parameter_75 : decode cX11_parameter 75 = .ok (.iconst 5, 1) := by decide +kernel
theorem dX11_parameter_76 : decode cX11_parameter 76 = .ok (.invokevirtual 281, 3) := by decide +kernel
theorem dX11_parameter_79 : decode cX11_parameter 79 = .ok (.ireturn, 1) := by decide +kernel
theorem dX11_parameter_80 : decode cX11_parameter 80 = .ok (.aload_n 0, 1) := by decide +kernel
theorem dX11_parameter_81 : decode cX11_parameter 81 = .ok (.getfield 50, 3) := by decide +kernel
theorem dX11_parameter_84 : decode cX11_parameter 84 = .ok (.aload_n 0, 1) := by decide +kernel
theorem dX11_parameter_85 : decode cX11_parameter 85 = .ok (.getfield 295, 3) := by decide +kernel
theorem dX11_parameter_88 : decode cX11_parameter 88 = .ok (.iconst 1, 1) := by decide +kernel
theorem dX11_parameter_89 : decode cX11_parameter 89 = .ok (.isub, 1) := by decide +kernel
theorem dX11_parameter_90 : decode cX11_parameter 90 = .ok (.dup2, 1) := by decide +kernel
theorem dX11_parameter_91 : decode cX11_parameter 91 = .ok (.iaload, 1) := by decide +kernel
theorem dX11_parameter_92 : decode cX11_parameter 92 = .ok (.iconst 1, 1) := by decide +kernel
theorem dX11_parameter_93 : decode cX11_parameter 93 = .ok (.iadd, 1) := by decide +kernel
theorem dX11_parameter_94 : decode cX11_parameter 94 = .ok (.iastore, 1) := by decide +kernel
theorem dX11_parameter_95 : decode cX11_parameter 95 = .ok (.aload_n 0, 1) := by decide +kernel
theorem dX11_parameter_96 : decode cX11_parameter 96 = .ok (.iconst 2, 1) := by decide +kernel
theorem dX11_parameter_97 : decode cX11_parameter 97 = .ok (.bipush 12, 2) := by decide +kernel
theorem dX11_parameter_99 : decode cX11_parameter 99 = .ok (.invokevirtual 315, 3) := by decide +kernel
theorem dX11_parameter_102 : decode cX11_parameter 102 = .ok (.ireturn, 1) := by decide +kernel
theorem dX11_parameterNext_0 : decode cX11_parameterNext 0 = .ok (.aload_n 0, 1) := by decide +kernel
theorem dX11_parameterNext_1 : decode cX11_parameterNext 1 = .ok (.getfield 240, 3) := by decide +kernel
theorem dX11_parameterNext_4 : decode cX11_parameterNext 4 = .ok (.bipush 30, 2) := by decide +kernel
theorem dX11_parameterNext_6 : decode cX11_parameterNext 6 = .ok (.if_icmp .ne 12, 3) := by decide +kernel
theorem dX11_parameterNext_9 : decode cX11_parameterNext 9 = .ok (.aload_n 0, 1) := by decide +kernel
theorem dX11_parameterNext_10 : decode cX11_parameterNext 10 = .ok (.bipush 30, 2) := by decide +kernel
theorem dX11_parameterNext_12 : decode cX11_parameterNext 12 = .ok (.bipush 11, 2) := by decide +kernel
theorem dX11_parameterNext_14 : decode cX11_parameterNext 14 = .ok (.invokevirtual 315, 3) := by decide +kernel
theorem dX11_parameterNext_17 : decode cX11_parameterNext 17 = .ok (.ireturn, 1) := by decide +kernel
theorem dX11_parameterNext_18 : decode cX11_parameterNext 18 = .ok (.aload_n 0, 1) := by decide +kernel
theorem dX11_parameterNext_19 : decode cX11_parameterNext 19 = .ok (.dup, 1) := by decide +kernel
theorem dX11_parameterNext_20 : decode cX11_parameterNext 20 = .ok (.getfield 278, 3) := by decide +kernel
theorem dX11_parameterNext_23 : decode cX11_parameterNext 23 = .ok (.aload_n 0, 1) := by decide +kernel
theorem dX11_parameterNext_24 : decode cX11_parameterNext 24 = .ok (.getfield 240, 3) := by decide +kernel
theorem dX11_parameterNext_27 : decode cX11_parameterNext 27 = .ok (.bipush 27, 2) := by decide +kernel
theorem dX11_parameterNext_29 : decode cX11_parameterNext 29 = .ok (.if_icmp .ne 7, 3) := by decide +kernel
theorem dX11_parameterNext_32 : decode cX11_parameterNext 32 = .ok (.iconst 1, 1) := by decide +kernel
theorem dX11_parameterNext_33 : decode cX11_parameterNext 33 = .ok (.goto 4, 3) := by decide +kernel
theorem dX11_parameterNext_36 : decode cX11_parameterNext 36 = .ok (.iconst 0, 1) := by decide +kernel
theorem dX11_parameterNext_37 : decode cX11_parameterNext 37 = .ok (.isub, 1) := by decide +kernel
theorem dX11_parameterNext_38 : decode cX11_parameterNext 38 = .ok (.putfield 278, 3) := by decide +kernel
theorem dX11_parameterNext_41 : decode cX11_parameterNext 41 = .ok (.aload_n 0, 1) := by decide +kernel
theorem dX11_parameterNext_42 : decode cX11_parameterNext 42 = .ok (.getfield 240, 3) := by decide +kernel
theorem dX11_parameterNext_45 : decode cX11_parameterNext 45 = .ok (.bipush 27, 2) := by decide +kernel
theorem dX11_parameterNext_47 : decode cX11_parameterNext 47 = .ok (.if_icmp .ne 14, 3) := by decide +kernel
theorem dX11_parameterNext_50 : decode cX11_parameterNext 50 = .ok (.aload_n 0, 1) := by decide +kernel
theorem dX11_parameterNext_51 : decode cX11_parameterNext 51 = .ok (.bipush 27, 2) := by decide +kernel
theorem dX11_parameterNext_53 : decode cX11_parameterNext 53 = .ok (.bipush 7, 2) := by decide +kernel
theorem dX11_parameterNext_55 : decode cX11_parameterNext 55 = .ok (.invokevirtual 315, 3) := by decide +kernel
theorem dX11_parameterNext_58 : decode cX11_parameterNext 58 = .ok (.goto 8, 3) := by decide +kernel
theorem dX11_parameterNext_61 : decode cX11_parameterNext 61 = .ok (.aload_n 0, 1) := by decide +kernel
theorem dX11_parameterNext_62 : decode cX11_parameterNext 62 = .ok (.iconst 3, 1) := by decide +kernel
theorem dX11_parameterNext_63 : decode cX11_parameterNext 63 = .ok (.invokevirtual 281, 3) := by decide +kernel
theorem dX11_parameterNext_66 : decode cX11_parameterNext 66 = .ok (.ireturn, 1) := by decide +kernel
theorem dX11_block_0 : decode cX11_block 0 = .ok (.aload_n 0, 1) := by decide +kernel
theorem dX11_block_1 : decode cX11_block 1 = .ok (.getfield 240, 3) := by decide +kernel
theorem dX11_block_4 : decode cX11_block 4 = .ok (.bipush 28, 2) := by decide +kernel
theorem dX11_block_6 : decode cX11_block 6 = .ok (.if_icmp .eq 9, 3) := by decide +kernel
theorem dX11_block_9 : decode cX11_block 9 = .ok (.aload_n 0, 1) := by decide +kernel
theorem dX11_block_10 : decode cX11_block 10 = .ok (.iconst 3, 1) := by decide +kernel
theorem dX11_block_11 : decode cX11_block 11 = .ok (.invokevirtual 281, 3) := by decide +kernel
theorem dX11_block_14 : decode cX11_block 14 = .ok (.ireturn, 1) := by decide +kernel
theorem dX11_block_15 : decode cX11_block 15 = .ok (.aload_n 0, 1) := by decide +kernel
theorem dX11_block_16 : decode cX11_block 16 = .ok (.getfield 26, 3) := by decide +kernel
theorem dX11_block_19 : decode cX11_block 19 = .ok (.aload_n 0, 1) := by decide +kernel
theorem dX11_block_20 : decode cX11_block 20 = .ok (.getfield 263, 3) := by decide +kernel
theorem dX11_block_23 : decode cX11_block 23 = .ok (.iconst 1, 1) := by decide +kernel
theorem dX11_block_24 : decode cX11_block 24 = .ok (.isub, 1) := by decide +kernel
theorem dX11_block_25 : decode cX11_block 25 = .ok (.iaload, 1) := by decide +kernel
theorem dX11_block_26 : decode cX11_block 26 = .ok (.iconst 5, 1) := by decide +kernel
theorem dX11_block_27 : decode cX11_block 27 = .ok (.if_icmp .ne 7, 3) := by decide +kernel
theorem dX11_block_30 : decode cX11_block 30 = .ok (.iconst 1, 1) := by decide +kernel
theorem dX11_block_31 : decode cX11_block 31 = .ok (.goto 4, 3) := by decide +kernel
theorem dX11_block_34 : decode cX11_block 34 = .ok (.iconst 0, 1) := by decide +kernel
theorem dX11_block_35 : decode cX11_block 35 = .ok (.istore_n 1, 1) := by decide +kernel
theorem dX11_block_36 : decode cX11_block 36 = .ok (.aload_n 0, 1) := by decide +kernel
theorem dX11_block_37 : decode cX11_block 37 = .ok (.iload_n 1, 1) := by decide +kernel
theorem dX11_block_38 : decode cX11_block 38 = .ok (.ifCond .eq 7, 3) := by decide +kernel
theorem dX11_block_41 : decode cX11_block 41 = .ok (.iconst 5, 1) := by decide +kernel
theorem dX11_block_42 : decode cX11_block 42 = .ok (.goto 5, 3) := by decide +kernel
theorem dX11_block_45 : decode cX11_block 45 = .ok (.bipush 9, 2) := by decide +kernel
theorem dX11_block_47 : decode cX11_block 47 = .ok (.iload_n 1, 1) := by decide +kernel
theorem dX11_block_48 : decode cX11_block 48 = .ok (.ifCond .eq 15, 3) := by decide +kernel
theorem dX11_block_51 : decode cX11_block 51 = .ok (.aload_n 0, 1) := by decide +kernel
theorem dX11_block_52 : decode cX11_block 52 = .ok (.getfield 77, 3) := by decide +kernel
theorem dX11_block_55 : decode cX11_block 55 = .ok (.aload_n 0, 1) := by decide +kernel
theorem dX11_block_56 : decode cX11_block 56 = .ok (.getfield 326, 3) := by decide +kernel
theorem dX11_block_59 : decode cX11_block 59 = .ok (.iaload, 1) := by decide +kernel
theorem dX11_block_60 : decode cX11_block 60 = .ok (.goto 7, 3) := by decide +kernel
theorem dX11_block_63 : decode cX11_block 63 = .ok (.aload_n 0, 1) := by decide +kernel
theorem dX11_block_64 : decode cX11_block 64 = .ok (.getfield 272, 3) := by decide +kernel
theorem dX11_block_67 : decode cX11_block 67 = .ok (.aload_n 0, 1) := by decide +kernel
theorem dX11_block_68 : decode cX11_block 68 = .ok (.getfield 80, 3) := by decide +kernel
theorem dX11_block_71 : decode cX11_block 71 = .ok (.aload_n 0, 1) := by decide +kernel
theorem dX11_block_72 : decode cX11_block 72 = .ok (.getfield 326, 3) := by decide +kernel
theorem dX11_block_75 : decode cX11_block 75 = .ok (.iaload, 1) := by decide +kernel
theorem dX11_block_76 : decode cX11_block 76 = .ok (.iconst 0, 1) := by decide +kernel
theorem dX11_block_77 : decode cX11_block 77 = .ok (.invokevirtual 374, 3) := by decide +kernel
theorem dX11_block_80 : decode cX11_block 80 = .ok (.ireturn, 1) := by decide +kernel
theorem dX11_sets_0 : decode cX11_sets 0 = .ok (.aload_n 0, 1) := by decide +kernel
theorem dX11_sets_1 : decode cX11_sets 1 = .ok (.getfield 240, 3) := by decide +kernel
theorem dX11_sets_4 : decode cX11_sets 4 = .ok (.iload_n 1, 1) := by decide +kernel
theorem dX11_sets_5 : decode cX11_sets 5 = .ok (.if_icmp .ne 12, 3) := by decide +kernel
theorem dX11_sets_8 : decode cX11_sets 8 = .ok (.aload_n 0, 1) := by decide +kernel
theorem dX11_sets_9 : decode cX11_sets 9 = .ok (.iload_n 1, 1) := by decide +kernel
theorem dX11_sets_10 : decode cX11_sets 10 = .ok (.iload_n 2, 1) := by decide +kernel
theorem dX11_sets_11 : decode cX11_sets 11 = .ok (.invokevirtual 315, 3) := by decide +kernel
theorem dX11_sets_14 : decode cX11_sets 14 = .ok (.goto 8, 3) := by decide +kernel
theorem dX11_sets_17 : decode cX11_sets 17 = .ok (.aload_n 0, 1) := by decide +kernel
theorem dX11_sets_18 : decode cX11_sets 18 = .ok (.iconst 3, 1) := by decide +kernel
theorem dX11_sets_19 : decode cX11_sets 19 = .ok (.invokevirtual 281, 3) := by decide +kernel
theorem dX11_sets_22 : decode cX11_sets 22 = .ok (.ireturn, 1) := by decide +kernel
theorem dX11_accepts_0 : decode cX11_accepts 0 = .ok (.aload_n 0, 1) := by decide +kernel
theorem dX11_accepts_1 : decode cX11_accepts 1 = .ok (.getfield 240, 3) := by decide +kernel
theorem dX11_accepts_4 : decode cX11_accepts 4 = .ok (.ifCond .ge 13, 3) := by decide +kernel
theorem dX11_accepts_7 : decode cX11_accepts 7 = .ok (.aload_n 0, 1) := by decide +kernel
theorem dX11_accepts_8 : decode cX11_accepts 8 = .ok (.aload_n 0, 1) := by decide +kernel
theorem dX11_accepts_9 : decode cX11_accepts 9 = .ok (.getfield 240, 3) := by decide +kernel
theorem dX11_accepts_12 : decode cX11_accepts 12 = .ok (.ineg, 1) := by decide +kernel
theorem dX11_accepts_13 : decode cX11_accepts 13 = .ok (.invokevirtual 281, 3) := by decide +kernel
theorem dX11_accepts_16 : decode cX11_accepts 16 = .ok (.ireturn, 1) := by decide +kernel
theorem dX11_accepts_17 : decode cX11_accepts 17 = .ok (.aload_n 0, 1) := by decide +kernel
theorem dX11_accepts_18 : decode cX11_accepts 18 = .ok (.getfield 266, 3) := by decide +kernel
theorem dX11_accepts_21 : decode cX11_accepts 21 = .ok (.tableswitch 198 0 13 #[71, 76, 81, 81, 86, 91, 99, 114, 119, 124, 165, 165, 170, 175], 71) := by decide +kernel
theorem dX11_accepts_92 : decode cX11_accepts 92 = .ok (.aload_n 0, 1) := by decide +kernel
theorem dX11_accepts_93 : decode cX11_accepts 93 = .ok (.invokevirtual 329, 3) := by decide +kernel
theorem dX11_accepts_96 : decode cX11_accepts 96 = .ok (.ireturn, 1) := by decide +kernel
theorem dX11_accepts_97 : decode cX11_accepts 97 = .ok (.aload_n 0, 1) := by decide +kernel
theorem dX11_accepts_98 : decode cX11_accepts 98 = .ok (.invokevirtual 380, 3) := by decide +kernel
theorem dX11_accepts_101 : decode cX11_accepts 101 = .ok (.ireturn, 1) := by decide +kernel
theorem dX11_accepts_102 : decode cX11_accepts 102 = .ok (.aload_n 0, 1) := by decide +kernel
theorem dX11_accepts_103 : decode cX11_accepts 103 = .ok (.invokevirtual 383, 3) := by decide +kernel
theorem dX11_accepts_106 : decode cX11_accepts 106 = .ok (.ireturn, 1) := by decide +kernel
theorem dX11_accepts_107 : decode cX11_accepts 107 = .ok (.aload_n 0, 1) := by decide +kernel
theorem dX11_accepts_108 : decode cX11_accepts 108 = .ok (.invokevirtual 386, 3) := by decide +kernel
theorem dX11_accepts_111 : decode cX11_accepts 111 = .ok (.ireturn, 1) := by decide +kernel
theorem dX11_accepts_112 : decode cX11_accepts 112 = .ok (.aload_n 0, 1) := by decide +kernel
theorem dX11_accepts_113 : decode cX11_accepts 113 = .ok (.bipush 25, 2) := by decide +kernel
theorem dX11_accepts_115 : decode cX11_accepts 115 = .ok (.iconst 2, 1) := by decide +kernel
theorem dX11_accepts_116 : decode cX11_accepts 116 = .ok (.invokevirtual 389, 3) := by decide +kernel
theorem dX11_accepts_119 : decode cX11_accepts 119 = .ok (.ireturn, 1) := by decide +kernel
theorem dX11_accepts_120 : decode cX11_accepts 120 = .ok (.aload_n 0, 1) := by decide +kernel
theorem dX11_accepts_121 : decode cX11_accepts 121 = .ok (.bipush 49, 2) := by decide +kernel
theorem dX11_accepts_123 : decode cX11_accepts 123 = .ok (.iconst 0, 1) := by decide +kernel
theorem dX11_accepts_124 : decode cX11_accepts 124 = .ok (.invokevirtual 311, 3) := by decide +kernel
theorem dX11_accepts_127 : decode cX11_accepts 127 = .ok (.aload_n 0, 1) := by decide +kernel
theorem dX11_accepts_128 : decode cX11_accepts 128 = .ok (.bipush 25, 2) := by decide +kernel
theorem dX11_accepts_130 : decode cX11_accepts 130 = .ok (.iconst 2, 1) := by decide +kernel
theorem dX11_accepts_131 : decode cX11_accepts 131 = .ok (.invokevirtual 389, 3) := by decide +kernel
theorem dX11_accepts_134 : decode cX11_accepts 134 = .ok (.ireturn, 1) := by decide +kernel
theorem dX11_accepts_135 : decode cX11_accepts 135 = .ok (.aload_n 0, 1) := by decide +kernel
theorem dX11_accepts_136 : decode cX11_accepts 136 = .ok (.invokevirtual 392, 3) := by decide +kernel
theorem dX11_accepts_139 : decode cX11_accepts 139 = .ok (.ireturn, 1) := by decide +kernel
theorem dX11_accepts_140 : decode cX11_accepts 140 = .ok (.aload_n 0, 1) := by decide +kernel
theorem dX11_accepts_141 : decode cX11_accepts 141 = .ok (.invokevirtual 395, 3) := by decide +kernel
theorem dX11_accepts_144 : decode cX11_accepts 144 = .ok (.ireturn, 1) := by decide +kernel
theorem dX11_accepts_145 : decode cX11_accepts 145 = .ok (.aload_n 0, 1) := by decide +kernel
theorem dX11_accepts_146 : decode cX11_accepts 146 = .ok (.getfield 240, 3) := by decide +kernel
theorem dX11_accepts_149 : decode cX11_accepts 149 = .ok (.bipush 26, 2) := by decide +kernel
theorem dX11_accepts_151 : decode cX11_accepts 151 = .ok (.if_icmp .ne 29, 3) := by decide +kernel
theorem dX11_accepts_154 : decode cX11_accepts 154 = .ok (.aload_n 0, 1) := by decide +kernel
theorem dX11_accepts_155 : decode cX11_accepts 155 = .ok (.invokevirtual 323, 3) := by decide +kernel
theorem dX11_accepts_158 : decode cX11_accepts 158 = .ok (.ifCond .eq 18, 3) := by decide +kernel
theorem dX11_accepts_161 : decode cX11_accepts 161 = .ok (.aload_n 0, 1) := by decide +kernel
theorem dX11_accepts_162 : decode cX11_accepts 162 = .ok (.bipush 26, 2) := by decide +kernel
theorem dX11_accepts_164 : decode cX11_accepts 164 = .ok (.bipush 10, 2) := by decide +kernel
theorem dX11_accepts_166 : decode cX11_accepts 166 = .ok (.invokevirtual 315, 3) := by decide +kernel
theorem dX11_accepts_169 : decode cX11_accepts 169 = .ok (.ifCond .eq 7, 3) := by decide +kernel
theorem dX11_accepts_172 : decode cX11_accepts 172 = .ok (.iconst 1, 1) := by decide +kernel
theorem dX11_accepts_173 : decode cX11_accepts 173 = .ok (.goto 12, 3) := by decide +kernel
theorem dX11_accepts_176 : decode cX11_accepts 176 = .ok (.iconst 0, 1) := by decide +kernel
theorem dX11_accepts_177 : decode cX11_accepts 177 = .ok (.goto 8, 3) := by decide +kernel
theorem dX11_accepts_180 : decode cX11_accepts 180 = .ok (.aload_n 0, 1) := by decide +kernel
theorem dX11_accepts_181 : decode cX11_accepts 181 = .ok (.iconst 3, 1) := by decide +kernel
theorem dX11_accepts_182 : decode cX11_accepts 182 = .ok (.invokevirtual 281, 3) := by decide +kernel
theorem dX11_accepts_185 : decode cX11_accepts 185 = .ok (.ireturn, 1) := by decide +kernel
theorem dX11_accepts_186 : decode cX11_accepts 186 = .ok (.aload_n 0, 1) := by decide +kernel
theorem dX11_accepts_187 : decode cX11_accepts 187 = .ok (.invokevirtual 398, 3) := by decide +kernel
theorem dX11_accepts_190 : decode cX11_accepts 190 = .ok (.ireturn, 1) := by decide +kernel
theorem dX11_accepts_191 : decode cX11_accepts 191 = .ok (.aload_n 0, 1) := by decide +kernel
theorem dX11_accepts_192 : decode cX11_accepts 192 = .ok (.invokevirtual 401, 3) := by decide +kernel
theorem dX11_accepts_195 : decode cX11_accepts 195 = .ok (.ireturn, 1) := by decide +kernel
theorem dX11_accepts_196 : decode cX11_accepts 196 = .ok (.aload_n 0, 1) := by decide +kernel
theorem dX11_accepts_197 : decode cX11_accepts 197 = .ok (.invokevirtual 323, 3) := by decide +kernel
theorem dX11_accepts_200 : decode cX11_accepts 200 = .ok (.ifCond .eq 17, 3) := by decide +kernel
theorem dX11_accepts_203 : decode cX11_accepts 203 = .ok (.aload_n 0, 1) := by decide +kernel
theorem dX11_accepts_204 : decode cX11_accepts 204 = .ok (.bipush 26, 2) := by decide +kernel
theorem dX11_accepts_206 : decode cX11_accepts 206 = .ok (.iconst 3, 1) := by decide +kernel
theorem dX11_accepts_207 : decode cX11_accepts 207 = .ok (.invokevirtual 315, 3) := by decide +kernel
theorem dX11_accepts_210 : decode cX11_accepts 210 = .ok (.ifCond .eq 7, 3) := by decide +kernel
theorem dX11_accepts_213 : decode cX11_accepts 213 = .ok (.iconst 1, 1) := by decide +kernel
theorem dX11_accepts_214 : decode cX11_accepts 214 = .ok (.goto 4, 3) := by decide +kernel
theorem dX11_accepts_217 : decode cX11_accepts 217 = .ok (.iconst 0, 1) := by decide +kernel
theorem dX11_accepts_218 : decode cX11_accepts 218 = .ok (.ireturn, 1) := by decide +kernel
theorem dX11_accepts_219 : decode cX11_accepts 219 = .ok (.aload_n 0, 1) := by decide +kernel
theorem dX11_accepts_220 : decode cX11_accepts 220 = .ok (.getfield 32, 3) := by decide +kernel
theorem dX11_accepts_223 : decode cX11_accepts 223 = .ok (.aload_n 0, 1) := by decide +kernel
theorem dX11_accepts_224 : decode cX11_accepts 224 = .ok (.getfield 272, 3) := by decide +kernel
theorem dX11_accepts_227 : decode cX11_accepts 227 = .ok (.aload_n 0, 1) := by decide +kernel
theorem dX11_accepts_228 : decode cX11_accepts 228 = .ok (.getfield 263, 3) := by decide +kernel
theorem dX11_accepts_231 : decode cX11_accepts 231 = .ok (.iastore, 1) := by decide +kernel
theorem dX11_accepts_232 : decode cX11_accepts 232 = .ok (.aload_n 0, 1) := by decide +kernel
theorem dX11_accepts_233 : decode cX11_accepts 233 = .ok (.bipush 31, 2) := by decide +kernel
theorem dX11_accepts_235 : decode cX11_accepts 235 = .ok (.iconst 0, 1) := by decide +kernel
theorem dX11_accepts_236 : decode cX11_accepts 236 = .ok (.invokevirtual 389, 3) := by decide +kernel
theorem dX11_accepts_239 : decode cX11_accepts 239 = .ok (.ireturn, 1) := by decide +kernel
theorem dX11_readsAll_0 : decode cX11_readsAll 0 = .ok (.aload_n 0, 1) := by decide +kernel
theorem dX11_readsAll_1 : decode cX11_readsAll 1 = .ok (.iconst 0, 1) := by decide +kernel
theorem dX11_readsAll_2 : decode cX11_readsAll 2 = .ok (.putfield 199, 3) := by decide +kernel
theorem dX11_readsAll_5 : decode cX11_readsAll 5 = .ok (.aload_n 0, 1) := by decide +kernel
theorem dX11_readsAll_6 : decode cX11_readsAll 6 = .ok (.iconst 0, 1) := by decide +kernel
theorem dX11_readsAll_7 : decode cX11_readsAll 7 = .ok (.putfield 254, 3) := by decide +kernel
theorem dX11_readsAll_10 : decode cX11_readsAll 10 = .ok (.aload_n 0, 1) := by decide +kernel
theorem dX11_readsAll_11 : decode cX11_readsAll 11 = .ok (.iconst (-1), 1) := by decide +kernel
theorem dX11_readsAll_12 : decode cX11_readsAll 12 = .ok (.putfield 257, 3) := by decide +kernel
theorem dX11_readsAll_15 : decode cX11_readsAll 15 = .ok (.aload_n 0, 1) := by decide +kernel
theorem dX11_readsAll_16 : decode cX11_readsAll 16 = .ok (.iconst 0, 1) := by decide +kernel
theorem dX11_readsAll_17 : decode cX11_readsAll 17 = .ok (.putfield 260, 3) := by decide +kernel
theorem dX11_readsAll_20 : decode cX11_readsAll 20 = .ok (.aload_n 0, 1) := by decide +kernel
theorem dX11_readsAll_21 : decode cX11_readsAll 21 = .ok (.iconst 0, 1) := by decide +kernel
theorem dX11_readsAll_22 : decode cX11_readsAll 22 = .ok (.putfield 263, 3) := by decide +kernel
theorem dX11_readsAll_25 : decode cX11_readsAll 25 = .ok (.aload_n 0, 1) := by decide +kernel
theorem dX11_readsAll_26 : decode cX11_readsAll 26 = .ok (.iconst 0, 1) := by decide +kernel
theorem dX11_readsAll_27 : decode cX11_readsAll 27 = .ok (.putfield 269, 3) := by decide +kernel
theorem dX11_readsAll_30 : decode cX11_readsAll 30 = .ok (.aload_n 0, 1) := by decide +kernel
theorem dX11_readsAll_31 : decode cX11_readsAll 31 = .ok (.getfield 35, 3) := by decide +kernel
theorem dX11_readsAll_34 : decode cX11_readsAll 34 = .ok (.iconst 0, 1) := by decide +kernel
theorem dX11_readsAll_35 : decode cX11_readsAll 35 = .ok (.iconst 0, 1) := by decide +kernel
theorem dX11_readsAll_36 : decode cX11_readsAll 36 = .ok (.iastore, 1) := by decide +kernel
theorem dX11_readsAll_37 : decode cX11_readsAll 37 = .ok (.aload_n 0, 1) := by decide +kernel
theorem dX11_readsAll_38 : decode cX11_readsAll 38 = .ok (.getfield 35, 3) := by decide +kernel
theorem dX11_readsAll_41 : decode cX11_readsAll 41 = .ok (.iconst 1, 1) := by decide +kernel
theorem dX11_readsAll_42 : decode cX11_readsAll 42 = .ok (.iconst 0, 1) := by decide +kernel
theorem dX11_readsAll_43 : decode cX11_readsAll 43 = .ok (.iastore, 1) := by decide +kernel
theorem dX11_readsAll_44 : decode cX11_readsAll 44 = .ok (.aload_n 0, 1) := by decide +kernel
theorem dX11_readsAll_45 : decode cX11_readsAll 45 = .ok (.iconst 0, 1) := by decide +kernel
theorem dX11_readsAll_46 : decode cX11_readsAll 46 = .ok (.putfield 295, 3) := by decide +kernel
theorem dX11_readsAll_49 : decode cX11_readsAll 49 = .ok (.aload_n 0, 1) := by decide +kernel
theorem dX11_readsAll_50 : decode cX11_readsAll 50 = .ok (.iconst 0, 1) := by decide +kernel
theorem dX11_readsAll_51 : decode cX11_readsAll 51 = .ok (.putfield 308, 3) := by decide +kernel
theorem dX11_readsAll_54 : decode cX11_readsAll 54 = .ok (.aload_n 0, 1) := by decide +kernel
theorem dX11_readsAll_55 : decode cX11_readsAll 55 = .ok (.iconst 0, 1) := by decide +kernel
theorem dX11_readsAll_56 : decode cX11_readsAll 56 = .ok (.putfield 266, 3) := by decide +kernel
theorem dX11_readsAll_59 : decode cX11_readsAll 59 = .ok (.aload_n 0, 1) := by decide +kernel
theorem dX11_readsAll_60 : decode cX11_readsAll 60 = .ok (.iconst 0, 1) := by decide +kernel
theorem dX11_readsAll_61 : decode cX11_readsAll 61 = .ok (.putfield 278, 3) := by decide +kernel
theorem dX11_readsAll_64 : decode cX11_readsAll 64 = .ok (.aload_n 0, 1) := by decide +kernel
theorem dX11_readsAll_65 : decode cX11_readsAll 65 = .ok (.iconst 0, 1) := by decide +kernel
theorem dX11_readsAll_66 : decode cX11_readsAll 66 = .ok (.putfield 285, 3) := by decide +kernel
theorem dX11_readsAll_69 : decode cX11_readsAll 69 = .ok (.aload_n 0, 1) := by decide +kernel
theorem dX11_readsAll_70 : decode cX11_readsAll 70 = .ok (.iconst 0, 1) := by decide +kernel
theorem dX11_readsAll_71 : decode cX11_readsAll 71 = .ok (.putfield 275, 3) := by decide +kernel
theorem dX11_readsAll_74 : decode cX11_readsAll 74 = .ok (.aload_n 0, 1) := by decide +kernel
theorem dX11_readsAll_75 : decode cX11_readsAll 75 = .ok (.iconst 0, 1) := by decide +kernel
theorem dX11_readsAll_76 : decode cX11_readsAll 76 = .ok (.putfield 326, 3) := by decide +kernel
theorem dX11_readsAll_79 : decode cX11_readsAll 79 = .ok (.iconst 1, 1) := by decide +kernel
theorem dX11_readsAll_80 : decode cX11_readsAll 80 = .ok (.istore_n 1, 1) := by decide +kernel
theorem dX11_readsAll_81 : decode cX11_readsAll 81 = .ok (.iload_n 1, 1) := by decide +kernel
theorem dX11_readsAll_82 : decode cX11_readsAll 82 = .ok (.ifCond .eq 15, 3) := by decide +kernel
theorem dX11_readsAll_85 : decode cX11_readsAll 85 = .ok (.aload_n 0, 1) := by decide +kernel
theorem dX11_readsAll_86 : decode cX11_readsAll 86 = .ok (.invokevirtual 404, 3) := by decide +kernel
theorem dX11_readsAll_89 : decode cX11_readsAll 89 = .ok (.aload_n 0, 1) := by decide +kernel
theorem dX11_readsAll_90 : decode cX11_readsAll 90 = .ok (.invokevirtual 407, 3) := by decide +kernel
theorem dX11_readsAll_93 : decode cX11_readsAll 93 = .ok (.istore_n 1, 1) := by decide +kernel
theorem dX11_readsAll_94 : decode cX11_readsAll 94 = .ok (.goto (-13), 3) := by decide +kernel
theorem dX11_readsAll_97 : decode cX11_readsAll 97 = .ok (.iconst 0, 1) := by decide +kernel
theorem dX11_readsAll_98 : decode cX11_readsAll 98 = .ok (.istore_n 2, 1) := by decide +kernel
theorem dX11_readsAll_99 : decode cX11_readsAll 99 = .ok (.iload_n 2, 1) := by decide +kernel
theorem dX11_readsAll_100 : decode cX11_readsAll 100 = .ok (.aload_n 0, 1) := by decide +kernel
theorem dX11_readsAll_101 : decode cX11_readsAll 101 = .ok (.getfield 308, 3) := by decide +kernel
theorem dX11_readsAll_104 : decode cX11_readsAll 104 = .ok (.if_icmp .ge 93, 3) := by decide +kernel
theorem dX11_readsAll_107 : decode cX11_readsAll 107 = .ok (.aload_n 0, 1) := by decide +kernel
theorem dX11_readsAll_108 : decode cX11_readsAll 108 = .ok (.getfield 254, 3) := by decide +kernel
theorem dX11_readsAll_111 : decode cX11_readsAll 111 = .ok (.ifCond .ne 86, 3) := by decide +kernel
theorem dX11_readsAll_114 : decode cX11_readsAll 114 = .ok (.aload_n 0, 1) := by decide +kernel
theorem dX11_readsAll_115 : decode cX11_readsAll 115 = .ok (.aload_n 0, 1) := by decide +kernel
theorem dX11_readsAll_116 : decode cX11_readsAll 116 = .ok (.getfield 56, 3) := by decide +kernel
theorem dX11_readsAll_119 : decode cX11_readsAll 119 = .ok (.iload_n 2, 1) := by decide +kernel
theorem dX11_readsAll_120 : decode cX11_readsAll 120 = .ok (.iaload, 1) := by decide +kernel
theorem dX11_readsAll_121 : decode cX11_readsAll 121 = .ok (.aload_n 0, 1) := by decide +kernel
theorem dX11_readsAll_122 : decode cX11_readsAll 122 = .ok (.getfield 59, 3) := by decide +kernel
theorem dX11_readsAll_125 : decode cX11_readsAll 125 = .ok (.iload_n 2, 1) := by decide +kernel
theorem dX11_readsAll_126 : decode cX11_readsAll 126 = .ok (.iaload, 1) := by decide +kernel
theorem dX11_readsAll_127 : decode cX11_readsAll 127 = .ok (.invokevirtual 377, 3) := by decide +kernel
theorem dX11_readsAll_130 : decode cX11_readsAll 130 = .ok (.istore_n 3, 1) := by decide +kernel
theorem dX11_readsAll_131 : decode cX11_readsAll 131 = .ok (.iload_n 3, 1) := by decide +kernel
theorem dX11_readsAll_132 : decode cX11_readsAll 132 = .ok (.iconst (-1), 1) := by decide +kernel
theorem dX11_readsAll_133 : decode cX11_readsAll 133 = .ok (.if_icmp .eq 18, 3) := by decide +kernel
theorem dX11_readsAll_136 : decode cX11_readsAll 136 = .ok (.aload_n 0, 1) := by decide +kernel
theorem dX11_readsAll_137 : decode cX11_readsAll 137 = .ok (.getfield 50, 3) := by decide +kernel
theorem dX11_readsAll_140 : decode cX11_readsAll 140 = .ok (.iload_n 3, 1) := by decide +kernel
theorem dX11_readsAll_141 : decode cX11_readsAll 141 = .ok (.iaload, 1) := by decide +kernel
theorem dX11_readsAll_142 : decode cX11_readsAll 142 = .ok (.aload_n 0, 1) := by decide +kernel
theorem dX11_readsAll_143 : decode cX11_readsAll 143 = .ok (.getfield 62, 3) := by decide +kernel
theorem dX11_readsAll_146 : decode cX11_readsAll 146 = .ok (.iload_n 2, 1) := by decide +kernel
theorem dX11_readsAll_147 : decode cX11_readsAll 147 = .ok (.iaload, 1) := by decide +kernel
theorem dX11_readsAll_148 : decode cX11_readsAll 148 = .ok (.if_icmp .eq 31, 3) := by decide +kernel
theorem dX11_readsAll_151 : decode cX11_readsAll 151 = .ok (.aload_n 0, 1) := by decide +kernel
theorem dX11_readsAll_152 : decode cX11_readsAll 152 = .ok (.aload_n 0, 1) := by decide +kernel
theorem dX11_readsAll_153 : decode cX11_readsAll 153 = .ok (.getfield 56, 3) := by decide +kernel
theorem dX11_readsAll_156 : decode cX11_readsAll 156 = .ok (.iload_n 2, 1) := by decide +kernel
theorem dX11_readsAll_157 : decode cX11_readsAll 157 = .ok (.iaload, 1) := by decide +kernel
theorem dX11_readsAll_158 : decode cX11_readsAll 158 = .ok (.putfield 219, 3) := by decide +kernel
theorem dX11_readsAll_161 : decode cX11_readsAll 161 = .ok (.aload_n 0, 1) := by decide +kernel
theorem dX11_readsAll_162 : decode cX11_readsAll 162 = .ok (.iload_n 3, 1) := by decide +kernel
theorem dX11_readsAll_163 : decode cX11_readsAll 163 = .ok (.iconst (-1), 1) := by decide +kernel
theorem dX11_readsAll_164 : decode cX11_readsAll 164 = .ok (.if_icmp .ne 8, 3) := by decide +kernel
theorem dX11_readsAll_167 : decode cX11_readsAll 167 = .ok (.bipush 7, 2) := by decide +kernel
theorem dX11_readsAll_169 : decode cX11_readsAll 169 = .ok (.goto 5, 3) := by decide +kernel
theorem dX11_readsAll_172 : decode cX11_readsAll 172 = .ok (.bipush 8, 2) := by decide +kernel
theorem dX11_readsAll_174 : decode cX11_readsAll 174 = .ok (.invokevirtual 281, 3) := by decide +kernel
theorem dX11_readsAll_177 : decode cX11_readsAll 177 = .ok (.istore 4, 2) := by decide +kernel
theorem dX11_readsAll_179 : decode cX11_readsAll 179 = .ok (.aload_n 0, 1) := by decide +kernel
theorem dX11_readsAll_180 : decode cX11_readsAll 180 = .ok (.getfield 23, 3) := by decide +kernel
theorem dX11_readsAll_183 : decode cX11_readsAll 183 = .ok (.aload_n 0, 1) := by decide +kernel
theorem dX11_readsAll_184 : decode cX11_readsAll 184 = .ok (.getfield 65, 3) := by decide +kernel
theorem dX11_readsAll_187 : decode cX11_readsAll 187 = .ok (.iload_n 2, 1) := by decide +kernel
theorem dX11_readsAll_188 : decode cX11_readsAll 188 = .ok (.iaload, 1) := by decide +kernel
theorem dX11_readsAll_189 : decode cX11_readsAll 189 = .ok (.iload_n 3, 1) := by decide +kernel
theorem dX11_readsAll_190 : decode cX11_readsAll 190 = .ok (.iastore, 1) := by decide +kernel
theorem dX11_readsAll_191 : decode cX11_readsAll 191 = .ok (.iinc 2 1, 3) := by decide +kernel
theorem dX11_readsAll_194 : decode cX11_readsAll 194 = .ok (.goto (-95), 3) := by decide +kernel
theorem dX11_readsAll_197 : decode cX11_readsAll 197 = .ok (.return_, 1) := by decide +kernel
theorem dX11_burns_0 : decode cX11_burns 0 = .ok (.aload_n 0, 1) := by decide +kernel
theorem dX11_burns_1 : decode cX11_burns 1 = .ok (.aload_n 0, 1) := by decide +kernel
theorem dX11_burns_2 : decode cX11_burns 2 = .ok (.getfield 410, 3) := by decide +kernel
theorem dX11_burns_5 : decode cX11_burns 5 = .ok (.ifCond .ne 7, 3) := by decide +kernel
theorem dX11_burns_8 : decode cX11_burns 8 = .ok (.iconst 1, 1) := by decide +kernel
theorem dX11_burns_9 : decode cX11_burns 9 = .ok (.goto 7, 3) := by decide +kernel
theorem dX11_burns_12 : decode cX11_burns 12 = .ok (.aload_n 0, 1) := by decide +kernel
theorem dX11_burns_13 : decode cX11_burns 13 = .ok (.getfield 413, 3) := by decide +kernel
theorem dX11_burns_16 : decode cX11_burns 16 = .ok (.putfield 413, 3) := by decide +kernel
theorem dX11_burns_19 : decode cX11_burns 19 = .ok (.aload_n 0, 1) := by decide +kernel
theorem dX11_burns_20 : decode cX11_burns 20 = .ok (.dup, 1) := by decide +kernel
theorem dX11_burns_21 : decode cX11_burns 21 = .ok (.getfield 410, 3) := by decide +kernel
theorem dX11_burns_24 : decode cX11_burns 24 = .ok (.aload_n 0, 1) := by decide +kernel
theorem dX11_burns_25 : decode cX11_burns 25 = .ok (.getfield 410, 3) := by decide +kernel
theorem dX11_burns_28 : decode cX11_burns 28 = .ok (.ifCond .ne 7, 3) := by decide +kernel
theorem dX11_burns_31 : decode cX11_burns 31 = .ok (.iconst 0, 1) := by decide +kernel
theorem dX11_burns_32 : decode cX11_burns 32 = .ok (.goto 4, 3) := by decide +kernel
theorem dX11_burns_35 : decode cX11_burns 35 = .ok (.iconst 1, 1) := by decide +kernel
theorem dX11_burns_36 : decode cX11_burns 36 = .ok (.isub, 1) := by decide +kernel
theorem dX11_burns_37 : decode cX11_burns 37 = .ok (.putfield 410, 3) := by decide +kernel
theorem dX11_burns_40 : decode cX11_burns 40 = .ok (.aload_n 0, 1) := by decide +kernel
theorem dX11_burns_41 : decode cX11_burns 41 = .ok (.getfield 413, 3) := by decide +kernel
theorem dX11_burns_44 : decode cX11_burns 44 = .ok (.ifCond .ne 7, 3) := by decide +kernel
theorem dX11_burns_47 : decode cX11_burns 47 = .ok (.iconst 1, 1) := by decide +kernel
theorem dX11_burns_48 : decode cX11_burns 48 = .ok (.goto 4, 3) := by decide +kernel
theorem dX11_burns_51 : decode cX11_burns 51 = .ok (.iconst 0, 1) := by decide +kernel
theorem dX11_burns_52 : decode cX11_burns 52 = .ok (.ireturn, 1) := by decide +kernel
theorem dX11_push_0 : decode cX11_push 0 = .ok (.aload_n 0, 1) := by decide +kernel
theorem dX11_push_1 : decode cX11_push 1 = .ok (.getfield 99, 3) := by decide +kernel
theorem dX11_push_4 : decode cX11_push 4 = .ok (.aload_n 0, 1) := by decide +kernel
theorem dX11_push_5 : decode cX11_push 5 = .ok (.getfield 416, 3) := by decide +kernel
theorem dX11_push_8 : decode cX11_push 8 = .ok (.iload_n 1, 1) := by decide +kernel
theorem dX11_push_9 : decode cX11_push 9 = .ok (.iastore, 1) := by decide +kernel
theorem dX11_push_10 : decode cX11_push 10 = .ok (.aload_n 0, 1) := by decide +kernel
theorem dX11_push_11 : decode cX11_push 11 = .ok (.dup, 1) := by decide +kernel
theorem dX11_push_12 : decode cX11_push 12 = .ok (.getfield 416, 3) := by decide +kernel
theorem dX11_push_15 : decode cX11_push 15 = .ok (.iconst 1, 1) := by decide +kernel
theorem dX11_push_16 : decode cX11_push 16 = .ok (.iadd, 1) := by decide +kernel
theorem dX11_push_17 : decode cX11_push 17 = .ok (.putfield 416, 3) := by decide +kernel
theorem dX11_push_20 : decode cX11_push 20 = .ok (.return_, 1) := by decide +kernel
theorem dX11_pop_0 : decode cX11_pop 0 = .ok (.aload_n 0, 1) := by decide +kernel
theorem dX11_pop_1 : decode cX11_pop 1 = .ok (.dup, 1) := by decide +kernel
theorem dX11_pop_2 : decode cX11_pop 2 = .ok (.getfield 416, 3) := by decide +kernel
theorem dX11_pop_5 : decode cX11_pop 5 = .ok (.iconst 1, 1) := by decide +kernel
theorem dX11_pop_6 : decode cX11_pop 6 = .ok (.isub, 1) := by decide +kernel
theorem dX11_pop_7 : decode cX11_pop 7 = .ok (.putfield 416, 3) := by decide +kernel
theorem dX11_pop_10 : decode cX11_pop 10 = .ok (.aload_n 0, 1) := by decide +kernel
theorem dX11_pop_11 : decode cX11_pop 11 = .ok (.getfield 99, 3) := by decide +kernel
theorem dX11_pop_14 : decode cX11_pop 14 = .ok (.aload_n 0, 1) := by decide +kernel
theorem dX11_pop_15 : decode cX11_pop 15 = .ok (.getfield 416, 3) := by decide +kernel
theorem dX11_pop_18 : decode cX11_pop 18 = .ok (.iaload, 1) := by decide +kernel
theorem dX11_pop_19 : decode cX11_pop 19 = .ok (.ireturn, 1) := by decide +kernel
theorem dX11_pushes_0 : decode cX11_pushes 0 = .ok (.lload_n 1, 1) := by decide +kernel
theorem dX11_pushes_1 : decode cX11_pushes 1 = .ok (.ldc2_w 211, 3) := by decide +kernel
theorem dX11_pushes_4 : decode cX11_pushes 4 = .ok (.lcmp, 1) := by decide +kernel
theorem dX11_pushes_5 : decode cX11_pushes 5 = .ok (.ifCond .gt 11, 3) := by decide +kernel
theorem dX11_pushes_8 : decode cX11_pushes 8 = .ok (.lload_n 1, 1) := by decide +kernel
theorem dX11_pushes_9 : decode cX11_pushes 9 = .ok (.ldc2_w 419, 3) := by decide +kernel
theorem dX11_pushes_12 : decode cX11_pushes 12 = .ok (.lcmp, 1) := by decide +kernel
theorem dX11_pushes_13 : decode cX11_pushes 13 = .ok (.ifCond .ge 11, 3) := by decide +kernel
theorem dX11_pushes_16 : decode cX11_pushes 16 = .ok (.aload_n 0, 1) := by decide +kernel
theorem dX11_pushes_17 : decode cX11_pushes 17 = .ok (.iconst 2, 1) := by decide +kernel
theorem dX11_pushes_18 : decode cX11_pushes 18 = .ok (.putfield 413, 3) := by decide +kernel
theorem dX11_pushes_21 : decode cX11_pushes 21 = .ok (.goto 9, 3) := by decide +kernel
theorem dX11_pushes_24 : decode cX11_pushes 24 = .ok (.aload_n 0, 1) := by decide +kernel
theorem dX11_pushes_25 : decode cX11_pushes 25 = .ok (.lload_n 1, 1) := by decide +kernel
theorem dX11_pushes_26 : decode cX11_pushes 26 = .ok (.l2i, 1) := by decide +kernel
theorem dX11_pushes_27 : decode cX11_pushes 27 = .ok (.invokevirtual 421, 3) := by decide +kernel
theorem dX11_pushes_30 : decode cX11_pushes 30 = .ok (.return_, 1) := by decide +kernel
theorem dX11_isCell_0 : decode cX11_isCell 0 = .ok (.iload_n 0, 1) := by decide +kernel
theorem dX11_isCell_1 : decode cX11_isCell 1 = .ok (.i2l, 1) := by decide +kernel
theorem dX11_isCell_2 : decode cX11_isCell 2 = .ok (.lconst 0, 1) := by decide +kernel
theorem dX11_isCell_3 : decode cX11_isCell 3 = .ok (.ldc2_w 424, 3) := by decide +kernel
theorem dX11_isCell_6 : decode cX11_isCell 6 = .ok (.invokestatic 175, 3) := by decide +kernel
theorem dX11_isCell_9 : decode cX11_isCell 9 = .ok (.ireturn, 1) := by decide +kernel
theorem dX11_one_0 : decode cX11_one 0 = .ok (.aload_n 0, 1) := by decide +kernel
theorem dX11_one_1 : decode cX11_one 1 = .ok (.invokevirtual 426, 3) := by decide +kernel
theorem dX11_one_4 : decode cX11_one 4 = .ok (.istore_n 2, 1) := by decide +kernel
theorem dX11_one_5 : decode cX11_one 5 = .ok (.iload_n 1, 1) := by decide +kernel
theorem dX11_one_6 : decode cX11_one 6 = .ok (.bipush 12, 2) := by decide +kernel
theorem dX11_one_8 : decode cX11_one 8 = .ok (.if_icmp .ne 13, 3) := by decide +kernel
theorem dX11_one_11 : decode cX11_one 11 = .ok (.aload_n 0, 1) := by decide +kernel
theorem dX11_one_12 : decode cX11_one 12 = .ok (.iload_n 2, 1) := by decide +kernel
theorem dX11_one_13 : decode cX11_one 13 = .ok (.i2l, 1) := by decide +kernel
theorem dX11_one_14 : decode cX11_one 14 = .ok (.lneg, 1) := by decide +kernel
theorem dX11_one_15 : decode cX11_one 15 = .ok (.invokevirtual 429, 3) := by decide +kernel
theorem dX11_one_18 : decode cX11_one 18 = .ok (.goto 50, 3) := by decide +kernel
theorem dX11_one_21 : decode cX11_one 21 = .ok (.iload_n 1, 1) := by decide +kernel
theorem dX11_one_22 : decode cX11_one 22 = .ok (.bipush 24, 2) := by decide +kernel
theorem dX11_one_24 : decode cX11_one 24 = .ok (.if_icmp .ne 19, 3) := by decide +kernel
theorem dX11_one_27 : decode cX11_one 27 = .ok (.aload_n 0, 1) := by decide +kernel
theorem dX11_one_28 : decode cX11_one 28 = .ok (.iload_n 2, 1) := by decide +kernel
theorem dX11_one_29 : decode cX11_one 29 = .ok (.ifCond .ne 7, 3) := by decide +kernel
theorem dX11_one_32 : decode cX11_one 32 = .ok (.iconst 1, 1) := by decide +kernel
theorem dX11_one_33 : decode cX11_one 33 = .ok (.goto 4, 3) := by decide +kernel
theorem dX11_one_36 : decode cX11_one 36 = .ok (.iconst 0, 1) := by decide +kernel
theorem dX11_one_37 : decode cX11_one 37 = .ok (.invokevirtual 421, 3) := by decide +kernel
theorem dX11_one_40 : decode cX11_one 40 = .ok (.goto 28, 3) := by decide +kernel
theorem dX11_one_43 : decode cX11_one 43 = .ok (.iload_n 2, 1) := by decide +kernel
theorem dX11_one_44 : decode cX11_one 44 = .ok (.invokestatic 433, 3) := by decide +kernel
theorem dX11_one_47 : decode cX11_one 47 = .ok (.ifCond .eq 16, 3) := by decide +kernel
theorem dX11_one_50 : decode cX11_one 50 = .ok (.aload_n 0, 1) := by decide +kernel
theorem dX11_one_51 : decode cX11_one 51 = .ok (.aload_n 0, 1) := by decide +kernel
theorem dX11_one_52 : decode cX11_one 52 = .ok (.getfield 111, 3) := by decide +kernel
theorem dX11_one_55 : decode cX11_one 55 = .ok (.iload_n 2, 1) := by decide +kernel
theorem dX11_one_56 : decode cX11_one 56 = .ok (.iaload, 1) := by decide +kernel
theorem dX11_one_57 : decode cX11_one 57 = .ok (.invokevirtual 421, 3) := by decide +kernel
theorem dX11_one_60 : decode cX11_one 60 = .ok (.goto 8, 3) := by decide +kernel
theorem dX11_one_63 : decode cX11_one 63 = .ok (.aload_n 0, 1) := by decide +kernel
theorem dX11_one_64 : decode cX11_one 64 = .ok (.iconst 4, 1) := by decide +kernel
theorem dX11_one_65 : decode cX11_one 65 = .ok (.putfield 413, 3) := by decide +kernel
theorem dX11_one_68 : decode cX11_one 68 = .ok (.return_, 1) := by decide +kernel
theorem dX11_two_0 : decode cX11_two 0 = .ok (.aload_n 0, 1) := by decide +kernel
theorem dX11_two_1 : decode cX11_two 1 = .ok (.invokevirtual 426, 3) := by decide +kernel
theorem dX11_two_4 : decode cX11_two 4 = .ok (.i2l, 1) := by decide +kernel
theorem dX11_two_5 : decode cX11_two 5 = .ok (.lstore_n 2, 1) := by decide +kernel
theorem dX11_two_6 : decode cX11_two 6 = .ok (.aload_n 0, 1) := by decide +kernel
theorem dX11_two_7 : decode cX11_two 7 = .ok (.invokevirtual 426, 3) := by decide +kernel
theorem dX11_two_10 : decode cX11_two 10 = .ok (.i2l, 1) := by decide +kernel
theorem dX11_two_11 : decode cX11_two 11 = .ok (.lstore 4, 2) := by decide +kernel
theorem dX11_two_13 : decode cX11_two 13 = .ok (.iload_n 1, 1) := by decide +kernel
theorem dX11_two_14 : decode cX11_two 14 = .ok (.tableswitch 205 11 21 #[58, 69, 80, 205, 205, 129, 148, 167, 186, 91, 110], 58) := by decide +kernel
theorem dX11_two_72 : decode cX11_two 72 = .ok (.aload_n 0, 1) := by decide +kernel
theorem dX11_two_73 : decode cX11_two 73 = .ok (.lload 4, 2) := by decide +kernel
theorem dX11_two_75 : decode cX11_two 75 = .ok (.lload_n 2, 1) := by decide +kernel
theorem dX11_two_76 : decode cX11_two 76 = .ok (.ladd, 1) := by decide +kernel
theorem dX11_two_77 : decode cX11_two 77 = .ok (.invokevirtual 429, 3) := by decide +kernel
theorem dX11_two_80 : decode cX11_two 80 = .ok (.goto 147, 3) := by decide +kernel
theorem dX11_two_83 : decode cX11_two 83 = .ok (.aload_n 0, 1) := by decide +kernel
theorem dX11_two_84 : decode cX11_two 84 = .ok (.lload 4, 2) := by decide +kernel
theorem dX11_two_86 : decode cX11_two 86 = .ok (.lload_n 2, 1) := by decide +kernel
theorem dX11_two_87 : decode cX11_two 87 = .ok (.lsub, 1) := by decide +kernel
theorem dX11_two_88 : decode cX11_two 88 = .ok (.invokevirtual 429, 3) := by decide +kernel
theorem dX11_two_91 : decode cX11_two 91 = .ok (.goto 136, 3) := by decide +kernel
theorem dX11_two_94 : decode cX11_two 94 = .ok (.aload_n 0, 1) := by decide +kernel
theorem dX11_two_95 : decode cX11_two 95 = .ok (.lload 4, 2) := by decide +kernel
theorem dX11_two_97 : decode cX11_two 97 = .ok (.lload_n 2, 1) := by decide +kernel
theorem dX11_two_98 : decode cX11_two 98 = .ok (.lmul, 1) := by decide +kernel
theorem dX11_two_99 : decode cX11_two 99 = .ok (.invokevirtual 429, 3) := by decide +kernel
theorem dX11_two_102 : decode cX11_two 102 = .ok (.goto 125, 3) := by decide +kernel
theorem dX11_two_105 : decode cX11_two 105 = .ok (.aload_n 0, 1) := by decide +kernel
theorem dX11_two_106 : decode cX11_two 106 = .ok (.lload 4, 2) := by decide +kernel
theorem dX11_two_108 : decode cX11_two 108 = .ok (.lload_n 2, 1) := by decide +kernel
theorem dX11_two_109 : decode cX11_two 109 = .ok (.lcmp, 1) := by decide +kernel
theorem dX11_two_110 : decode cX11_two 110 = .ok (.ifCond .ne 7, 3) := by decide +kernel
theorem dX11_two_113 : decode cX11_two 113 = .ok (.iconst 1, 1) := by decide +kernel
theorem dX11_two_114 : decode cX11_two 114 = .ok (.goto 4, 3) := by decide +kernel
theorem dX11_two_117 : decode cX11_two 117 = .ok (.iconst 0, 1) := by decide +kernel
theorem dX11_two_118 : decode cX11_two 118 = .ok (.invokevirtual 421, 3) := by decide +kernel
theorem dX11_two_121 : decode cX11_two 121 = .ok (.goto 106, 3) := by decide +kernel
theorem dX11_two_124 : decode cX11_two 124 = .ok (.aload_n 0, 1) := by decide +kernel
theorem dX11_two_125 : decode cX11_two 125 = .ok (.lload 4, 2) := by decide +kernel
theorem dX11_two_127 : decode cX11_two 127 = .ok (.lload_n 2, 1) := by decide +kernel
theorem dX11_two_128 : decode cX11_two 128 = .ok (.lcmp, 1) := by decide +kernel
theorem dX11_two_129 : decode cX11_two 129 = .ok (.ifCond .eq 7, 3) := by decide +kernel
theorem dX11_two_132 : decode cX11_two 132 = .ok (.iconst 1, 1) := by decide +kernel
theorem dX11_two_133 : decode cX11_two 133 = .ok (.goto 4, 3) := by decide +kernel
theorem dX11_two_136 : decode cX11_two 136 = .ok (.iconst 0, 1) := by decide +kernel
theorem dX11_two_137 : decode cX11_two 137 = .ok (.invokevirtual 421, 3) := by decide +kernel
theorem dX11_two_140 : decode cX11_two 140 = .ok (.goto 87, 3) := by decide +kernel
theorem dX11_two_143 : decode cX11_two 143 = .ok (.aload_n 0, 1) := by decide +kernel
theorem dX11_two_144 : decode cX11_two 144 = .ok (.lload 4, 2) := by decide +kernel
theorem dX11_two_146 : decode cX11_two 146 = .ok (.lload_n 2, 1) := by decide +kernel
theorem dX11_two_147 : decode cX11_two 147 = .ok (.lcmp, 1) := by decide +kernel
theorem dX11_two_148 : decode cX11_two 148 = .ok (.ifCond .ge 7, 3) := by decide +kernel
theorem dX11_two_151 : decode cX11_two 151 = .ok (.iconst 1, 1) := by decide +kernel
theorem dX11_two_152 : decode cX11_two 152 = .ok (.goto 4, 3) := by decide +kernel
theorem dX11_two_155 : decode cX11_two 155 = .ok (.iconst 0, 1) := by decide +kernel
theorem dX11_two_156 : decode cX11_two 156 = .ok (.invokevirtual 421, 3) := by decide +kernel
theorem dX11_two_159 : decode cX11_two 159 = .ok (.goto 68, 3) := by decide +kernel
theorem dX11_two_162 : decode cX11_two 162 = .ok (.aload_n 0, 1) := by decide +kernel
theorem dX11_two_163 : decode cX11_two 163 = .ok (.lload 4, 2) := by decide +kernel
theorem dX11_two_165 : decode cX11_two 165 = .ok (.lload_n 2, 1) := by decide +kernel
theorem dX11_two_166 : decode cX11_two 166 = .ok (.lcmp, 1) := by decide +kernel
theorem dX11_two_167 : decode cX11_two 167 = .ok (.ifCond .gt 7, 3) := by decide +kernel
theorem dX11_two_170 : decode cX11_two 170 = .ok (.iconst 1, 1) := by decide +kernel
theorem dX11_two_171 : decode cX11_two 171 = .ok (.goto 4, 3) := by decide +kernel
theorem dX11_two_174 : decode cX11_two 174 = .ok (.iconst 0, 1) := by decide +kernel
theorem dX11_two_175 : decode cX11_two 175 = .ok (.invokevirtual 421, 3) := by decide +kernel
theorem dX11_two_178 : decode cX11_two 178 = .ok (.goto 49, 3) := by decide +kernel
theorem dX11_two_181 : decode cX11_two 181 = .ok (.aload_n 0, 1) := by decide +kernel
theorem dX11_two_182 : decode cX11_two 182 = .ok (.lload 4, 2) := by decide +kernel
theorem dX11_two_184 : decode cX11_two 184 = .ok (.lload_n 2, 1) := by decide +kernel
theorem dX11_two_185 : decode cX11_two 185 = .ok (.lcmp, 1) := by decide +kernel
theorem dX11_two_186 : decode cX11_two 186 = .ok (.ifCond .le 7, 3) := by decide +kernel
theorem dX11_two_189 : decode cX11_two 189 = .ok (.iconst 1, 1) := by decide +kernel
theorem dX11_two_190 : decode cX11_two 190 = .ok (.goto 4, 3) := by decide +kernel
theorem dX11_two_193 : decode cX11_two 193 = .ok (.iconst 0, 1) := by decide +kernel
theorem dX11_two_194 : decode cX11_two 194 = .ok (.invokevirtual 421, 3) := by decide +kernel
theorem dX11_two_197 : decode cX11_two 197 = .ok (.goto 30, 3) := by decide +kernel
theorem dX11_two_200 : decode cX11_two 200 = .ok (.aload_n 0, 1) := by decide +kernel
theorem dX11_two_201 : decode cX11_two 201 = .ok (.lload 4, 2) := by decide +kernel
theorem dX11_two_203 : decode cX11_two 203 = .ok (.lload_n 2, 1) := by decide +kernel
theorem dX11_two_204 : decode cX11_two 204 = .ok (.lcmp, 1) := by decide +kernel
theorem dX11_two_205 : decode cX11_two 205 = .ok (.ifCond .lt 7, 3) := by decide +kernel
theorem dX11_two_208 : decode cX11_two 208 = .ok (.iconst 1, 1) := by decide +kernel
theorem dX11_two_209 : decode cX11_two 209 = .ok (.goto 4, 3) := by decide +kernel
theorem dX11_two_212 : decode cX11_two 212 = .ok (.iconst 0, 1) := by decide +kernel
theorem dX11_two_213 : decode cX11_two 213 = .ok (.invokevirtual 421, 3) := by decide +kernel
theorem dX11_two_216 : decode cX11_two 216 = .ok (.goto 11, 3) := by decide +kernel
theorem dX11_two_219 : decode cX11_two 219 = .ok (.aload_n 0, 1) := by decide +kernel
theorem dX11_two_220 : decode cX11_two 220 = .ok (.iload_n 1, 1) := by decide +kernel
theorem dX11_two_221 : decode cX11_two 221 = .ok (.lload 4, 2) := by decide +kernel
theorem dX11_two_223 : decode cX11_two 223 = .ok (.lload_n 2, 1) := by decide +kernel
theorem dX11_two_224 : decode cX11_two 224 = .ok (.invokevirtual 436, 3) := by decide +kernel
theorem dX11_two_227 : decode cX11_two 227 = .ok (.return_, 1) := by decide +kernel
theorem dX11_divides_0 : decode cX11_divides 0 = .ok (.lload 4, 2) := by decide +kernel
theorem dX11_divides_2 : decode cX11_divides 2 = .ok (.lconst 0, 1) := by decide +kernel
theorem dX11_divides_3 : decode cX11_divides 3 = .ok (.lcmp, 1) := by decide +kernel
theorem dX11_divides_4 : decode cX11_divides 4 = .ok (.ifCond .ne 11, 3) := by decide +kernel
theorem dX11_divides_7 : decode cX11_divides 7 = .ok (.aload_n 0, 1) := by decide +kernel
theorem dX11_divides_8 : decode cX11_divides 8 = .ok (.iconst 3, 1) := by decide +kernel
theorem dX11_divides_9 : decode cX11_divides 9 = .ok (.putfield 413, 3) := by decide +kernel
theorem dX11_divides_12 : decode cX11_divides 12 = .ok (.goto 24, 3) := by decide +kernel
theorem dX11_divides_15 : decode cX11_divides 15 = .ok (.aload_n 0, 1) := by decide +kernel
theorem dX11_divides_16 : decode cX11_divides 16 = .ok (.iload_n 1, 1) := by decide +kernel
theorem dX11_divides_17 : decode cX11_divides 17 = .ok (.bipush 14, 2) := by decide +kernel
theorem dX11_divides_19 : decode cX11_divides 19 = .ok (.if_icmp .ne 10, 3) := by decide +kernel
theorem dX11_divides_22 : decode cX11_divides 22 = .ok (.lload_n 2, 1) := by decide +kernel
theorem dX11_divides_23 : decode cX11_divides 23 = .ok (.lload 4, 2) := by decide +kernel
theorem dX11_divides_25 : decode cX11_divides 25 = .ok (.ldiv, 1) := by decide +kernel
theorem dX11_divides_26 : decode cX11_divides 26 = .ok (.goto 7, 3) := by decide +kernel
theorem dX11_divides_29 : decode cX11_divides 29 = .ok (.lload_n 2, 1) := by decide +kernel
theorem dX11_divides_30 : decode cX11_divides 30 = .ok (.lload 4, 2) := by decide +kernel
theorem dX11_divides_32 : decode cX11_divides 32 = .ok (.lrem, 1) := by decide +kernel
theorem dX11_divides_33 : decode cX11_divides 33 = .ok (.invokevirtual 429, 3) := by decide +kernel
theorem dX11_divides_36 : decode cX11_divides 36 = .ok (.return_, 1) := by decide +kernel
theorem dX11_stores_0 : decode cX11_stores 0 = .ok (.aload_n 0, 1) := by decide +kernel
theorem dX11_stores_1 : decode cX11_stores 1 = .ok (.invokevirtual 426, 3) := by decide +kernel
theorem dX11_stores_4 : decode cX11_stores 4 = .ok (.istore_n 1, 1) := by decide +kernel
theorem dX11_stores_5 : decode cX11_stores 5 = .ok (.aload_n 0, 1) := by decide +kernel
theorem dX11_stores_6 : decode cX11_stores 6 = .ok (.invokevirtual 426, 3) := by decide +kernel
theorem dX11_stores_9 : decode cX11_stores 9 = .ok (.istore_n 2, 1) := by decide +kernel
theorem dX11_stores_10 : decode cX11_stores 10 = .ok (.iload_n 2, 1) := by decide +kernel
theorem dX11_stores_11 : decode cX11_stores 11 = .ok (.invokestatic 433, 3) := by decide +kernel
theorem dX11_stores_14 : decode cX11_stores 14 = .ok (.ifCond .eq 13, 3) := by decide +kernel
theorem dX11_stores_17 : decode cX11_stores 17 = .ok (.aload_n 0, 1) := by decide +kernel
theorem dX11_stores_18 : decode cX11_stores 18 = .ok (.getfield 111, 3) := by decide +kernel
theorem dX11_stores_21 : decode cX11_stores 21 = .ok (.iload_n 2, 1) := by decide +kernel
theorem dX11_stores_22 : decode cX11_stores 22 = .ok (.iload_n 1, 1) := by decide +kernel
theorem dX11_stores_23 : decode cX11_stores 23 = .ok (.iastore, 1) := by decide +kernel
theorem dX11_stores_24 : decode cX11_stores 24 = .ok (.goto 8, 3) := by decide +kernel
theorem dX11_stores_27 : decode cX11_stores 27 = .ok (.aload_n 0, 1) := by decide +kernel
theorem dX11_stores_28 : decode cX11_stores 28 = .ok (.iconst 4, 1) := by decide +kernel
theorem dX11_stores_29 : decode cX11_stores 29 = .ok (.putfield 413, 3) := by decide +kernel
theorem dX11_stores_32 : decode cX11_stores 32 = .ok (.return_, 1) := by decide +kernel
theorem dX11_writes_0 : decode cX11_writes 0 = .ok (.aload_n 0, 1) := by decide +kernel
theorem dX11_writes_1 : decode cX11_writes 1 = .ok (.invokevirtual 426, 3) := by decide +kernel
theorem dX11_writes_4 : decode cX11_writes 4 = .ok (.istore_n 1, 1) := by decide +kernel
theorem dX11_writes_5 : decode cX11_writes 5 = .ok (.aload_n 0, 1) := by decide +kernel
theorem dX11_writes_6 : decode cX11_writes 6 = .ok (.getfield 440, 3) := by decide +kernel
theorem dX11_writes_9 : decode cX11_writes 9 = .ok (.bipush 8, 2) := by decide +kernel
theorem dX11_writes_11 : decode cX11_writes 11 = .ok (.if_icmp .ne 12, 3) := by decide +kernel
theorem dX11_writes_14 : decode cX11_writes 14 = .ok (.aload_n 0, 1) := by decide +kernel
theorem dX11_writes_15 : decode cX11_writes 15 = .ok (.bipush 6, 2) := by decide +kernel
theorem dX11_writes_17 : decode cX11_writes 17 = .ok (.putfield 413, 3) := by decide +kernel
theorem dX11_writes_20 : decode cX11_writes 20 = .ok (.goto 23, 3) := by decide +kernel
theorem dX11_writes_23 : decode cX11_writes 23 = .ok (.aload_n 0, 1) := by decide +kernel
theorem dX11_writes_24 : decode cX11_writes 24 = .ok (.getfield 108, 3) := by decide +kernel
theorem dX11_writes_27 : decode cX11_writes 27 = .ok (.aload_n 0, 1) := by decide +kernel
theorem dX11_writes_28 : decode cX11_writes 28 = .ok (.getfield 440, 3) := by decide +kernel
theorem dX11_writes_31 : decode cX11_writes 31 = .ok (.iload_n 1, 1) := by decide +kernel
theorem dX11_writes_32 : decode cX11_writes 32 = .ok (.iastore, 1) := by decide +kernel
theorem dX11_writes_33 : decode cX11_writes 33 = .ok (.aload_n 0, 1) := by decide +kernel
theorem dX11_writes_34 : decode cX11_writes 34 = .ok (.dup, 1) := by decide +kernel
theorem dX11_writes_35 : decode cX11_writes 35 = .ok (.getfield 440, 3) := by decide +kernel
theorem dX11_writes_38 : decode cX11_writes 38 = .ok (.iconst 1, 1) := by decide +kernel
theorem dX11_writes_39 : decode cX11_writes 39 = .ok (.iadd, 1) := by decide +kernel
theorem dX11_writes_40 : decode cX11_writes 40 = .ok (.putfield 440, 3) := by decide +kernel
theorem dX11_writes_43 : decode cX11_writes 43 = .ok (.return_, 1) := by decide +kernel
theorem dX11_calls_0 : decode cX11_calls 0 = .ok (.aload_n 0, 1) := by decide +kernel
theorem dX11_calls_1 : decode cX11_calls 1 = .ok (.getfield 443, 3) := by decide +kernel
theorem dX11_calls_4 : decode cX11_calls 4 = .ok (.bipush 10, 2) := by decide +kernel
theorem dX11_calls_6 : decode cX11_calls 6 = .ok (.if_icmp .ne 11, 3) := by decide +kernel
theorem dX11_calls_9 : decode cX11_calls 9 = .ok (.aload_n 0, 1) := by decide +kernel
theorem dX11_calls_10 : decode cX11_calls 10 = .ok (.bipush 7, 2) := by decide +kernel
theorem dX11_calls_12 : decode cX11_calls 12 = .ok (.putfield 413, 3) := by decide +kernel
theorem dX11_calls_15 : decode cX11_calls 15 = .ok (.iload_n 2, 1) := by decide +kernel
theorem dX11_calls_16 : decode cX11_calls 16 = .ok (.ireturn, 1) := by decide +kernel
theorem dX11_calls_17 : decode cX11_calls 17 = .ok (.aload_n 0, 1) := by decide +kernel
theorem dX11_calls_18 : decode cX11_calls 18 = .ok (.dup, 1) := by decide +kernel
theorem dX11_calls_19 : decode cX11_calls 19 = .ok (.getfield 443, 3) := by decide +kernel
theorem dX11_calls_22 : decode cX11_calls 22 = .ok (.iconst 1, 1) := by decide +kernel
theorem dX11_calls_23 : decode cX11_calls 23 = .ok (.iadd, 1) := by decide +kernel
theorem dX11_calls_24 : decode cX11_calls 24 = .ok (.putfield 443, 3) := by decide +kernel
theorem dX11_calls_27 : decode cX11_calls 27 = .ok (.aload_n 0, 1) := by decide +kernel
theorem dX11_calls_28 : decode cX11_calls 28 = .ok (.getfield 105, 3) := by decide +kernel
theorem dX11_calls_31 : decode cX11_calls 31 = .ok (.aload_n 0, 1) := by decide +kernel
theorem dX11_calls_32 : decode cX11_calls 32 = .ok (.getfield 443, 3) := by decide +kernel
theorem dX11_calls_35 : decode cX11_calls 35 = .ok (.iload_n 2, 1) := by decide +kernel
theorem dX11_calls_36 : decode cX11_calls 36 = .ok (.iastore, 1) := by decide +kernel
theorem dX11_calls_37 : decode cX11_calls 37 = .ok (.iconst 0, 1) := by decide +kernel
theorem dX11_calls_38 : decode cX11_calls 38 = .ok (.istore_n 3, 1) := by decide +kernel
theorem dX11_calls_39 : decode cX11_calls 39 = .ok (.iload_n 3, 1) := by decide +kernel
theorem dX11_calls_40 : decode cX11_calls 40 = .ok (.bipush 8, 2) := by decide +kernel
theorem dX11_calls_42 : decode cX11_calls 42 = .ok (.if_icmp .ge 24, 3) := by decide +kernel
theorem dX11_calls_45 : decode cX11_calls 45 = .ok (.aload_n 0, 1) := by decide +kernel
theorem dX11_calls_46 : decode cX11_calls 46 = .ok (.getfield 102, 3) := by decide +kernel
theorem dX11_calls_49 : decode cX11_calls 49 = .ok (.bipush 8, 2) := by decide +kernel
theorem dX11_calls_51 : decode cX11_calls 51 = .ok (.aload_n 0, 1) := by decide +kernel
theorem dX11_calls_52 : decode cX11_calls 52 = .ok (.getfield 443, 3) := by decide +kernel
theorem dX11_calls_55 : decode cX11_calls 55 = .ok (.imul, 1) := by decide +kernel
theorem dX11_calls_56 : decode cX11_calls 56 = .ok (.iload_n 3, 1) := by decide +kernel
theorem dX11_calls_57 : decode cX11_calls 57 = .ok (.iadd, 1) := by decide +kernel
theorem dX11_calls_58 : decode cX11_calls 58 = .ok (.iconst 0, 1) := by decide +kernel
theorem dX11_calls_59 : decode cX11_calls 59 = .ok (.iastore, 1) := by decide +kernel
theorem dX11_calls_60 : decode cX11_calls 60 = .ok (.iinc 3 1, 3) := by decide +kernel
theorem dX11_calls_63 : decode cX11_calls 63 = .ok (.goto (-24), 3) := by decide +kernel
theorem dX11_calls_66 : decode cX11_calls 66 = .ok (.aload_n 0, 1) := by decide +kernel
theorem dX11_calls_67 : decode cX11_calls 67 = .ok (.getfield 50, 3) := by decide +kernel
theorem dX11_calls_70 : decode cX11_calls 70 = .ok (.iload_n 1, 1) := by decide +kernel
theorem dX11_calls_71 : decode cX11_calls 71 = .ok (.iaload, 1) := by decide +kernel
theorem dX11_calls_72 : decode cX11_calls 72 = .ok (.iconst 1, 1) := by decide +kernel
theorem dX11_calls_73 : decode cX11_calls 73 = .ok (.isub, 1) := by decide +kernel
theorem dX11_calls_74 : decode cX11_calls 74 = .ok (.istore_n 3, 1) := by decide +kernel
theorem dX11_calls_75 : decode cX11_calls 75 = .ok (.iload_n 3, 1) := by decide +kernel
theorem dX11_calls_76 : decode cX11_calls 76 = .ok (.ifCond .lt 27, 3) := by decide +kernel
theorem dX11_calls_79 : decode cX11_calls 79 = .ok (.aload_n 0, 1) := by decide +kernel
theorem dX11_calls_80 : decode cX11_calls 80 = .ok (.getfield 102, 3) := by decide +kernel
theorem dX11_calls_83 : decode cX11_calls 83 = .ok (.bipush 8, 2) := by decide +kernel
theorem dX11_calls_85 : decode cX11_calls 85 = .ok (.aload_n 0, 1) := by decide +kernel
theorem dX11_calls_86 : decode cX11_calls 86 = .ok (.getfield 443, 3) := by decide +kernel
theorem dX11_calls_89 : decode cX11_calls 89 = .ok (.imul, 1) := by decide +kernel
theorem dX11_calls_90 : decode cX11_calls 90 = .ok (.iload_n 3, 1) := by decide +kernel
theorem dX11_calls_91 : decode cX11_calls 91 = .ok (.iadd, 1) := by decide +kernel
theorem dX11_calls_92 : decode cX11_calls 92 = .ok (.aload_n 0, 1) := by decide +kernel
theorem dX11_calls_93 : decode cX11_calls 93 = .ok (.invokevirtual 426, 3) := by decide +kernel
theorem dX11_calls_96 : decode cX11_calls 96 = .ok (.iastore, 1) := by decide +kernel
theorem dX11_calls_97 : decode cX11_calls 97 = .ok (.iinc 3 (-1), 3) := by decide +kernel
theorem dX11_calls_100 : decode cX11_calls 100 = .ok (.goto (-25), 3) := by decide +kernel
theorem dX11_calls_103 : decode cX11_calls 103 = .ok (.aload_n 0, 1) := by decide +kernel
theorem dX11_calls_104 : decode cX11_calls 104 = .ok (.getfield 53, 3) := by decide +kernel
theorem dX11_calls_107 : decode cX11_calls 107 = .ok (.iload_n 1, 1) := by decide +kernel
theorem dX11_calls_108 : decode cX11_calls 108 = .ok (.iaload, 1) := by decide +kernel
theorem dX11_calls_109 : decode cX11_calls 109 = .ok (.ireturn, 1) := by decide +kernel
theorem dX11_does_0 : decode cX11_does 0 = .ok (.aload_n 0, 1) := by decide +kernel
theorem dX11_does_1 : decode cX11_does 1 = .ok (.getfield 23, 3) := by decide +kernel
theorem dX11_does_4 : decode cX11_does 4 = .ok (.iload_n 1, 1) := by decide +kernel
theorem dX11_does_5 : decode cX11_does 5 = .ok (.iaload, 1) := by decide +kernel
theorem dX11_does_6 : decode cX11_does 6 = .ok (.istore_n 2, 1) := by decide +kernel
theorem dX11_does_7 : decode cX11_does 7 = .ok (.aload_n 0, 1) := by decide +kernel
theorem dX11_does_8 : decode cX11_does 8 = .ok (.getfield 19, 3) := by decide +kernel
theorem dX11_does_11 : decode cX11_does 11 = .ok (.iload_n 1, 1) := by decide +kernel
theorem dX11_does_12 : decode cX11_does 12 = .ok (.iaload, 1) := by decide +kernel
theorem dX11_does_13 : decode cX11_does 13 = .ok (.tableswitch 203 1 15 #[75, 84, 106, 203, 203, 203, 203, 128, 203, 203, 148, 156, 164, 179, 181], 75) := by decide +kernel
theorem dX11_does_88 : decode cX11_does 88 = .ok (.aload_n 0, 1) := by decide +kernel
theorem dX11_does_89 : decode cX11_does 89 = .ok (.iload_n 2, 1) := by decide +kernel
theorem dX11_does_90 : decode cX11_does 90 = .ok (.invokevirtual 421, 3) := by decide +kernel
theorem dX11_does_93 : decode cX11_does 93 = .ok (.iload_n 1, 1) := by decide +kernel
theorem dX11_does_94 : decode cX11_does 94 = .ok (.iconst 1, 1) := by decide +kernel
theorem dX11_does_95 : decode cX11_does 95 = .ok (.iadd, 1) := by decide +kernel
theorem dX11_does_96 : decode cX11_does 96 = .ok (.ireturn, 1) := by decide +kernel
theorem dX11_does_97 : decode cX11_does 97 = .ok (.aload_n 0, 1) := by decide +kernel
theorem dX11_does_98 : decode cX11_does 98 = .ok (.aload_n 0, 1) := by decide +kernel
theorem dX11_does_99 : decode cX11_does 99 = .ok (.getfield 102, 3) := by decide +kernel
theorem dX11_does_102 : decode cX11_does 102 = .ok (.bipush 8, 2) := by decide +kernel
theorem dX11_does_104 : decode cX11_does 104 = .ok (.aload_n 0, 1) := by decide +kernel
theorem dX11_does_105 : decode cX11_does 105 = .ok (.getfield 443, 3) := by decide +kernel
theorem dX11_does_108 : decode cX11_does 108 = .ok (.imul, 1) := by decide +kernel
theorem dX11_does_109 : decode cX11_does 109 = .ok (.iload_n 2, 1) := by decide +kernel
theorem dX11_does_110 : decode cX11_does 110 = .ok (.iadd, 1) := by decide +kernel
theorem dX11_does_111 : decode cX11_does 111 = .ok (.iaload, 1) := by decide +kernel
theorem dX11_does_112 : decode cX11_does 112 = .ok (.invokevirtual 421, 3) := by decide +kernel
theorem dX11_does_115 : decode cX11_does 115 = .ok (.iload_n 1, 1) := by decide +kernel
theorem dX11_does_116 : decode cX11_does 116 = .ok (.iconst 1, 1) := by decide +kernel
theorem dX11_does_117 : decode cX11_does 117 = .ok (.iadd, 1) := by decide +kernel
theorem dX11_does_118 : decode cX11_does 118 = .ok (.ireturn, 1) := by decide +kernel
theorem dX11_does_119 : decode cX11_does 119 = .ok (.aload_n 0, 1) := by decide +kernel
theorem dX11_does_120 : decode cX11_does 120 = .ok (.getfield 102, 3) := by decide +kernel
theorem dX11_does_123 : decode cX11_does 123 = .ok (.bipush 8, 2) := by decide +kernel
theorem dX11_does_125 : decode cX11_does 125 = .ok (.aload_n 0, 1) := by decide +kernel
theorem dX11_does_126 : decode cX11_does 126 = .ok (.getfield 443, 3) := by decide +kernel
theorem dX11_does_129 : decode cX11_does 129 = .ok (.imul, 1) := by decide +kernel
theorem dX11_does_130 : decode cX11_does 130 = .ok (.iload_n 2, 1) := by decide +kernel
theorem dX11_does_131 : decode cX11_does 131 = .ok (.iadd, 1) := by decide +kernel
theorem dX11_does_132 : decode cX11_does 132 = .ok (.aload_n 0, 1) := by decide +kernel
theorem dX11_does_133 : decode cX11_does 133 = .ok (.invokevirtual 426, 3) := by decide +kernel
theorem dX11_does_136 : decode cX11_does 136 = .ok (.iastore, 1) := by decide +kernel
theorem dX11_does_137 : decode cX11_does 137 = .ok (.iload_n 1, 1) := by decide +kernel
theorem dX11_does_138 : decode cX11_does 138 = .ok (.iconst 1, 1) := by decide +kernel
theorem dX11_does_139 : decode cX11_does 139 = .ok (.iadd, 1) := by decide +kernel
theorem dX11_does_140 : decode cX11_does 140 = .ok (.ireturn, 1) := by decide +kernel
theorem dX11_does_141 : decode cX11_does 141 = .ok (.aload_n 0, 1) := by decide +kernel
theorem dX11_does_142 : decode cX11_does 142 = .ok (.aload_n 0, 1) := by decide +kernel
theorem dX11_does_143 : decode cX11_does 143 = .ok (.invokevirtual 426, 3) := by decide +kernel
theorem dX11_does_146 : decode cX11_does 146 = .ok (.ifCond .ne 7, 3) := by decide +kernel
theorem dX11_does_149 : decode cX11_does 149 = .ok (.iconst 0, 1) := by decide +kernel
theorem dX11_does_150 : decode cX11_does 150 = .ok (.goto 4, 3) := by decide +kernel
theorem dX11_does_153 : decode cX11_does 153 = .ok (.iconst 1, 1) := by decide +kernel
theorem dX11_does_154 : decode cX11_does 154 = .ok (.invokevirtual 421, 3) := by decide +kernel
theorem dX11_does_157 : decode cX11_does 157 = .ok (.iload_n 1, 1) := by decide +kernel
theorem dX11_does_158 : decode cX11_does 158 = .ok (.iconst 1, 1) := by decide +kernel
theorem dX11_does_159 : decode cX11_does 159 = .ok (.iadd, 1) := by decide +kernel
theorem dX11_does_160 : decode cX11_does 160 = .ok (.ireturn, 1) := by decide +kernel
theorem dX11_does_161 : decode cX11_does 161 = .ok (.aload_n 0, 1) := by decide +kernel
theorem dX11_does_162 : decode cX11_does 162 = .ok (.invokevirtual 446, 3) := by decide +kernel
theorem dX11_does_165 : decode cX11_does 165 = .ok (.iload_n 1, 1) := by decide +kernel
theorem dX11_does_166 : decode cX11_does 166 = .ok (.iconst 1, 1) := by decide +kernel
theorem dX11_does_167 : decode cX11_does 167 = .ok (.iadd, 1) := by decide +kernel
theorem dX11_does_168 : decode cX11_does 168 = .ok (.ireturn, 1) := by decide +kernel
theorem dX11_does_169 : decode cX11_does 169 = .ok (.aload_n 0, 1) := by decide +kernel
theorem dX11_does_170 : decode cX11_does 170 = .ok (.invokevirtual 449, 3) := by decide +kernel
theorem dX11_does_173 : decode cX11_does 173 = .ok (.iload_n 1, 1) := by decide +kernel
theorem dX11_does_174 : decode cX11_does 174 = .ok (.iconst 1, 1) := by decide +kernel
theorem dX11_does_175 : decode cX11_does 175 = .ok (.iadd, 1) := by decide +kernel
theorem dX11_does_176 : decode cX11_does 176 = .ok (.ireturn, 1) := by decide +kernel
theorem dX11_does_177 : decode cX11_does 177 = .ok (.aload_n 0, 1) := by decide +kernel
theorem dX11_does_178 : decode cX11_does 178 = .ok (.invokevirtual 426, 3) := by decide +kernel
theorem dX11_does_181 : decode cX11_does 181 = .ok (.ifCond .ne 7, 3) := by decide +kernel
theorem dX11_does_184 : decode cX11_does 184 = .ok (.iload_n 2, 1) := by decide +kernel
theorem dX11_does_185 : decode cX11_does 185 = .ok (.goto 6, 3) := by decide +kernel
theorem dX11_does_188 : decode cX11_does 188 = .ok (.iload_n 1, 1) := by decide +kernel
theorem dX11_does_189 : decode cX11_does 189 = .ok (.iconst 1, 1) := by decide +kernel
theorem dX11_does_190 : decode cX11_does 190 = .ok (.iadd, 1) := by decide +kernel
theorem dX11_does_191 : decode cX11_does 191 = .ok (.ireturn, 1) := by decide +kernel
theorem dX11_does_192 : decode cX11_does 192 = .ok (.iload_n 2, 1) := by decide +kernel
theorem dX11_does_193 : decode cX11_does 193 = .ok (.ireturn, 1) := by decide +kernel
theorem dX11_does_194 : decode cX11_does 194 = .ok (.aload_n 0, 1) := by decide +kernel
theorem dX11_does_195 : decode cX11_does 195 = .ok (.dup, 1) := by decide +kernel
theorem dX11_does_196 : decode cX11_does 196 = .ok (.getfield 443, 3) := by decide +kernel
theorem dX11_does_199 : decode cX11_does 199 = .ok (.iconst 1, 1) := by decide +kernel
theorem dX11_does_200 : decode cX11_does 200 = .ok (.isub, 1) := by decide +kernel
theorem dX11_does_201 : decode cX11_does 201 = .ok (.putfield 443, 3) := by decide +kernel
theorem dX11_does_204 : decode cX11_does 204 = .ok (.aload_n 0, 1) := by decide +kernel
theorem dX11_does_205 : decode cX11_does 205 = .ok (.getfield 105, 3) := by decide +kernel
theorem dX11_does_208 : decode cX11_does 208 = .ok (.aload_n 0, 1) := by decide +kernel
theorem dX11_does_209 : decode cX11_does 209 = .ok (.getfield 443, 3) := by decide +kernel
theorem dX11_does_212 : decode cX11_does 212 = .ok (.iconst 1, 1) := by decide +kernel
theorem dX11_does_213 : decode cX11_does 213 = .ok (.iadd, 1) := by decide +kernel
theorem dX11_does_214 : decode cX11_does 214 = .ok (.iaload, 1) := by decide +kernel
theorem dX11_does_215 : decode cX11_does 215 = .ok (.ireturn, 1) := by decide +kernel
theorem dX11_does_216 : decode cX11_does 216 = .ok (.aload_n 0, 1) := by decide +kernel
theorem dX11_does_217 : decode cX11_does 217 = .ok (.dup, 1) := by decide +kernel
theorem dX11_does_218 : decode cX11_does 218 = .ok (.getfield 416, 3) := by decide +kernel
theorem dX11_does_221 : decode cX11_does 221 = .ok (.iconst 1, 1) := by decide +kernel
theorem dX11_does_222 : decode cX11_does 222 = .ok (.isub, 1) := by decide +kernel
theorem dX11_does_223 : decode cX11_does 223 = .ok (.putfield 416, 3) := by decide +kernel
theorem dX11_does_226 : decode cX11_does 226 = .ok (.iload_n 1, 1) := by decide +kernel
theorem dX11_does_227 : decode cX11_does 227 = .ok (.iconst 1, 1) := by decide +kernel
theorem dX11_does_228 : decode cX11_does 228 = .ok (.iadd, 1) := by decide +kernel
theorem dX11_does_229 : decode cX11_does 229 = .ok (.ireturn, 1) := by decide +kernel
theorem dX11_doesBurnt_0 : decode cX11_doesBurnt 0 = .ok (.aload_n 0, 1) := by decide +kernel
theorem dX11_doesBurnt_1 : decode cX11_doesBurnt 1 = .ok (.getfield 23, 3) := by decide +kernel
theorem dX11_doesBurnt_4 : decode cX11_doesBurnt 4 = .ok (.iload_n 1, 1) := by decide +kernel
theorem dX11_doesBurnt_5 : decode cX11_doesBurnt 5 = .ok (.iaload, 1) := by decide +kernel
theorem dX11_doesBurnt_6 : decode cX11_doesBurnt 6 = .ok (.istore 4, 2) := by decide +kernel
theorem dX11_doesBurnt_8 : decode cX11_doesBurnt 8 = .ok (.aload_n 0, 1) := by decide +kernel
theorem dX11_doesBurnt_9 : decode cX11_doesBurnt 9 = .ok (.getfield 19, 3) := by decide +kernel
theorem dX11_doesBurnt_12 : decode cX11_doesBurnt 12 = .ok (.iload_n 1, 1) := by decide +kernel
theorem dX11_doesBurnt_13 : decode cX11_doesBurnt 13 = .ok (.iaload, 1) := by decide +kernel
theorem dX11_doesBurnt_14 : decode cX11_doesBurnt 14 = .ok (.tableswitch 197 4 10 #[42, 52, 62, 62, 197, 137, 187], 42) := by decide +kernel
theorem dX11_doesBurnt_56 : decode cX11_doesBurnt 56 = .ok (.aload_n 0, 1) := by decide +kernel
theorem dX11_doesBurnt_57 : decode cX11_doesBurnt 57 = .ok (.iload 4, 2) := by decide +kernel
theorem dX11_doesBurnt_59 : decode cX11_doesBurnt 59 = .ok (.invokevirtual 452, 3) := by decide +kernel
theorem dX11_doesBurnt_62 : decode cX11_doesBurnt 62 = .ok (.iload_n 1, 1) := by decide +kernel
theorem dX11_doesBurnt_63 : decode cX11_doesBurnt 63 = .ok (.iconst 1, 1) := by decide +kernel
theorem dX11_doesBurnt_64 : decode cX11_doesBurnt 64 = .ok (.iadd, 1) := by decide +kernel
theorem dX11_doesBurnt_65 : decode cX11_doesBurnt 65 = .ok (.ireturn, 1) := by decide +kernel
theorem dX11_doesBurnt_66 : decode cX11_doesBurnt 66 = .ok (.aload_n 0, 1) := by decide +kernel
theorem dX11_doesBurnt_67 : decode cX11_doesBurnt 67 = .ok (.iload 4, 2) := by decide +kernel
theorem dX11_doesBurnt_69 : decode cX11_doesBurnt 69 = .ok (.invokevirtual 455, 3) := by decide +kernel
theorem dX11_doesBurnt_72 : decode cX11_doesBurnt 72 = .ok (.iload_n 1, 1) := by decide +kernel
theorem dX11_doesBurnt_73 : decode cX11_doesBurnt 73 = .ok (.iconst 1, 1) := by decide +kernel
theorem dX11_doesBurnt_74 : decode cX11_doesBurnt 74 = .ok (.iadd, 1) := by decide +kernel
theorem dX11_doesBurnt_75 : decode cX11_doesBurnt 75 = .ok (.ireturn, 1) := by decide +kernel
theorem dX11_doesBurnt_76 : decode cX11_doesBurnt 76 = .ok (.aload_n 0, 1) := by decide +kernel
theorem dX11_doesBurnt_77 : decode cX11_doesBurnt 77 = .ok (.invokevirtual 426, 3) := by decide +kernel
theorem dX11_doesBurnt_80 : decode cX11_doesBurnt 80 = .ok (.ifCond .eq 7, 3) := by decide +kernel
theorem dX11_doesBurnt_83 : decode cX11_doesBurnt 83 = .ok (.iconst 1, 1) := by decide +kernel
theorem dX11_doesBurnt_84 : decode cX11_doesBurnt 84 = .ok (.goto 4, 3) := by decide +kernel
theorem dX11_doesBurnt_87 : decode cX11_doesBurnt 87 = .ok (.iconst 0, 1) := by decide +kernel
theorem dX11_doesBurnt_88 : decode cX11_doesBurnt 88 = .ok (.istore 5, 2) := by decide +kernel
theorem dX11_doesBurnt_90 : decode cX11_doesBurnt 90 = .ok (.iload 5, 2) := by decide +kernel
theorem dX11_doesBurnt_92 : decode cX11_doesBurnt 92 = .ok (.aload_n 0, 1) := by decide +kernel
theorem dX11_doesBurnt_93 : decode cX11_doesBurnt 93 = .ok (.getfield 19, 3) := by decide +kernel
theorem dX11_doesBurnt_96 : decode cX11_doesBurnt 96 = .ok (.iload_n 1, 1) := by decide +kernel
theorem dX11_doesBurnt_97 : decode cX11_doesBurnt 97 = .ok (.iaload, 1) := by decide +kernel
theorem dX11_doesBurnt_98 : decode cX11_doesBurnt 98 = .ok (.bipush 7, 2) := by decide +kernel
theorem dX11_doesBurnt_100 : decode cX11_doesBurnt 100 = .ok (.if_icmp .ne 7, 3) := by decide +kernel
theorem dX11_doesBurnt_103 : decode cX11_doesBurnt 103 = .ok (.iconst 1, 1) := by decide +kernel
theorem dX11_doesBurnt_104 : decode cX11_doesBurnt 104 = .ok (.goto 4, 3) := by decide +kernel
theorem dX11_doesBurnt_107 : decode cX11_doesBurnt 107 = .ok (.iconst 0, 1) := by decide +kernel
theorem dX11_doesBurnt_108 : decode cX11_doesBurnt 108 = .ok (.if_icmp .ne 7, 3) := by decide +kernel
theorem dX11_doesBurnt_111 : decode cX11_doesBurnt 111 = .ok (.iconst 1, 1) := by decide +kernel
theorem dX11_doesBurnt_112 : decode cX11_doesBurnt 112 = .ok (.goto 4, 3) := by decide +kernel
theorem dX11_doesBurnt_115 : decode cX11_doesBurnt 115 = .ok (.iconst 0, 1) := by decide +kernel
theorem dX11_doesBurnt_116 : decode cX11_doesBurnt 116 = .ok (.istore 6, 2) := by decide +kernel
theorem dX11_doesBurnt_118 : decode cX11_doesBurnt 118 = .ok (.iload 6, 2) := by decide +kernel
theorem dX11_doesBurnt_120 : decode cX11_doesBurnt 120 = .ok (.ifCond .eq 17, 3) := by decide +kernel
theorem dX11_doesBurnt_123 : decode cX11_doesBurnt 123 = .ok (.aload_n 0, 1) := by decide +kernel
theorem dX11_doesBurnt_124 : decode cX11_doesBurnt 124 = .ok (.iload 5, 2) := by decide +kernel
theorem dX11_doesBurnt_126 : decode cX11_doesBurnt 126 = .ok (.ifCond .eq 7, 3) := by decide +kernel
theorem dX11_doesBurnt_129 : decode cX11_doesBurnt 129 = .ok (.iconst 1, 1) := by decide +kernel
theorem dX11_doesBurnt_130 : decode cX11_doesBurnt 130 = .ok (.goto 4, 3) := by decide +kernel
theorem dX11_doesBurnt_133 : decode cX11_doesBurnt 133 = .ok (.iconst 0, 1) := by decide +kernel
theorem dX11_doesBurnt_134 : decode cX11_doesBurnt 134 = .ok (.invokevirtual 421, 3) := by decide +kernel
theorem dX11_doesBurnt_137 : decode cX11_doesBurnt 137 = .ok (.iload 6, 2) := by decide +kernel
theorem dX11_doesBurnt_139 : decode cX11_doesBurnt 139 = .ok (.ifCond .eq 8, 3) := by decide +kernel
theorem dX11_doesBurnt_142 : decode cX11_doesBurnt 142 = .ok (.iload 4, 2) := by decide +kernel
theorem dX11_doesBurnt_144 : decode cX11_doesBurnt 144 = .ok (.goto 6, 3) := by decide +kernel
theorem dX11_doesBurnt_147 : decode cX11_doesBurnt 147 = .ok (.iload_n 1, 1) := by decide +kernel
theorem dX11_doesBurnt_148 : decode cX11_doesBurnt 148 = .ok (.iconst 1, 1) := by decide +kernel
theorem dX11_doesBurnt_149 : decode cX11_doesBurnt 149 = .ok (.iadd, 1) := by decide +kernel
theorem dX11_doesBurnt_150 : decode cX11_doesBurnt 150 = .ok (.ireturn, 1) := by decide +kernel
theorem dX11_doesBurnt_151 : decode cX11_doesBurnt 151 = .ok (.aload_n 0, 1) := by decide +kernel
theorem dX11_doesBurnt_152 : decode cX11_doesBurnt 152 = .ok (.aload_n 0, 1) := by decide +kernel
theorem dX11_doesBurnt_153 : decode cX11_doesBurnt 153 = .ok (.getfield 458, 3) := by decide +kernel
theorem dX11_doesBurnt_156 : decode cX11_doesBurnt 156 = .ok (.iconst 2, 1) := by decide +kernel
theorem dX11_doesBurnt_157 : decode cX11_doesBurnt 157 = .ok (.if_icmp .ne 7, 3) := by decide +kernel
theorem dX11_doesBurnt_160 : decode cX11_doesBurnt 160 = .ok (.iconst 5, 1) := by decide +kernel
theorem dX11_doesBurnt_161 : decode cX11_doesBurnt 161 = .ok (.goto 7, 3) := by decide +kernel
theorem dX11_doesBurnt_164 : decode cX11_doesBurnt 164 = .ok (.aload_n 0, 1) := by decide +kernel
theorem dX11_doesBurnt_165 : decode cX11_doesBurnt 165 = .ok (.getfield 413, 3) := by decide +kernel
theorem dX11_doesBurnt_168 : decode cX11_doesBurnt 168 = .ok (.putfield 413, 3) := by decide +kernel
theorem dX11_doesBurnt_171 : decode cX11_doesBurnt 171 = .ok (.aload_n 0, 1) := by decide +kernel
theorem dX11_doesBurnt_172 : decode cX11_doesBurnt 172 = .ok (.aload_n 0, 1) := by decide +kernel
theorem dX11_doesBurnt_173 : decode cX11_doesBurnt 173 = .ok (.getfield 458, 3) := by decide +kernel
theorem dX11_doesBurnt_176 : decode cX11_doesBurnt 176 = .ok (.ifCond .ne 7, 3) := by decide +kernel
theorem dX11_doesBurnt_179 : decode cX11_doesBurnt 179 = .ok (.iload_n 2, 1) := by decide +kernel
theorem dX11_doesBurnt_180 : decode cX11_doesBurnt 180 = .ok (.goto 4, 3) := by decide +kernel
theorem dX11_doesBurnt_183 : decode cX11_doesBurnt 183 = .ok (.iload_n 3, 1) := by decide +kernel
theorem dX11_doesBurnt_184 : decode cX11_doesBurnt 184 = .ok (.invokevirtual 421, 3) := by decide +kernel
theorem dX11_doesBurnt_187 : decode cX11_doesBurnt 187 = .ok (.aload_n 0, 1) := by decide +kernel
theorem dX11_doesBurnt_188 : decode cX11_doesBurnt 188 = .ok (.dup, 1) := by decide +kernel
theorem dX11_doesBurnt_189 : decode cX11_doesBurnt 189 = .ok (.getfield 458, 3) := by decide +kernel
theorem dX11_doesBurnt_192 : decode cX11_doesBurnt 192 = .ok (.iconst 1, 1) := by decide +kernel
theorem dX11_doesBurnt_193 : decode cX11_doesBurnt 193 = .ok (.iadd, 1) := by decide +kernel
theorem dX11_doesBurnt_194 : decode cX11_doesBurnt 194 = .ok (.putfield 458, 3) := by decide +kernel
theorem dX11_doesBurnt_197 : decode cX11_doesBurnt 197 = .ok (.iload_n 1, 1) := by decide +kernel
theorem dX11_doesBurnt_198 : decode cX11_doesBurnt 198 = .ok (.iconst 1, 1) := by decide +kernel
theorem dX11_doesBurnt_199 : decode cX11_doesBurnt 199 = .ok (.iadd, 1) := by decide +kernel
theorem dX11_doesBurnt_200 : decode cX11_doesBurnt 200 = .ok (.ireturn, 1) := by decide +kernel
theorem dX11_doesBurnt_201 : decode cX11_doesBurnt 201 = .ok (.aload_n 0, 1) := by decide +kernel
theorem dX11_doesBurnt_202 : decode cX11_doesBurnt 202 = .ok (.iload 4, 2) := by decide +kernel
theorem dX11_doesBurnt_204 : decode cX11_doesBurnt 204 = .ok (.iload_n 1, 1) := by decide +kernel
theorem dX11_doesBurnt_205 : decode cX11_doesBurnt 205 = .ok (.iconst 1, 1) := by decide +kernel
theorem dX11_doesBurnt_206 : decode cX11_doesBurnt 206 = .ok (.iadd, 1) := by decide +kernel
theorem dX11_doesBurnt_207 : decode cX11_doesBurnt 207 = .ok (.invokevirtual 461, 3) := by decide +kernel
theorem dX11_doesBurnt_210 : decode cX11_doesBurnt 210 = .ok (.ireturn, 1) := by decide +kernel
theorem dX11_doesBurnt_211 : decode cX11_doesBurnt 211 = .ok (.iload_n 1, 1) := by decide +kernel
theorem dX11_doesBurnt_212 : decode cX11_doesBurnt 212 = .ok (.iconst 1, 1) := by decide +kernel
theorem dX11_doesBurnt_213 : decode cX11_doesBurnt 213 = .ok (.iadd, 1) := by decide +kernel
theorem dX11_doesBurnt_214 : decode cX11_doesBurnt 214 = .ok (.ireturn, 1) := by decide +kernel
theorem dX11_needsFuel_0 : decode cX11_needsFuel 0 = .ok (.iload_n 0, 1) := by decide +kernel
theorem dX11_needsFuel_1 : decode cX11_needsFuel 1 = .ok (.ifCond .eq 37, 3) := by decide +kernel
theorem dX11_needsFuel_4 : decode cX11_needsFuel 4 = .ok (.iload_n 0, 1) := by decide +kernel
theorem dX11_needsFuel_5 : decode cX11_needsFuel 5 = .ok (.iconst 4, 1) := by decide +kernel
theorem dX11_needsFuel_6 : decode cX11_needsFuel 6 = .ok (.if_icmp .eq 32, 3) := by decide +kernel
theorem dX11_needsFuel_9 : decode cX11_needsFuel 9 = .ok (.iload_n 0, 1) := by decide +kernel
theorem dX11_needsFuel_10 : decode cX11_needsFuel 10 = .ok (.iconst 5, 1) := by decide +kernel
theorem dX11_needsFuel_11 : decode cX11_needsFuel 11 = .ok (.if_icmp .eq 27, 3) := by decide +kernel
theorem dX11_needsFuel_14 : decode cX11_needsFuel 14 = .ok (.iload_n 0, 1) := by decide +kernel
theorem dX11_needsFuel_15 : decode cX11_needsFuel 15 = .ok (.bipush 6, 2) := by decide +kernel
theorem dX11_needsFuel_17 : decode cX11_needsFuel 17 = .ok (.if_icmp .eq 21, 3) := by decide +kernel
theorem dX11_needsFuel_20 : decode cX11_needsFuel 20 = .ok (.iload_n 0, 1) := by decide +kernel
theorem dX11_needsFuel_21 : decode cX11_needsFuel 21 = .ok (.bipush 7, 2) := by decide +kernel
theorem dX11_needsFuel_23 : decode cX11_needsFuel 23 = .ok (.if_icmp .eq 15, 3) := by decide +kernel
theorem dX11_needsFuel_26 : decode cX11_needsFuel 26 = .ok (.iload_n 0, 1) := by decide +kernel
theorem dX11_needsFuel_27 : decode cX11_needsFuel 27 = .ok (.bipush 9, 2) := by decide +kernel
theorem dX11_needsFuel_29 : decode cX11_needsFuel 29 = .ok (.if_icmp .eq 9, 3) := by decide +kernel
theorem dX11_needsFuel_32 : decode cX11_needsFuel 32 = .ok (.iload_n 0, 1) := by decide +kernel
theorem dX11_needsFuel_33 : decode cX11_needsFuel 33 = .ok (.bipush 10, 2) := by decide +kernel
theorem dX11_needsFuel_35 : decode cX11_needsFuel 35 = .ok (.if_icmp .ne 7, 3) := by decide +kernel
theorem dX11_needsFuel_38 : decode cX11_needsFuel 38 = .ok (.iconst 1, 1) := by decide +kernel
theorem dX11_needsFuel_39 : decode cX11_needsFuel 39 = .ok (.goto 4, 3) := by decide +kernel
theorem dX11_needsFuel_42 : decode cX11_needsFuel 42 = .ok (.iconst 0, 1) := by decide +kernel
theorem dX11_needsFuel_43 : decode cX11_needsFuel 43 = .ok (.ireturn, 1) := by decide +kernel
theorem dX11_runs_0 : decode cX11_runs 0 = .ok (.aload_n 0, 1) := by decide +kernel
theorem dX11_runs_1 : decode cX11_runs 1 = .ok (.iload_n 1, 1) := by decide +kernel
theorem dX11_runs_2 : decode cX11_runs 2 = .ok (.putfield 410, 3) := by decide +kernel
theorem dX11_runs_5 : decode cX11_runs 5 = .ok (.aload_n 0, 1) := by decide +kernel
theorem dX11_runs_6 : decode cX11_runs 6 = .ok (.iconst 0, 1) := by decide +kernel
theorem dX11_runs_7 : decode cX11_runs 7 = .ok (.putfield 413, 3) := by decide +kernel
theorem dX11_runs_10 : decode cX11_runs 10 = .ok (.aload_n 0, 1) := by decide +kernel
theorem dX11_runs_11 : decode cX11_runs 11 = .ok (.iconst 0, 1) := by decide +kernel
theorem dX11_runs_12 : decode cX11_runs 12 = .ok (.putfield 458, 3) := by decide +kernel
theorem dX11_runs_15 : decode cX11_runs 15 = .ok (.aload_n 0, 1) := by decide +kernel
theorem dX11_runs_16 : decode cX11_runs 16 = .ok (.iconst 0, 1) := by decide +kernel
theorem dX11_runs_17 : decode cX11_runs 17 = .ok (.putfield 443, 3) := by decide +kernel
theorem dX11_runs_20 : decode cX11_runs 20 = .ok (.aload_n 0, 1) := by decide +kernel
theorem dX11_runs_21 : decode cX11_runs 21 = .ok (.iconst 0, 1) := by decide +kernel
theorem dX11_runs_22 : decode cX11_runs 22 = .ok (.putfield 416, 3) := by decide +kernel
theorem dX11_runs_25 : decode cX11_runs 25 = .ok (.aload_n 0, 1) := by decide +kernel
theorem dX11_runs_26 : decode cX11_runs 26 = .ok (.iconst 0, 1) := by decide +kernel
theorem dX11_runs_27 : decode cX11_runs 27 = .ok (.putfield 440, 3) := by decide +kernel
theorem dX11_runs_30 : decode cX11_runs 30 = .ok (.iconst 0, 1) := by decide +kernel
theorem dX11_runs_31 : decode cX11_runs 31 = .ok (.istore 4, 2) := by decide +kernel
theorem dX11_runs_33 : decode cX11_runs 33 = .ok (.iload 4, 2) := by decide +kernel
theorem dX11_runs_35 : decode cX11_runs 35 = .ok (.bipush 32, 2) := by decide +kernel
theorem dX11_runs_37 : decode cX11_runs 37 = .ok (.if_icmp .ge 17, 3) := by decide +kernel
theorem dX11_runs_40 : decode cX11_runs 40 = .ok (.aload_n 0, 1) := by decide +kernel
theorem dX11_runs_41 : decode cX11_runs 41 = .ok (.getfield 111, 3) := by decide +kernel
theorem dX11_runs_44 : decode cX11_runs 44 = .ok (.iload 4, 2) := by decide +kernel
theorem dX11_runs_46 : decode cX11_runs 46 = .ok (.iconst 0, 1) := by decide +kernel
theorem dX11_runs_47 : decode cX11_runs 47 = .ok (.iastore, 1) := by decide +kernel
theorem dX11_runs_48 : decode cX11_runs 48 = .ok (.iinc 4 1, 3) := by decide +kernel
theorem dX11_runs_51 : decode cX11_runs 51 = .ok (.goto (-18), 3) := by decide +kernel
theorem dX11_runs_54 : decode cX11_runs 54 = .ok (.iconst 0, 1) := by decide +kernel
theorem dX11_runs_55 : decode cX11_runs 55 = .ok (.istore 4, 2) := by decide +kernel
theorem dX11_runs_57 : decode cX11_runs 57 = .ok (.iload 4, 2) := by decide +kernel
theorem dX11_runs_59 : decode cX11_runs 59 = .ok (.bipush 8, 2) := by decide +kernel
theorem dX11_runs_61 : decode cX11_runs 61 = .ok (.if_icmp .ge 17, 3) := by decide +kernel
theorem dX11_runs_64 : decode cX11_runs 64 = .ok (.aload_n 0, 1) := by decide +kernel
theorem dX11_runs_65 : decode cX11_runs 65 = .ok (.getfield 102, 3) := by decide +kernel
theorem dX11_runs_68 : decode cX11_runs 68 = .ok (.iload 4, 2) := by decide +kernel
theorem dX11_runs_70 : decode cX11_runs 70 = .ok (.iconst 0, 1) := by decide +kernel
theorem dX11_runs_71 : decode cX11_runs 71 = .ok (.iastore, 1) := by decide +kernel
theorem dX11_runs_72 : decode cX11_runs 72 = .ok (.iinc 4 1, 3) := by decide +kernel
theorem dX11_runs_75 : decode cX11_runs 75 = .ok (.goto (-18), 3) := by decide +kernel
theorem dX11_runs_78 : decode cX11_runs 78 = .ok (.iconst 0, 1) := by decide +kernel
theorem dX11_runs_79 : decode cX11_runs 79 = .ok (.istore 4, 2) := by decide +kernel
theorem dX11_runs_81 : decode cX11_runs 81 = .ok (.aload_n 0, 1) := by decide +kernel
theorem dX11_runs_82 : decode cX11_runs 82 = .ok (.getfield 413, 3) := by decide +kernel
theorem dX11_runs_85 : decode cX11_runs 85 = .ok (.ifCond .ne 59, 3) := by decide +kernel
theorem dX11_runs_88 : decode cX11_runs 88 = .ok (.aload_n 0, 1) := by decide +kernel
theorem dX11_runs_89 : decode cX11_runs 89 = .ok (.getfield 19, 3) := by decide +kernel
theorem dX11_runs_92 : decode cX11_runs 92 = .ok (.iload 4, 2) := by decide +kernel
theorem dX11_runs_94 : decode cX11_runs 94 = .ok (.iaload, 1) := by decide +kernel
theorem dX11_runs_95 : decode cX11_runs 95 = .ok (.bipush 17, 2) := by decide +kernel
theorem dX11_runs_97 : decode cX11_runs 97 = .ok (.if_icmp .eq 47, 3) := by decide +kernel
theorem dX11_runs_100 : decode cX11_runs 100 = .ok (.aload_n 0, 1) := by decide +kernel
theorem dX11_runs_101 : decode cX11_runs 101 = .ok (.getfield 19, 3) := by decide +kernel
theorem dX11_runs_104 : decode cX11_runs 104 = .ok (.iload 4, 2) := by decide +kernel
theorem dX11_runs_106 : decode cX11_runs 106 = .ok (.iaload, 1) := by decide +kernel
theorem dX11_runs_107 : decode cX11_runs 107 = .ok (.invokestatic 463, 3) := by decide +kernel
theorem dX11_runs_110 : decode cX11_runs 110 = .ok (.ifCond .ne 14, 3) := by decide +kernel
theorem dX11_runs_113 : decode cX11_runs 113 = .ok (.aload_n 0, 1) := by decide +kernel
theorem dX11_runs_114 : decode cX11_runs 114 = .ok (.iload 4, 2) := by decide +kernel
theorem dX11_runs_116 : decode cX11_runs 116 = .ok (.invokevirtual 466, 3) := by decide +kernel
theorem dX11_runs_119 : decode cX11_runs 119 = .ok (.istore 4, 2) := by decide +kernel
theorem dX11_runs_121 : decode cX11_runs 121 = .ok (.goto (-40), 3) := by decide +kernel
theorem dX11_runs_124 : decode cX11_runs 124 = .ok (.aload_n 0, 1) := by decide +kernel
theorem dX11_runs_125 : decode cX11_runs 125 = .ok (.invokevirtual 469, 3) := by decide +kernel
theorem dX11_runs_128 : decode cX11_runs 128 = .ok (.ifCond .eq (-47), 3) := by decide +kernel
theorem dX11_runs_131 : decode cX11_runs 131 = .ok (.aload_n 0, 1) := by decide +kernel
theorem dX11_runs_132 : decode cX11_runs 132 = .ok (.iload 4, 2) := by decide +kernel
theorem dX11_runs_134 : decode cX11_runs 134 = .ok (.iload_n 2, 1) := by decide +kernel
theorem dX11_runs_135 : decode cX11_runs 135 = .ok (.iload_n 3, 1) := by decide +kernel
theorem dX11_runs_136 : decode cX11_runs 136 = .ok (.invokevirtual 472, 3) := by decide +kernel
theorem dX11_runs_139 : decode cX11_runs 139 = .ok (.istore 4, 2) := by decide +kernel
theorem dX11_runs_141 : decode cX11_runs 141 = .ok (.goto (-60), 3) := by decide +kernel
theorem dX11_runs_144 : decode cX11_runs 144 = .ok (.return_, 1) := by decide +kernel
theorem dX11_loadsDraft_0 : decode cX11_loadsDraft 0 = .ok (.aload_n 0, 1) := by decide +kernel
theorem dX11_loadsDraft_1 : decode cX11_loadsDraft 1 = .ok (.aload_n 0, 1) := by decide +kernel
theorem dX11_loadsDraft_2 : decode cX11_loadsDraft 2 = .ok (.getfield 189, 3) := by decide +kernel
theorem dX11_loadsDraft_5 : decode cX11_loadsDraft 5 = .ok (.putfield 196, 3) := by decide +kernel
theorem dX11_loadsDraft_8 : decode cX11_loadsDraft 8 = .ok (.iconst 0, 1) := by decide +kernel
theorem dX11_loadsDraft_9 : decode cX11_loadsDraft 9 = .ok (.istore_n 1, 1) := by decide +kernel
theorem dX11_loadsDraft_10 : decode cX11_loadsDraft 10 = .ok (.iload_n 1, 1) := by decide +kernel
theorem dX11_loadsDraft_11 : decode cX11_loadsDraft 11 = .ok (.aload_n 0, 1) := by decide +kernel
theorem dX11_loadsDraft_12 : decode cX11_loadsDraft 12 = .ok (.getfield 189, 3) := by decide +kernel
theorem dX11_loadsDraft_15 : decode cX11_loadsDraft 15 = .ok (.if_icmp .ge 21, 3) := by decide +kernel
theorem dX11_loadsDraft_18 : decode cX11_loadsDraft 18 = .ok (.aload_n 0, 1) := by decide +kernel
theorem dX11_loadsDraft_19 : decode cX11_loadsDraft 19 = .ok (.getfield 16, 3) := by decide +kernel
theorem dX11_loadsDraft_22 : decode cX11_loadsDraft 22 = .ok (.iload_n 1, 1) := by decide +kernel
theorem dX11_loadsDraft_23 : decode cX11_loadsDraft 23 = .ok (.aload_n 0, 1) := by decide +kernel
theorem dX11_loadsDraft_24 : decode cX11_loadsDraft 24 = .ok (.getfield 7, 3) := by decide +kernel
theorem dX11_loadsDraft_27 : decode cX11_loadsDraft 27 = .ok (.iload_n 1, 1) := by decide +kernel
theorem dX11_loadsDraft_28 : decode cX11_loadsDraft 28 = .ok (.caload, 1) := by decide +kernel
theorem dX11_loadsDraft_29 : decode cX11_loadsDraft 29 = .ok (.castore, 1) := by decide +kernel
theorem dX11_loadsDraft_30 : decode cX11_loadsDraft 30 = .ok (.iinc 1 1, 3) := by decide +kernel
theorem dX11_loadsDraft_33 : decode cX11_loadsDraft 33 = .ok (.goto (-23), 3) := by decide +kernel
theorem dX11_loadsDraft_36 : decode cX11_loadsDraft 36 = .ok (.aload_n 0, 1) := by decide +kernel
theorem dX11_loadsDraft_37 : decode cX11_loadsDraft 37 = .ok (.invokevirtual 476, 3) := by decide +kernel
theorem dX11_loadsDraft_40 : decode cX11_loadsDraft 40 = .ok (.return_, 1) := by decide +kernel
theorem dX11_loadsAnswer_0 : decode cX11_loadsAnswer 0 = .ok (.aload_n 0, 1) := by decide +kernel
theorem dX11_loadsAnswer_1 : decode cX11_loadsAnswer 1 = .ok (.aload_n 0, 1) := by decide +kernel
theorem dX11_loadsAnswer_2 : decode cX11_loadsAnswer 2 = .ok (.getfield 144, 3) := by decide +kernel
theorem dX11_loadsAnswer_5 : decode cX11_loadsAnswer 5 = .ok (.iload_n 1, 1) := by decide +kernel
theorem dX11_loadsAnswer_6 : decode cX11_loadsAnswer 6 = .ok (.iaload, 1) := by decide +kernel
theorem dX11_loadsAnswer_7 : decode cX11_loadsAnswer 7 = .ok (.putfield 196, 3) := by decide +kernel
theorem dX11_loadsAnswer_10 : decode cX11_loadsAnswer 10 = .ok (.iconst 0, 1) := by decide +kernel
theorem dX11_loadsAnswer_11 : decode cX11_loadsAnswer 11 = .ok (.istore_n 2, 1) := by decide +kernel
theorem dX11_loadsAnswer_12 : decode cX11_loadsAnswer 12 = .ok (.iload_n 2, 1) := by decide +kernel
theorem dX11_loadsAnswer_13 : decode cX11_loadsAnswer 13 = .ok (.aload_n 0, 1) := by decide +kernel
theorem dX11_loadsAnswer_14 : decode cX11_loadsAnswer 14 = .ok (.getfield 196, 3) := by decide +kernel
theorem dX11_loadsAnswer_17 : decode cX11_loadsAnswer 17 = .ok (.if_icmp .ge 27, 3) := by decide +kernel
theorem dX11_loadsAnswer_20 : decode cX11_loadsAnswer 20 = .ok (.aload_n 0, 1) := by decide +kernel
theorem dX11_loadsAnswer_21 : decode cX11_loadsAnswer 21 = .ok (.getfield 16, 3) := by decide +kernel
theorem dX11_loadsAnswer_24 : decode cX11_loadsAnswer 24 = .ok (.iload_n 2, 1) := by decide +kernel
theorem dX11_loadsAnswer_25 : decode cX11_loadsAnswer 25 = .ok (.aload_n 0, 1) := by decide +kernel
theorem dX11_loadsAnswer_26 : decode cX11_loadsAnswer 26 = .ok (.getfield 13, 3) := by decide +kernel
theorem dX11_loadsAnswer_29 : decode cX11_loadsAnswer 29 = .ok (.sipush 300, 3) := by decide +kernel
theorem dX11_loadsAnswer_32 : decode cX11_loadsAnswer 32 = .ok (.iload_n 1, 1) := by decide +kernel
theorem dX11_loadsAnswer_33 : decode cX11_loadsAnswer 33 = .ok (.imul, 1) := by decide +kernel
theorem dX11_loadsAnswer_34 : decode cX11_loadsAnswer 34 = .ok (.iload_n 2, 1) := by decide +kernel
theorem dX11_loadsAnswer_35 : decode cX11_loadsAnswer 35 = .ok (.iadd, 1) := by decide +kernel
theorem dX11_loadsAnswer_36 : decode cX11_loadsAnswer 36 = .ok (.caload, 1) := by decide +kernel
theorem dX11_loadsAnswer_37 : decode cX11_loadsAnswer 37 = .ok (.castore, 1) := by decide +kernel
theorem dX11_loadsAnswer_38 : decode cX11_loadsAnswer 38 = .ok (.iinc 2 1, 3) := by decide +kernel
theorem dX11_loadsAnswer_41 : decode cX11_loadsAnswer 41 = .ok (.goto (-29), 3) := by decide +kernel
theorem dX11_loadsAnswer_44 : decode cX11_loadsAnswer 44 = .ok (.aload_n 0, 1) := by decide +kernel
theorem dX11_loadsAnswer_45 : decode cX11_loadsAnswer 45 = .ok (.invokevirtual 476, 3) := by decide +kernel
theorem dX11_loadsAnswer_48 : decode cX11_loadsAnswer 48 = .ok (.return_, 1) := by decide +kernel
theorem dX11_fault_0 : decode cX11_fault 0 = .ok (.aload_n 0, 1) := by decide +kernel
theorem dX11_fault_1 : decode cX11_fault 1 = .ok (.invokevirtual 479, 3) := by decide +kernel
theorem dX11_fault_4 : decode cX11_fault 4 = .ok (.aload_n 0, 1) := by decide +kernel
theorem dX11_fault_5 : decode cX11_fault 5 = .ok (.aload_n 0, 1) := by decide +kernel
theorem dX11_fault_6 : decode cX11_fault 6 = .ok (.getfield 254, 3) := by decide +kernel
theorem dX11_fault_9 : decode cX11_fault 9 = .ok (.invokevirtual 192, 3) := by decide +kernel
theorem dX11_fault_12 : decode cX11_fault 12 = .ok (.ireturn, 1) := by decide +kernel
theorem dX11_faultPlace_0 : decode cX11_faultPlace 0 = .ok (.aload_n 0, 1) := by decide +kernel
theorem dX11_faultPlace_1 : decode cX11_faultPlace 1 = .ok (.invokevirtual 479, 3) := by decide +kernel
theorem dX11_faultPlace_4 : decode cX11_faultPlace 4 = .ok (.aload_n 0, 1) := by decide +kernel
theorem dX11_faultPlace_5 : decode cX11_faultPlace 5 = .ok (.aload_n 0, 1) := by decide +kernel
theorem dX11_faultPlace_6 : decode cX11_faultPlace 6 = .ok (.getfield 257, 3) := by decide +kernel
theorem dX11_faultPlace_9 : decode cX11_faultPlace 9 = .ok (.invokevirtual 192, 3) := by decide +kernel
theorem dX11_faultPlace_12 : decode cX11_faultPlace 12 = .ok (.ireturn, 1) := by decide +kernel
theorem dX11_draftParts_0 : decode cX11_draftParts 0 = .ok (.aload_n 0, 1) := by decide +kernel
theorem dX11_draftParts_1 : decode cX11_draftParts 1 = .ok (.invokevirtual 479, 3) := by decide +kernel
theorem dX11_draftParts_4 : decode cX11_draftParts 4 = .ok (.aload_n 0, 1) := by decide +kernel
theorem dX11_draftParts_5 : decode cX11_draftParts 5 = .ok (.aload_n 0, 1) := by decide +kernel
theorem dX11_draftParts_6 : decode cX11_draftParts 6 = .ok (.getfield 254, 3) := by decide +kernel
theorem dX11_draftParts_9 : decode cX11_draftParts 9 = .ok (.ifCond .ne 7, 3) := by decide +kernel
theorem dX11_draftParts_12 : decode cX11_draftParts 12 = .ok (.iconst 1, 1) := by decide +kernel
theorem dX11_draftParts_13 : decode cX11_draftParts 13 = .ok (.goto 4, 3) := by decide +kernel
theorem dX11_draftParts_16 : decode cX11_draftParts 16 = .ok (.iconst 0, 1) := by decide +kernel
theorem dX11_draftParts_17 : decode cX11_draftParts 17 = .ok (.iconst 1, 1) := by decide +kernel
theorem dX11_draftParts_18 : decode cX11_draftParts 18 = .ok (.iconst 1, 1) := by decide +kernel
theorem dX11_draftParts_19 : decode cX11_draftParts 19 = .ok (.invokevirtual 185, 3) := by decide +kernel
theorem dX11_draftParts_22 : decode cX11_draftParts 22 = .ok (.ifCond .eq 10, 3) := by decide +kernel
theorem dX11_draftParts_25 : decode cX11_draftParts 25 = .ok (.aload_n 0, 1) := by decide +kernel
theorem dX11_draftParts_26 : decode cX11_draftParts 26 = .ok (.getfield 269, 3) := by decide +kernel
theorem dX11_draftParts_29 : decode cX11_draftParts 29 = .ok (.goto 4, 3) := by decide +kernel
theorem dX11_draftParts_32 : decode cX11_draftParts 32 = .ok (.iconst 0, 1) := by decide +kernel
theorem dX11_draftParts_33 : decode cX11_draftParts 33 = .ok (.ireturn, 1) := by decide +kernel
theorem dX11_trial_0 : decode cX11_trial 0 = .ok (.aload_n 0, 1) := by decide +kernel
theorem dX11_trial_1 : decode cX11_trial 1 = .ok (.invokevirtual 479, 3) := by decide +kernel
theorem dX11_trial_4 : decode cX11_trial 4 = .ok (.aload_n 0, 1) := by decide +kernel
theorem dX11_trial_5 : decode cX11_trial 5 = .ok (.iload_n 1, 1) := by decide +kernel
theorem dX11_trial_6 : decode cX11_trial 6 = .ok (.i2l, 1) := by decide +kernel
theorem dX11_trial_7 : decode cX11_trial 7 = .ok (.lconst 0, 1) := by decide +kernel
theorem dX11_trial_8 : decode cX11_trial 8 = .ok (.ldc2_w 482, 3) := by decide +kernel
theorem dX11_trial_11 : decode cX11_trial 11 = .ok (.invokestatic 175, 3) := by decide +kernel
theorem dX11_trial_14 : decode cX11_trial 14 = .ok (.aload_n 0, 1) := by decide +kernel
theorem dX11_trial_15 : decode cX11_trial 15 = .ok (.getfield 254, 3) := by decide +kernel
theorem dX11_trial_18 : decode cX11_trial 18 = .ok (.ifCond .ne 7, 3) := by decide +kernel
theorem dX11_trial_21 : decode cX11_trial 21 = .ok (.iconst 1, 1) := by decide +kernel
theorem dX11_trial_22 : decode cX11_trial 22 = .ok (.goto 4, 3) := by decide +kernel
theorem dX11_trial_25 : decode cX11_trial 25 = .ok (.iconst 0, 1) := by decide +kernel
theorem dX11_trial_26 : decode cX11_trial 26 = .ok (.iconst 1, 1) := by decide +kernel
theorem dX11_trial_27 : decode cX11_trial 27 = .ok (.invokevirtual 185, 3) := by decide +kernel
theorem dX11_trial_30 : decode cX11_trial 30 = .ok (.ifCond .ne 5, 3) := by decide +kernel
theorem dX11_trial_33 : decode cX11_trial 33 = .ok (.iconst 0, 1) := by decide +kernel
theorem dX11_trial_34 : decode cX11_trial 34 = .ok (.ireturn, 1) := by decide +kernel
theorem dX11_trial_35 : decode cX11_trial 35 = .ok (.aload_n 0, 1) := by decide +kernel
theorem dX11_trial_36 : decode cX11_trial 36 = .ok (.iload_n 1, 1) := by decide +kernel
theorem dX11_trial_37 : decode cX11_trial 37 = .ok (.iload_n 2, 1) := by decide +kernel
theorem dX11_trial_38 : decode cX11_trial 38 = .ok (.iload_n 3, 1) := by decide +kernel
theorem dX11_trial_39 : decode cX11_trial 39 = .ok (.invokevirtual 484, 3) := by decide +kernel
theorem dX11_trial_42 : decode cX11_trial 42 = .ok (.aload_n 0, 1) := by decide +kernel
theorem dX11_trial_43 : decode cX11_trial 43 = .ok (.aload_n 0, 1) := by decide +kernel
theorem dX11_trial_44 : decode cX11_trial 44 = .ok (.getfield 440, 3) := by decide +kernel
theorem dX11_trial_47 : decode cX11_trial 47 = .ok (.putfield 488, 3) := by decide +kernel
theorem dX11_trial_50 : decode cX11_trial 50 = .ok (.aload_n 0, 1) := by decide +kernel
theorem dX11_trial_51 : decode cX11_trial 51 = .ok (.aload_n 0, 1) := by decide +kernel
theorem dX11_trial_52 : decode cX11_trial 52 = .ok (.getfield 410, 3) := by decide +kernel
theorem dX11_trial_55 : decode cX11_trial 55 = .ok (.putfield 491, 3) := by decide +kernel
theorem dX11_trial_58 : decode cX11_trial 58 = .ok (.iconst 0, 1) := by decide +kernel
theorem dX11_trial_59 : decode cX11_trial 59 = .ok (.istore 4, 2) := by decide +kernel
theorem dX11_trial_61 : decode cX11_trial 61 = .ok (.iload 4, 2) := by decide +kernel
theorem dX11_trial_63 : decode cX11_trial 63 = .ok (.bipush 8, 2) := by decide +kernel
theorem dX11_trial_65 : decode cX11_trial 65 = .ok (.if_icmp .ge 23, 3) := by decide +kernel
theorem dX11_trial_68 : decode cX11_trial 68 = .ok (.aload_n 0, 1) := by decide +kernel
theorem dX11_trial_69 : decode cX11_trial 69 = .ok (.getfield 114, 3) := by decide +kernel
theorem dX11_trial_72 : decode cX11_trial 72 = .ok (.iload 4, 2) := by decide +kernel
theorem dX11_trial_74 : decode cX11_trial 74 = .ok (.aload_n 0, 1) := by decide +kernel
theorem dX11_trial_75 : decode cX11_trial 75 = .ok (.getfield 108, 3) := by decide +kernel
theorem dX11_trial_78 : decode cX11_trial 78 = .ok (.iload 4, 2) := by decide +kernel
theorem dX11_trial_80 : decode cX11_trial 80 = .ok (.iaload, 1) := by decide +kernel
theorem dX11_trial_81 : decode cX11_trial 81 = .ok (.iastore, 1) := by decide +kernel
theorem dX11_trial_82 : decode cX11_trial 82 = .ok (.iinc 4 1, 3) := by decide +kernel
theorem dX11_trial_85 : decode cX11_trial 85 = .ok (.goto (-24), 3) := by decide +kernel
theorem dX11_trial_88 : decode cX11_trial 88 = .ok (.iconst 0, 1) := by decide +kernel
theorem dX11_trial_89 : decode cX11_trial 89 = .ok (.istore 4, 2) := by decide +kernel
theorem dX11_trial_91 : decode cX11_trial 91 = .ok (.iload 4, 2) := by decide +kernel
theorem dX11_trial_93 : decode cX11_trial 93 = .ok (.bipush 32, 2) := by decide +kernel
theorem dX11_trial_95 : decode cX11_trial 95 = .ok (.if_icmp .ge 23, 3) := by decide +kernel
theorem dX11_trial_98 : decode cX11_trial 98 = .ok (.aload_n 0, 1) := by decide +kernel
theorem dX11_trial_99 : decode cX11_trial 99 = .ok (.getfield 117, 3) := by decide +kernel
theorem dX11_trial_102 : decode cX11_trial 102 = .ok (.iload 4, 2) := by decide +kernel
theorem dX11_trial_104 : decode cX11_trial 104 = .ok (.aload_n 0, 1) := by decide +kernel
theorem dX11_trial_105 : decode cX11_trial 105 = .ok (.getfield 111, 3) := by decide +kernel
theorem dX11_trial_108 : decode cX11_trial 108 = .ok (.iload 4, 2) := by decide +kernel
theorem dX11_trial_110 : decode cX11_trial 110 = .ok (.iaload, 1) := by decide +kernel
theorem dX11_trial_111 : decode cX11_trial 111 = .ok (.iastore, 1) := by decide +kernel
theorem dX11_trial_112 : decode cX11_trial 112 = .ok (.iinc 4 1, 3) := by decide +kernel
theorem dX11_trial_115 : decode cX11_trial 115 = .ok (.goto (-24), 3) := by decide +kernel
theorem dX11_trial_118 : decode cX11_trial 118 = .ok (.aload_n 0, 1) := by decide +kernel
theorem dX11_trial_119 : decode cX11_trial 119 = .ok (.getfield 413, 3) := by decide +kernel
theorem dX11_trial_122 : decode cX11_trial 122 = .ok (.ireturn, 1) := by decide +kernel
theorem dX11_trialByTree_0 : decode cX11_trialByTree 0 = .ok (.aload_n 0, 1) := by decide +kernel
theorem dX11_trialByTree_1 : decode cX11_trialByTree 1 = .ok (.iload_n 1, 1) := by decide +kernel
theorem dX11_trialByTree_2 : decode cX11_trialByTree 2 = .ok (.iload_n 2, 1) := by decide +kernel
theorem dX11_trialByTree_3 : decode cX11_trialByTree 3 = .ok (.iload_n 3, 1) := by decide +kernel
theorem dX11_trialByTree_4 : decode cX11_trialByTree 4 = .ok (.invokevirtual 494, 3) := by decide +kernel
theorem dX11_trialByTree_7 : decode cX11_trialByTree 7 = .ok (.ireturn, 1) := by decide +kernel
theorem dX11_outputs_0 : decode cX11_outputs 0 = .ok (.aload_n 0, 1) := by decide +kernel
theorem dX11_outputs_1 : decode cX11_outputs 1 = .ok (.aload_n 0, 1) := by decide +kernel
theorem dX11_outputs_2 : decode cX11_outputs 2 = .ok (.getfield 488, 3) := by decide +kernel
theorem dX11_outputs_5 : decode cX11_outputs 5 = .ok (.invokevirtual 192, 3) := by decide +kernel
theorem dX11_outputs_8 : decode cX11_outputs 8 = .ok (.ireturn, 1) := by decide +kernel
theorem dX11_outputAt_0 : decode cX11_outputAt 0 = .ok (.aload_n 0, 1) := by decide +kernel
theorem dX11_outputAt_1 : decode cX11_outputAt 1 = .ok (.iload_n 1, 1) := by decide +kernel
theorem dX11_outputAt_2 : decode cX11_outputAt 2 = .ok (.i2l, 1) := by decide +kernel
theorem dX11_outputAt_3 : decode cX11_outputAt 3 = .ok (.lconst 0, 1) := by decide +kernel
theorem dX11_outputAt_4 : decode cX11_outputAt 4 = .ok (.aload_n 0, 1) := by decide +kernel
theorem dX11_outputAt_5 : decode cX11_outputAt 5 = .ok (.getfield 488, 3) := by decide +kernel
theorem dX11_outputAt_8 : decode cX11_outputAt 8 = .ok (.iconst 1, 1) := by decide +kernel
theorem dX11_outputAt_9 : decode cX11_outputAt 9 = .ok (.isub, 1) := by decide +kernel
theorem dX11_outputAt_10 : decode cX11_outputAt 10 = .ok (.i2l, 1) := by decide +kernel
theorem dX11_outputAt_11 : decode cX11_outputAt 11 = .ok (.invokestatic 175, 3) := by decide +kernel
theorem dX11_outputAt_14 : decode cX11_outputAt 14 = .ok (.iconst 1, 1) := by decide +kernel
theorem dX11_outputAt_15 : decode cX11_outputAt 15 = .ok (.iconst 1, 1) := by decide +kernel
theorem dX11_outputAt_16 : decode cX11_outputAt 16 = .ok (.invokevirtual 185, 3) := by decide +kernel
theorem dX11_outputAt_19 : decode cX11_outputAt 19 = .ok (.ifCond .eq 12, 3) := by decide +kernel
theorem dX11_outputAt_22 : decode cX11_outputAt 22 = .ok (.aload_n 0, 1) := by decide +kernel
theorem dX11_outputAt_23 : decode cX11_outputAt 23 = .ok (.getfield 114, 3) := by decide +kernel
theorem dX11_outputAt_26 : decode cX11_outputAt 26 = .ok (.iload_n 1, 1) := by decide +kernel
theorem dX11_outputAt_27 : decode cX11_outputAt 27 = .ok (.iaload, 1) := by decide +kernel
theorem dX11_outputAt_28 : decode cX11_outputAt 28 = .ok (.goto 4, 3) := by decide +kernel
theorem dX11_outputAt_31 : decode cX11_outputAt 31 = .ok (.iconst 0, 1) := by decide +kernel
theorem dX11_outputAt_32 : decode cX11_outputAt 32 = .ok (.ireturn, 1) := by decide +kernel
theorem dX11_fuelLeft_0 : decode cX11_fuelLeft 0 = .ok (.aload_n 0, 1) := by decide +kernel
theorem dX11_fuelLeft_1 : decode cX11_fuelLeft 1 = .ok (.aload_n 0, 1) := by decide +kernel
theorem dX11_fuelLeft_2 : decode cX11_fuelLeft 2 = .ok (.getfield 491, 3) := by decide +kernel
theorem dX11_fuelLeft_5 : decode cX11_fuelLeft 5 = .ok (.invokevirtual 192, 3) := by decide +kernel
theorem dX11_fuelLeft_8 : decode cX11_fuelLeft 8 = .ok (.ireturn, 1) := by decide +kernel
theorem dX11_cellAt_0 : decode cX11_cellAt 0 = .ok (.aload_n 0, 1) := by decide +kernel
theorem dX11_cellAt_1 : decode cX11_cellAt 1 = .ok (.iload_n 1, 1) := by decide +kernel
theorem dX11_cellAt_2 : decode cX11_cellAt 2 = .ok (.invokestatic 433, 3) := by decide +kernel
theorem dX11_cellAt_5 : decode cX11_cellAt 5 = .ok (.iconst 1, 1) := by decide +kernel
theorem dX11_cellAt_6 : decode cX11_cellAt 6 = .ok (.iconst 1, 1) := by decide +kernel
theorem dX11_cellAt_7 : decode cX11_cellAt 7 = .ok (.invokevirtual 185, 3) := by decide +kernel
theorem dX11_cellAt_10 : decode cX11_cellAt 10 = .ok (.ifCond .eq 12, 3) := by decide +kernel
theorem dX11_cellAt_13 : decode cX11_cellAt 13 = .ok (.aload_n 0, 1) := by decide +kernel
theorem dX11_cellAt_14 : decode cX11_cellAt 14 = .ok (.getfield 117, 3) := by decide +kernel
theorem dX11_cellAt_17 : decode cX11_cellAt 17 = .ok (.iload_n 1, 1) := by decide +kernel
theorem dX11_cellAt_18 : decode cX11_cellAt 18 = .ok (.iaload, 1) := by decide +kernel
theorem dX11_cellAt_19 : decode cX11_cellAt 19 = .ok (.goto 4, 3) := by decide +kernel
theorem dX11_cellAt_22 : decode cX11_cellAt 22 = .ok (.iconst 0, 1) := by decide +kernel
theorem dX11_cellAt_23 : decode cX11_cellAt 23 = .ok (.ireturn, 1) := by decide +kernel
theorem dX11_isExercise_0 : decode cX11_isExercise 0 = .ok (.iload_n 1, 1) := by decide +kernel
theorem dX11_isExercise_1 : decode cX11_isExercise 1 = .ok (.i2l, 1) := by decide +kernel
theorem dX11_isExercise_2 : decode cX11_isExercise 2 = .ok (.lconst 0, 1) := by decide +kernel
theorem dX11_isExercise_3 : decode cX11_isExercise 3 = .ok (.aload_n 0, 1) := by decide +kernel
theorem dX11_isExercise_4 : decode cX11_isExercise 4 = .ok (.getfield 497, 3) := by decide +kernel
theorem dX11_isExercise_7 : decode cX11_isExercise 7 = .ok (.iconst 1, 1) := by decide +kernel
theorem dX11_isExercise_8 : decode cX11_isExercise 8 = .ok (.isub, 1) := by decide +kernel
theorem dX11_isExercise_9 : decode cX11_isExercise 9 = .ok (.i2l, 1) := by decide +kernel
theorem dX11_isExercise_10 : decode cX11_isExercise 10 = .ok (.invokestatic 175, 3) := by decide +kernel
theorem dX11_isExercise_13 : decode cX11_isExercise 13 = .ok (.ireturn, 1) := by decide +kernel
theorem dX11_isTest_0 : decode cX11_isTest 0 = .ok (.aload_n 0, 1) := by decide +kernel
theorem dX11_isTest_1 : decode cX11_isTest 1 = .ok (.iload_n 1, 1) := by decide +kernel
theorem dX11_isTest_2 : decode cX11_isTest 2 = .ok (.invokevirtual 500, 3) := by decide +kernel
theorem dX11_isTest_5 : decode cX11_isTest 5 = .ok (.ifCond .eq 25, 3) := by decide +kernel
theorem dX11_isTest_8 : decode cX11_isTest 8 = .ok (.iload_n 2, 1) := by decide +kernel
theorem dX11_isTest_9 : decode cX11_isTest 9 = .ok (.i2l, 1) := by decide +kernel
theorem dX11_isTest_10 : decode cX11_isTest 10 = .ok (.lconst 0, 1) := by decide +kernel
theorem dX11_isTest_11 : decode cX11_isTest 11 = .ok (.aload_n 0, 1) := by decide +kernel
theorem dX11_isTest_12 : decode cX11_isTest 12 = .ok (.getfield 126, 3) := by decide +kernel
theorem dX11_isTest_15 : decode cX11_isTest 15 = .ok (.iload_n 1, 1) := by decide +kernel
theorem dX11_isTest_16 : decode cX11_isTest 16 = .ok (.iaload, 1) := by decide +kernel
theorem dX11_isTest_17 : decode cX11_isTest 17 = .ok (.iconst 1, 1) := by decide +kernel
theorem dX11_isTest_18 : decode cX11_isTest 18 = .ok (.isub, 1) := by decide +kernel
theorem dX11_isTest_19 : decode cX11_isTest 19 = .ok (.i2l, 1) := by decide +kernel
theorem dX11_isTest_20 : decode cX11_isTest 20 = .ok (.invokestatic 175, 3) := by decide +kernel
theorem dX11_isTest_23 : decode cX11_isTest 23 = .ok (.ifCond .eq 7, 3) := by decide +kernel
theorem dX11_isTest_26 : decode cX11_isTest 26 = .ok (.iconst 1, 1) := by decide +kernel
theorem dX11_isTest_27 : decode cX11_isTest 27 = .ok (.goto 4, 3) := by decide +kernel
theorem dX11_isTest_30 : decode cX11_isTest 30 = .ok (.iconst 0, 1) := by decide +kernel
theorem dX11_isTest_31 : decode cX11_isTest 31 = .ok (.ireturn, 1) := by decide +kernel
theorem dX11_addExercise_0 : decode cX11_addExercise 0 = .ok (.aload_n 0, 1) := by decide +kernel
theorem dX11_addExercise_1 : decode cX11_addExercise 1 = .ok (.iload_n 1, 1) := by decide +kernel
theorem dX11_addExercise_2 : decode cX11_addExercise 2 = .ok (.i2l, 1) := by decide +kernel
theorem dX11_addExercise_3 : decode cX11_addExercise 3 = .ok (.lconst 1, 1) := by decide +kernel
theorem dX11_addExercise_4 : decode cX11_addExercise 4 = .ok (.ldc2_w 503, 3) := by decide +kernel
theorem dX11_addExercise_7 : decode cX11_addExercise 7 = .ok (.invokestatic 175, 3) := by decide +kernel
theorem dX11_addExercise_10 : decode cX11_addExercise 10 = .ok (.ifCond .eq 23, 3) := by decide +kernel
theorem dX11_addExercise_13 : decode cX11_addExercise 13 = .ok (.iload_n 2, 1) := by decide +kernel
theorem dX11_addExercise_14 : decode cX11_addExercise 14 = .ok (.i2l, 1) := by decide +kernel
theorem dX11_addExercise_15 : decode cX11_addExercise 15 = .ok (.aload_n 0, 1) := by decide +kernel
theorem dX11_addExercise_16 : decode cX11_addExercise 16 = .ok (.getfield 505, 3) := by decide +kernel
theorem dX11_addExercise_19 : decode cX11_addExercise 19 = .ok (.i2l, 1) := by decide +kernel
theorem dX11_addExercise_20 : decode cX11_addExercise 20 = .ok (.ldc2_w 508, 3) := by decide +kernel
theorem dX11_addExercise_23 : decode cX11_addExercise 23 = .ok (.invokestatic 175, 3) := by decide +kernel
theorem dX11_addExercise_26 : decode cX11_addExercise 26 = .ok (.ifCond .eq 7, 3) := by decide +kernel
theorem dX11_addExercise_29 : decode cX11_addExercise 29 = .ok (.iconst 1, 1) := by decide +kernel
theorem dX11_addExercise_30 : decode cX11_addExercise 30 = .ok (.goto 4, 3) := by decide +kernel
theorem dX11_addExercise_33 : decode cX11_addExercise 33 = .ok (.iconst 0, 1) := by decide +kernel
theorem dX11_addExercise_34 : decode cX11_addExercise 34 = .ok (.aload_n 0, 1) := by decide +kernel
theorem dX11_addExercise_35 : decode cX11_addExercise 35 = .ok (.getfield 497, 3) := by decide +kernel
theorem dX11_addExercise_38 : decode cX11_addExercise 38 = .ok (.iconst 4, 1) := by decide +kernel
theorem dX11_addExercise_39 : decode cX11_addExercise 39 = .ok (.if_icmp .ge 7, 3) := by decide +kernel
theorem dX11_addExercise_42 : decode cX11_addExercise 42 = .ok (.iconst 1, 1) := by decide +kernel
theorem dX11_addExercise_43 : decode cX11_addExercise 43 = .ok (.goto 4, 3) := by decide +kernel
theorem dX11_addExercise_46 : decode cX11_addExercise 46 = .ok (.iconst 0, 1) := by decide +kernel
theorem dX11_addExercise_47 : decode cX11_addExercise 47 = .ok (.iconst 1, 1) := by decide +kernel
theorem dX11_addExercise_48 : decode cX11_addExercise 48 = .ok (.invokevirtual 185, 3) := by decide +kernel
theorem dX11_addExercise_51 : decode cX11_addExercise 51 = .ok (.ifCond .ne 5, 3) := by decide +kernel
theorem dX11_addExercise_54 : decode cX11_addExercise 54 = .ok (.iconst 0, 1) := by decide +kernel
theorem dX11_addExercise_55 : decode cX11_addExercise 55 = .ok (.ireturn, 1) := by decide +kernel
theorem dX11_addExercise_56 : decode cX11_addExercise 56 = .ok (.aload_n 0, 1) := by decide +kernel
theorem dX11_addExercise_57 : decode cX11_addExercise 57 = .ok (.getfield 120, 3) := by decide +kernel
theorem dX11_addExercise_60 : decode cX11_addExercise 60 = .ok (.aload_n 0, 1) := by decide +kernel
theorem dX11_addExercise_61 : decode cX11_addExercise 61 = .ok (.getfield 497, 3) := by decide +kernel
theorem dX11_addExercise_64 : decode cX11_addExercise 64 = .ok (.iload_n 1, 1) := by decide +kernel
theorem dX11_addExercise_65 : decode cX11_addExercise 65 = .ok (.iastore, 1) := by decide +kernel
theorem dX11_addExercise_66 : decode cX11_addExercise 66 = .ok (.aload_n 0, 1) := by decide +kernel
theorem dX11_addExercise_67 : decode cX11_addExercise 67 = .ok (.getfield 123, 3) := by decide +kernel
theorem dX11_addExercise_70 : decode cX11_addExercise 70 = .ok (.aload_n 0, 1) := by decide +kernel
theorem dX11_addExercise_71 : decode cX11_addExercise 71 = .ok (.getfield 497, 3) := by decide +kernel
theorem dX11_addExercise_74 : decode cX11_addExercise 74 = .ok (.iload_n 2, 1) := by decide +kernel
theorem dX11_addExercise_75 : decode cX11_addExercise 75 = .ok (.iastore, 1) := by decide +kernel
theorem dX11_addExercise_76 : decode cX11_addExercise 76 = .ok (.aload_n 0, 1) := by decide +kernel
theorem dX11_addExercise_77 : decode cX11_addExercise 77 = .ok (.getfield 126, 3) := by decide +kernel
theorem dX11_addExercise_80 : decode cX11_addExercise 80 = .ok (.aload_n 0, 1) := by decide +kernel
theorem dX11_addExercise_81 : decode cX11_addExercise 81 = .ok (.getfield 497, 3) := by decide +kernel
theorem dX11_addExercise_84 : decode cX11_addExercise 84 = .ok (.iconst 0, 1) := by decide +kernel
theorem dX11_addExercise_85 : decode cX11_addExercise 85 = .ok (.iastore, 1) := by decide +kernel
theorem dX11_addExercise_86 : decode cX11_addExercise 86 = .ok (.aload_n 0, 1) := by decide +kernel
theorem dX11_addExercise_87 : decode cX11_addExercise 87 = .ok (.dup, 1) := by decide +kernel
theorem dX11_addExercise_88 : decode cX11_addExercise 88 = .ok (.getfield 497, 3) := by decide +kernel
theorem dX11_addExercise_91 : decode cX11_addExercise 91 = .ok (.iconst 1, 1) := by decide +kernel
theorem dX11_addExercise_92 : decode cX11_addExercise 92 = .ok (.iadd, 1) := by decide +kernel
theorem dX11_addExercise_93 : decode cX11_addExercise 93 = .ok (.putfield 497, 3) := by decide +kernel
theorem dX11_addExercise_96 : decode cX11_addExercise 96 = .ok (.aload_n 0, 1) := by decide +kernel
theorem dX11_addExercise_97 : decode cX11_addExercise 97 = .ok (.getfield 497, 3) := by decide +kernel
theorem dX11_addExercise_100 : decode cX11_addExercise 100 = .ok (.iconst 1, 1) := by decide +kernel
theorem dX11_addExercise_101 : decode cX11_addExercise 101 = .ok (.isub, 1) := by decide +kernel
theorem dX11_addExercise_102 : decode cX11_addExercise 102 = .ok (.ireturn, 1) := by decide +kernel
theorem dX11_tests_0 : decode cX11_tests 0 = .ok (.bipush 8, 2) := by decide +kernel
theorem dX11_tests_2 : decode cX11_tests 2 = .ok (.aload_n 0, 1) := by decide +kernel
theorem dX11_tests_3 : decode cX11_tests 3 = .ok (.getfield 150, 3) := by decide +kernel
theorem dX11_tests_6 : decode cX11_tests 6 = .ok (.iload_n 1, 1) := by decide +kernel
theorem dX11_tests_7 : decode cX11_tests 7 = .ok (.iaload, 1) := by decide +kernel
theorem dX11_tests_8 : decode cX11_tests 8 = .ok (.imul, 1) := by decide +kernel
theorem dX11_tests_9 : decode cX11_tests 9 = .ok (.iload_n 2, 1) := by decide +kernel
theorem dX11_tests_10 : decode cX11_tests 10 = .ok (.iadd, 1) := by decide +kernel
theorem dX11_tests_11 : decode cX11_tests 11 = .ok (.istore_n 3, 1) := by decide +kernel
theorem dX11_tests_12 : decode cX11_tests 12 = .ok (.aload_n 0, 1) := by decide +kernel
theorem dX11_tests_13 : decode cX11_tests 13 = .ok (.aload_n 0, 1) := by decide +kernel
theorem dX11_tests_14 : decode cX11_tests 14 = .ok (.getfield 120, 3) := by decide +kernel
theorem dX11_tests_17 : decode cX11_tests 17 = .ok (.aload_n 0, 1) := by decide +kernel
theorem dX11_tests_18 : decode cX11_tests 18 = .ok (.getfield 150, 3) := by decide +kernel
theorem dX11_tests_21 : decode cX11_tests 21 = .ok (.iload_n 1, 1) := by decide +kernel
theorem dX11_tests_22 : decode cX11_tests 22 = .ok (.iaload, 1) := by decide +kernel
theorem dX11_tests_23 : decode cX11_tests 23 = .ok (.iaload, 1) := by decide +kernel
theorem dX11_tests_24 : decode cX11_tests 24 = .ok (.aload_n 0, 1) := by decide +kernel
theorem dX11_tests_25 : decode cX11_tests 25 = .ok (.getfield 132, 3) := by decide +kernel
theorem dX11_tests_28 : decode cX11_tests 28 = .ok (.iconst 2, 1) := by decide +kernel
theorem dX11_tests_29 : decode cX11_tests 29 = .ok (.iload_n 3, 1) := by decide +kernel
theorem dX11_tests_30 : decode cX11_tests 30 = .ok (.imul, 1) := by decide +kernel
theorem dX11_tests_31 : decode cX11_tests 31 = .ok (.iaload, 1) := by decide +kernel
theorem dX11_tests_32 : decode cX11_tests 32 = .ok (.aload_n 0, 1) := by decide +kernel
theorem dX11_tests_33 : decode cX11_tests 33 = .ok (.getfield 132, 3) := by decide +kernel
theorem dX11_tests_36 : decode cX11_tests 36 = .ok (.iconst 2, 1) := by decide +kernel
theorem dX11_tests_37 : decode cX11_tests 37 = .ok (.iload_n 3, 1) := by decide +kernel
theorem dX11_tests_38 : decode cX11_tests 38 = .ok (.imul, 1) := by decide +kernel
theorem dX11_tests_39 : decode cX11_tests 39 = .ok (.iconst 1, 1) := by decide +kernel
theorem dX11_tests_40 : decode cX11_tests 40 = .ok (.iadd, 1) := by decide +kernel
theorem dX11_tests_41 : decode cX11_tests 41 = .ok (.iaload, 1) := by decide +kernel
theorem dX11_tests_42 : decode cX11_tests 42 = .ok (.invokevirtual 484, 3) := by decide +kernel
theorem dX11_tests_45 : decode cX11_tests 45 = .ok (.aload_n 0, 1) := by decide +kernel
theorem dX11_tests_46 : decode cX11_tests 46 = .ok (.getfield 413, 3) := by decide +kernel
theorem dX11_tests_49 : decode cX11_tests 49 = .ok (.ifCond .ne 20, 3) := by decide +kernel
theorem dX11_tests_52 : decode cX11_tests 52 = .ok (.aload_n 0, 1) := by decide +kernel
theorem dX11_tests_53 : decode cX11_tests 53 = .ok (.getfield 440, 3) := by decide +kernel
theorem dX11_tests_56 : decode cX11_tests 56 = .ok (.aload_n 0, 1) := by decide +kernel
theorem dX11_tests_57 : decode cX11_tests 57 = .ok (.getfield 135, 3) := by decide +kernel
theorem dX11_tests_60 : decode cX11_tests 60 = .ok (.iload_n 3, 1) := by decide +kernel
theorem dX11_tests_61 : decode cX11_tests 61 = .ok (.iaload, 1) := by decide +kernel
theorem dX11_tests_62 : decode cX11_tests 62 = .ok (.if_icmp .ne 7, 3) := by decide +kernel
theorem dX11_tests_65 : decode cX11_tests 65 = .ok (.iconst 1, 1) := by decide +kernel
theorem dX11_tests_66 : decode cX11_tests 66 = .ok (.goto 4, 3) := by decide +kernel
theorem dX11_tests_69 : decode cX11_tests 69 = .ok (.iconst 0, 1) := by decide +kernel
theorem dX11_tests_70 : decode cX11_tests 70 = .ok (.istore 4, 2) := by decide +kernel
theorem dX11_tests_72 : decode cX11_tests 72 = .ok (.iconst 0, 1) := by decide +kernel
theorem dX11_tests_73 : decode cX11_tests 73 = .ok (.istore 5, 2) := by decide +kernel
theorem dX11_tests_75 : decode cX11_tests 75 = .ok (.iload 5, 2) := by decide +kernel
theorem dX11_tests_77 : decode cX11_tests 77 = .ok (.aload_n 0, 1) := by decide +kernel
theorem dX11_tests_78 : decode cX11_tests 78 = .ok (.getfield 135, 3) := by decide +kernel
theorem dX11_tests_81 : decode cX11_tests 81 = .ok (.iload_n 3, 1) := by decide +kernel
theorem dX11_tests_82 : decode cX11_tests 82 = .ok (.iaload, 1) := by decide +kernel
theorem dX11_tests_83 : decode cX11_tests 83 = .ok (.if_icmp .ge 42, 3) := by decide +kernel
theorem dX11_tests_86 : decode cX11_tests 86 = .ok (.iload 4, 2) := by decide +kernel
theorem dX11_tests_88 : decode cX11_tests 88 = .ok (.ifCond .eq 37, 3) := by decide +kernel
theorem dX11_tests_91 : decode cX11_tests 91 = .ok (.aload_n 0, 1) := by decide +kernel
theorem dX11_tests_92 : decode cX11_tests 92 = .ok (.getfield 108, 3) := by decide +kernel
theorem dX11_tests_95 : decode cX11_tests 95 = .ok (.iload 5, 2) := by decide +kernel
theorem dX11_tests_97 : decode cX11_tests 97 = .ok (.iaload, 1) := by decide +kernel
theorem dX11_tests_98 : decode cX11_tests 98 = .ok (.aload_n 0, 1) := by decide +kernel
theorem dX11_tests_99 : decode cX11_tests 99 = .ok (.getfield 138, 3) := by decide +kernel
theorem dX11_tests_102 : decode cX11_tests 102 = .ok (.iconst 2, 1) := by decide +kernel
theorem dX11_tests_103 : decode cX11_tests 103 = .ok (.iload_n 3, 1) := by decide +kernel
theorem dX11_tests_104 : decode cX11_tests 104 = .ok (.imul, 1) := by decide +kernel
theorem dX11_tests_105 : decode cX11_tests 105 = .ok (.iload 5, 2) := by decide +kernel
theorem dX11_tests_107 : decode cX11_tests 107 = .ok (.iadd, 1) := by decide +kernel
theorem dX11_tests_108 : decode cX11_tests 108 = .ok (.iaload, 1) := by decide +kernel
theorem dX11_tests_109 : decode cX11_tests 109 = .ok (.if_icmp .ne 7, 3) := by decide +kernel
theorem dX11_tests_112 : decode cX11_tests 112 = .ok (.iconst 1, 1) := by decide +kernel
theorem dX11_tests_113 : decode cX11_tests 113 = .ok (.goto 4, 3) := by decide +kernel
theorem dX11_tests_116 : decode cX11_tests 116 = .ok (.iconst 0, 1) := by decide +kernel
theorem dX11_tests_117 : decode cX11_tests 117 = .ok (.istore 4, 2) := by decide +kernel
theorem dX11_tests_119 : decode cX11_tests 119 = .ok (.iinc 5 1, 3) := by decide +kernel
theorem dX11_tests_122 : decode cX11_tests 122 = .ok (.goto (-47), 3) := by decide +kernel
theorem dX11_tests_125 : decode cX11_tests 125 = .ok (.aload_n 0, 1) := by decide +kernel
theorem dX11_tests_126 : decode cX11_tests 126 = .ok (.getfield 159, 3) := by decide +kernel
theorem dX11_tests_129 : decode cX11_tests 129 = .ok (.bipush 8, 2) := by decide +kernel
theorem dX11_tests_131 : decode cX11_tests 131 = .ok (.iload_n 1, 1) := by decide +kernel
theorem dX11_tests_132 : decode cX11_tests 132 = .ok (.imul, 1) := by decide +kernel
theorem dX11_tests_133 : decode cX11_tests 133 = .ok (.iload_n 2, 1) := by decide +kernel
theorem dX11_tests_134 : decode cX11_tests 134 = .ok (.iadd, 1) := by decide +kernel
theorem dX11_tests_135 : decode cX11_tests 135 = .ok (.aload_n 0, 1) := by decide +kernel
theorem dX11_tests_136 : decode cX11_tests 136 = .ok (.getfield 413, 3) := by decide +kernel
theorem dX11_tests_139 : decode cX11_tests 139 = .ok (.iastore, 1) := by decide +kernel
theorem dX11_tests_140 : decode cX11_tests 140 = .ok (.aload_n 0, 1) := by decide +kernel
theorem dX11_tests_141 : decode cX11_tests 141 = .ok (.getfield 162, 3) := by decide +kernel
theorem dX11_tests_144 : decode cX11_tests 144 = .ok (.bipush 8, 2) := by decide +kernel
theorem dX11_tests_146 : decode cX11_tests 146 = .ok (.iload_n 1, 1) := by decide +kernel
theorem dX11_tests_147 : decode cX11_tests 147 = .ok (.imul, 1) := by decide +kernel
theorem dX11_tests_148 : decode cX11_tests 148 = .ok (.iload_n 2, 1) := by decide +kernel
theorem dX11_tests_149 : decode cX11_tests 149 = .ok (.iadd, 1) := by decide +kernel
theorem dX11_tests_150 : decode cX11_tests 150 = .ok (.iload 4, 2) := by decide +kernel
theorem dX11_tests_152 : decode cX11_tests 152 = .ok (.bastore, 1) := by decide +kernel
theorem dX11_tests_153 : decode cX11_tests 153 = .ok (.return_, 1) := by decide +kernel
theorem dX11_addTest_0 : decode cX11_addTest 0 = .ok (.aload_n 0, 1) := by decide +kernel
theorem dX11_addTest_1 : decode cX11_addTest 1 = .ok (.iload_n 1, 1) := by decide +kernel
theorem dX11_addTest_2 : decode cX11_addTest 2 = .ok (.invokevirtual 500, 3) := by decide +kernel
theorem dX11_addTest_5 : decode cX11_addTest 5 = .ok (.istore 8, 2) := by decide +kernel
theorem dX11_addTest_7 : decode cX11_addTest 7 = .ok (.aload_n 0, 1) := by decide +kernel
theorem dX11_addTest_8 : decode cX11_addTest 8 = .ok (.iload 8, 2) := by decide +kernel
theorem dX11_addTest_10 : decode cX11_addTest 10 = .ok (.iload_n 2, 1) := by decide +kernel
theorem dX11_addTest_11 : decode cX11_addTest 11 = .ok (.i2l, 1) := by decide +kernel
theorem dX11_addTest_12 : decode cX11_addTest 12 = .ok (.lconst 1, 1) := by decide +kernel
theorem dX11_addTest_13 : decode cX11_addTest 13 = .ok (.ldc2_w 169, 3) := by decide +kernel
theorem dX11_addTest_16 : decode cX11_addTest 16 = .ok (.invokestatic 175, 3) := by decide +kernel
theorem dX11_addTest_19 : decode cX11_addTest 19 = .ok (.ifCond .eq 20, 3) := by decide +kernel
theorem dX11_addTest_22 : decode cX11_addTest 22 = .ok (.iload 5, 2) := by decide +kernel
theorem dX11_addTest_24 : decode cX11_addTest 24 = .ok (.i2l, 1) := by decide +kernel
theorem dX11_addTest_25 : decode cX11_addTest 25 = .ok (.lconst 0, 1) := by decide +kernel
theorem dX11_addTest_26 : decode cX11_addTest 26 = .ok (.ldc2_w 510, 3) := by decide +kernel
theorem dX11_addTest_29 : decode cX11_addTest 29 = .ok (.invokestatic 175, 3) := by decide +kernel
theorem dX11_addTest_32 : decode cX11_addTest 32 = .ok (.ifCond .eq 7, 3) := by decide +kernel
theorem dX11_addTest_35 : decode cX11_addTest 35 = .ok (.iconst 1, 1) := by decide +kernel
theorem dX11_addTest_36 : decode cX11_addTest 36 = .ok (.goto 4, 3) := by decide +kernel
theorem dX11_addTest_39 : decode cX11_addTest 39 = .ok (.iconst 0, 1) := by decide +kernel
theorem dX11_addTest_40 : decode cX11_addTest 40 = .ok (.iload 8, 2) := by decide +kernel
theorem dX11_addTest_42 : decode cX11_addTest 42 = .ok (.ifCond .eq 18, 3) := by decide +kernel
theorem dX11_addTest_45 : decode cX11_addTest 45 = .ok (.aload_n 0, 1) := by decide +kernel
theorem dX11_addTest_46 : decode cX11_addTest 46 = .ok (.getfield 126, 3) := by decide +kernel
theorem dX11_addTest_49 : decode cX11_addTest 49 = .ok (.iload_n 1, 1) := by decide +kernel
theorem dX11_addTest_50 : decode cX11_addTest 50 = .ok (.iaload, 1) := by decide +kernel
theorem dX11_addTest_51 : decode cX11_addTest 51 = .ok (.bipush 8, 2) := by decide +kernel
theorem dX11_addTest_53 : decode cX11_addTest 53 = .ok (.if_icmp .ge 7, 3) := by decide +kernel
theorem dX11_addTest_56 : decode cX11_addTest 56 = .ok (.iconst 1, 1) := by decide +kernel
theorem dX11_addTest_57 : decode cX11_addTest 57 = .ok (.goto 4, 3) := by decide +kernel
theorem dX11_addTest_60 : decode cX11_addTest 60 = .ok (.iconst 0, 1) := by decide +kernel
theorem dX11_addTest_61 : decode cX11_addTest 61 = .ok (.invokevirtual 185, 3) := by decide +kernel
theorem dX11_addTest_64 : decode cX11_addTest 64 = .ok (.ifCond .ne 5, 3) := by decide +kernel
theorem dX11_addTest_67 : decode cX11_addTest 67 = .ok (.iconst 0, 1) := by decide +kernel
theorem dX11_addTest_68 : decode cX11_addTest 68 = .ok (.ireturn, 1) := by decide +kernel
theorem dX11_addTest_69 : decode cX11_addTest 69 = .ok (.aload_n 0, 1) := by decide +kernel
theorem dX11_addTest_70 : decode cX11_addTest 70 = .ok (.getfield 126, 3) := by decide +kernel
theorem dX11_addTest_73 : decode cX11_addTest 73 = .ok (.iload_n 1, 1) := by decide +kernel
theorem dX11_addTest_74 : decode cX11_addTest 74 = .ok (.iaload, 1) := by decide +kernel
theorem dX11_addTest_75 : decode cX11_addTest 75 = .ok (.istore 9, 2) := by decide +kernel
theorem dX11_addTest_77 : decode cX11_addTest 77 = .ok (.bipush 8, 2) := by decide +kernel
theorem dX11_addTest_79 : decode cX11_addTest 79 = .ok (.iload_n 1, 1) := by decide +kernel
theorem dX11_addTest_80 : decode cX11_addTest 80 = .ok (.imul, 1) := by decide +kernel
theorem dX11_addTest_81 : decode cX11_addTest 81 = .ok (.iload 9, 2) := by decide +kernel
theorem dX11_addTest_83 : decode cX11_addTest 83 = .ok (.iadd, 1) := by decide +kernel
theorem dX11_addTest_84 : decode cX11_addTest 84 = .ok (.istore 10, 2) := by decide +kernel
theorem dX11_addTest_86 : decode cX11_addTest 86 = .ok (.aload_n 0, 1) := by decide +kernel
theorem dX11_addTest_87 : decode cX11_addTest 87 = .ok (.getfield 129, 3) := by decide +kernel
theorem dX11_addTest_90 : decode cX11_addTest 90 = .ok (.iload 10, 2) := by decide +kernel
theorem dX11_addTest_92 : decode cX11_addTest 92 = .ok (.iload_n 2, 1) := by decide +kernel
theorem dX11_addTest_93 : decode cX11_addTest 93 = .ok (.iastore, 1) := by decide +kernel
theorem dX11_addTest_94 : decode cX11_addTest 94 = .ok (.aload_n 0, 1) := by decide +kernel
theorem dX11_addTest_95 : decode cX11_addTest 95 = .ok (.getfield 132, 3) := by decide +kernel
theorem dX11_addTest_98 : decode cX11_addTest 98 = .ok (.iconst 2, 1) := by decide +kernel
theorem dX11_addTest_99 : decode cX11_addTest 99 = .ok (.iload 10, 2) := by decide +kernel
theorem dX11_addTest_101 : decode cX11_addTest 101 = .ok (.imul, 1) := by decide +kernel
theorem dX11_addTest_102 : decode cX11_addTest 102 = .ok (.iload_n 3, 1) := by decide +kernel
theorem dX11_addTest_103 : decode cX11_addTest 103 = .ok (.iastore, 1) := by decide +kernel
theorem dX11_addTest_104 : decode cX11_addTest 104 = .ok (.aload_n 0, 1) := by decide +kernel
theorem dX11_addTest_105 : decode cX11_addTest 105 = .ok (.getfield 132, 3) := by decide +kernel
theorem dX11_addTest_108 : decode cX11_addTest 108 = .ok (.iconst 2, 1) := by decide +kernel
theorem dX11_addTest_109 : decode cX11_addTest 109 = .ok (.iload 10, 2) := by decide +kernel
theorem dX11_addTest_111 : decode cX11_addTest 111 = .ok (.imul, 1) := by decide +kernel
theorem dX11_addTest_112 : decode cX11_addTest 112 = .ok (.iconst 1, 1) := by decide +kernel
theorem dX11_addTest_113 : decode cX11_addTest 113 = .ok (.iadd, 1) := by decide +kernel
theorem dX11_addTest_114 : decode cX11_addTest 114 = .ok (.iload 4, 2) := by decide +kernel
theorem dX11_addTest_116 : decode cX11_addTest 116 = .ok (.iastore, 1) := by decide +kernel
theorem dX11_addTest_117 : decode cX11_addTest 117 = .ok (.aload_n 0, 1) := by decide +kernel
theorem dX11_addTest_118 : decode cX11_addTest 118 = .ok (.getfield 135, 3) := by decide +kernel
theorem dX11_addTest_121 : decode cX11_addTest 121 = .ok (.iload 10, 2) := by decide +kernel
theorem dX11_addTest_123 : decode cX11_addTest 123 = .ok (.iload 5, 2) := by decide +kernel
theorem dX11_addTest_125 : decode cX11_addTest 125 = .ok (.iastore, 1) := by decide +kernel
theorem dX11_addTest_126 : decode cX11_addTest 126 = .ok (.aload_n 0, 1) := by decide +kernel
theorem dX11_addTest_127 : decode cX11_addTest 127 = .ok (.getfield 138, 3) := by decide +kernel
theorem dX11_addTest_130 : decode cX11_addTest 130 = .ok (.iconst 2, 1) := by decide +kernel
theorem dX11_addTest_131 : decode cX11_addTest 131 = .ok (.iload 10, 2) := by decide +kernel
theorem dX11_addTest_133 : decode cX11_addTest 133 = .ok (.imul, 1) := by decide +kernel
theorem dX11_addTest_134 : decode cX11_addTest 134 = .ok (.iload 6, 2) := by decide +kernel
theorem dX11_addTest_136 : decode cX11_addTest 136 = .ok (.iastore, 1) := by decide +kernel
theorem dX11_addTest_137 : decode cX11_addTest 137 = .ok (.aload_n 0, 1) := by decide +kernel
theorem dX11_addTest_138 : decode cX11_addTest 138 = .ok (.getfield 138, 3) := by decide +kernel
theorem dX11_addTest_141 : decode cX11_addTest 141 = .ok (.iconst 2, 1) := by decide +kernel
theorem dX11_addTest_142 : decode cX11_addTest 142 = .ok (.iload 10, 2) := by decide +kernel
theorem dX11_addTest_144 : decode cX11_addTest 144 = .ok (.imul, 1) := by decide +kernel
theorem dX11_addTest_145 : decode cX11_addTest 145 = .ok (.iconst 1, 1) := by decide +kernel
theorem dX11_addTest_146 : decode cX11_addTest 146 = .ok (.iadd, 1) := by decide +kernel
theorem dX11_addTest_147 : decode cX11_addTest 147 = .ok (.iload 7, 2) := by decide +kernel
theorem dX11_addTest_149 : decode cX11_addTest 149 = .ok (.iastore, 1) := by decide +kernel
theorem dX11_addTest_150 : decode cX11_addTest 150 = .ok (.aload_n 0, 1) := by decide +kernel
theorem dX11_addTest_151 : decode cX11_addTest 151 = .ok (.getfield 141, 3) := by decide +kernel
theorem dX11_addTest_154 : decode cX11_addTest 154 = .ok (.iload 10, 2) := by decide +kernel
theorem dX11_addTest_156 : decode cX11_addTest 156 = .ok (.iconst 0, 1) := by decide +kernel
theorem dX11_addTest_157 : decode cX11_addTest 157 = .ok (.bastore, 1) := by decide +kernel
theorem dX11_addTest_158 : decode cX11_addTest 158 = .ok (.aload_n 0, 1) := by decide +kernel
theorem dX11_addTest_159 : decode cX11_addTest 159 = .ok (.getfield 126, 3) := by decide +kernel
theorem dX11_addTest_162 : decode cX11_addTest 162 = .ok (.iload_n 1, 1) := by decide +kernel
theorem dX11_addTest_163 : decode cX11_addTest 163 = .ok (.dup2, 1) := by decide +kernel
theorem dX11_addTest_164 : decode cX11_addTest 164 = .ok (.iaload, 1) := by decide +kernel
theorem dX11_addTest_165 : decode cX11_addTest 165 = .ok (.iconst 1, 1) := by decide +kernel
theorem dX11_addTest_166 : decode cX11_addTest 166 = .ok (.iadd, 1) := by decide +kernel
theorem dX11_addTest_167 : decode cX11_addTest 167 = .ok (.iastore, 1) := by decide +kernel
theorem dX11_addTest_168 : decode cX11_addTest 168 = .ok (.iconst 0, 1) := by decide +kernel
theorem dX11_addTest_169 : decode cX11_addTest 169 = .ok (.istore 11, 2) := by decide +kernel
theorem dX11_addTest_171 : decode cX11_addTest 171 = .ok (.iload 11, 2) := by decide +kernel
theorem dX11_addTest_173 : decode cX11_addTest 173 = .ok (.aload_n 0, 1) := by decide +kernel
theorem dX11_addTest_174 : decode cX11_addTest 174 = .ok (.getfield 512, 3) := by decide +kernel
theorem dX11_addTest_177 : decode cX11_addTest 177 = .ok (.if_icmp .ge 34, 3) := by decide +kernel
theorem dX11_addTest_180 : decode cX11_addTest 180 = .ok (.aload_n 0, 1) := by decide +kernel
theorem dX11_addTest_181 : decode cX11_addTest 181 = .ok (.getfield 150, 3) := by decide +kernel
theorem dX11_addTest_184 : decode cX11_addTest 184 = .ok (.iload 11, 2) := by decide +kernel
theorem dX11_addTest_186 : decode cX11_addTest 186 = .ok (.iaload, 1) := by decide +kernel
theorem dX11_addTest_187 : decode cX11_addTest 187 = .ok (.iload_n 1, 1) := by decide +kernel
theorem dX11_addTest_188 : decode cX11_addTest 188 = .ok (.if_icmp .ne 17, 3) := by decide +kernel
theorem dX11_addTest_191 : decode cX11_addTest 191 = .ok (.aload_n 0, 1) := by decide +kernel
theorem dX11_addTest_192 : decode cX11_addTest 192 = .ok (.iload 11, 2) := by decide +kernel
theorem dX11_addTest_194 : decode cX11_addTest 194 = .ok (.invokevirtual 515, 3) := by decide +kernel
theorem dX11_addTest_197 : decode cX11_addTest 197 = .ok (.aload_n 0, 1) := by decide +kernel
theorem dX11_addTest_198 : decode cX11_addTest 198 = .ok (.iload 11, 2) := by decide +kernel
theorem dX11_addTest_200 : decode cX11_addTest 200 = .ok (.iload 9, 2) := by decide +kernel
theorem dX11_addTest_202 : decode cX11_addTest 202 = .ok (.invokevirtual 518, 3) := by decide +kernel
theorem dX11_addTest_205 : decode cX11_addTest 205 = .ok (.iinc 11 1, 3) := by decide +kernel
theorem dX11_addTest_208 : decode cX11_addTest 208 = .ok (.goto (-37), 3) := by decide +kernel
theorem dX11_addTest_211 : decode cX11_addTest 211 = .ok (.iload 9, 2) := by decide +kernel
theorem dX11_addTest_213 : decode cX11_addTest 213 = .ok (.ireturn, 1) := by decide +kernel
theorem dX11_withdraw_0 : decode cX11_withdraw 0 = .ok (.aload_n 0, 1) := by decide +kernel
theorem dX11_withdraw_1 : decode cX11_withdraw 1 = .ok (.iload_n 1, 1) := by decide +kernel
theorem dX11_withdraw_2 : decode cX11_withdraw 2 = .ok (.iload_n 2, 1) := by decide +kernel
theorem dX11_withdraw_3 : decode cX11_withdraw 3 = .ok (.invokevirtual 520, 3) := by decide +kernel
theorem dX11_withdraw_6 : decode cX11_withdraw 6 = .ok (.istore_n 3, 1) := by decide +kernel
theorem dX11_withdraw_7 : decode cX11_withdraw 7 = .ok (.aload_n 0, 1) := by decide +kernel
theorem dX11_withdraw_8 : decode cX11_withdraw 8 = .ok (.iload_n 3, 1) := by decide +kernel
theorem dX11_withdraw_9 : decode cX11_withdraw 9 = .ok (.iload_n 3, 1) := by decide +kernel
theorem dX11_withdraw_10 : decode cX11_withdraw 10 = .ok (.ifCond .eq 21, 3) := by decide +kernel
theorem dX11_withdraw_13 : decode cX11_withdraw 13 = .ok (.aload_n 0, 1) := by decide +kernel
theorem dX11_withdraw_14 : decode cX11_withdraw 14 = .ok (.getfield 141, 3) := by decide +kernel
theorem dX11_withdraw_17 : decode cX11_withdraw 17 = .ok (.bipush 8, 2) := by decide +kernel
theorem dX11_withdraw_19 : decode cX11_withdraw 19 = .ok (.iload_n 1, 1) := by decide +kernel
theorem dX11_withdraw_20 : decode cX11_withdraw 20 = .ok (.imul, 1) := by decide +kernel
theorem dX11_withdraw_21 : decode cX11_withdraw 21 = .ok (.iload_n 2, 1) := by decide +kernel
theorem dX11_withdraw_22 : decode cX11_withdraw 22 = .ok (.iadd, 1) := by decide +kernel
theorem dX11_withdraw_23 : decode cX11_withdraw 23 = .ok (.baload, 1) := by decide +kernel
theorem dX11_withdraw_24 : decode cX11_withdraw 24 = .ok (.ifCond .ne 7, 3) := by decide +kernel
theorem dX11_withdraw_27 : decode cX11_withdraw 27 = .ok (.iconst 1, 1) := by decide +kernel
theorem dX11_withdraw_28 : decode cX11_withdraw 28 = .ok (.goto 4, 3) := by decide +kernel
theorem dX11_withdraw_31 : decode cX11_withdraw 31 = .ok (.iconst 0, 1) := by decide +kernel
theorem dX11_withdraw_32 : decode cX11_withdraw 32 = .ok (.iconst 1, 1) := by decide +kernel
theorem dX11_withdraw_33 : decode cX11_withdraw 33 = .ok (.invokevirtual 185, 3) := by decide +kernel
theorem dX11_withdraw_36 : decode cX11_withdraw 36 = .ok (.ifCond .ne 5, 3) := by decide +kernel
theorem dX11_withdraw_39 : decode cX11_withdraw 39 = .ok (.iconst 0, 1) := by decide +kernel
theorem dX11_withdraw_40 : decode cX11_withdraw 40 = .ok (.ireturn, 1) := by decide +kernel
theorem dX11_withdraw_41 : decode cX11_withdraw 41 = .ok (.iconst 0, 1) := by decide +kernel
theorem dX11_withdraw_42 : decode cX11_withdraw 42 = .ok (.istore 4, 2) := by decide +kernel
theorem dX11_withdraw_44 : decode cX11_withdraw 44 = .ok (.iconst 0, 1) := by decide +kernel
theorem dX11_withdraw_45 : decode cX11_withdraw 45 = .ok (.istore 5, 2) := by decide +kernel
theorem dX11_withdraw_47 : decode cX11_withdraw 47 = .ok (.iload 5, 2) := by decide +kernel
theorem dX11_withdraw_49 : decode cX11_withdraw 49 = .ok (.aload_n 0, 1) := by decide +kernel
theorem dX11_withdraw_50 : decode cX11_withdraw 50 = .ok (.getfield 512, 3) := by decide +kernel
theorem dX11_withdraw_53 : decode cX11_withdraw 53 = .ok (.if_icmp .ge 73, 3) := by decide +kernel
theorem dX11_withdraw_56 : decode cX11_withdraw 56 = .ok (.aload_n 0, 1) := by decide +kernel
theorem dX11_withdraw_57 : decode cX11_withdraw 57 = .ok (.getfield 150, 3) := by decide +kernel
theorem dX11_withdraw_60 : decode cX11_withdraw 60 = .ok (.iload 5, 2) := by decide +kernel
theorem dX11_withdraw_62 : decode cX11_withdraw 62 = .ok (.iaload, 1) := by decide +kernel
theorem dX11_withdraw_63 : decode cX11_withdraw 63 = .ok (.iload_n 1, 1) := by decide +kernel
theorem dX11_withdraw_64 : decode cX11_withdraw 64 = .ok (.if_icmp .ne 56, 3) := by decide +kernel
theorem dX11_withdraw_67 : decode cX11_withdraw 67 = .ok (.aload_n 0, 1) := by decide +kernel
theorem dX11_withdraw_68 : decode cX11_withdraw 68 = .ok (.iload 5, 2) := by decide +kernel
theorem dX11_withdraw_70 : decode cX11_withdraw 70 = .ok (.invokevirtual 523, 3) := by decide +kernel
theorem dX11_withdraw_73 : decode cX11_withdraw 73 = .ok (.istore 6, 2) := by decide +kernel
theorem dX11_withdraw_75 : decode cX11_withdraw 75 = .ok (.aload_n 0, 1) := by decide +kernel
theorem dX11_withdraw_76 : decode cX11_withdraw 76 = .ok (.getfield 141, 3) := by decide +kernel
theorem dX11_withdraw_79 : decode cX11_withdraw 79 = .ok (.bipush 8, 2) := by decide +kernel
theorem dX11_withdraw_81 : decode cX11_withdraw 81 = .ok (.iload_n 1, 1) := by decide +kernel
theorem dX11_withdraw_82 : decode cX11_withdraw 82 = .ok (.imul, 1) := by decide +kernel
theorem dX11_withdraw_83 : decode cX11_withdraw 83 = .ok (.iload_n 2, 1) := by decide +kernel
theorem dX11_withdraw_84 : decode cX11_withdraw 84 = .ok (.iadd, 1) := by decide +kernel
theorem dX11_withdraw_85 : decode cX11_withdraw 85 = .ok (.iconst 1, 1) := by decide +kernel
theorem dX11_withdraw_86 : decode cX11_withdraw 86 = .ok (.bastore, 1) := by decide +kernel
theorem dX11_withdraw_87 : decode cX11_withdraw 87 = .ok (.iload 4, 2) := by decide +kernel
theorem dX11_withdraw_89 : decode cX11_withdraw 89 = .ok (.aload_n 0, 1) := by decide +kernel
theorem dX11_withdraw_90 : decode cX11_withdraw 90 = .ok (.iload 5, 2) := by decide +kernel
theorem dX11_withdraw_92 : decode cX11_withdraw 92 = .ok (.invokevirtual 523, 3) := by decide +kernel
theorem dX11_withdraw_95 : decode cX11_withdraw 95 = .ok (.iload 6, 2) := by decide +kernel
theorem dX11_withdraw_97 : decode cX11_withdraw 97 = .ok (.if_icmp .ne 7, 3) := by decide +kernel
theorem dX11_withdraw_100 : decode cX11_withdraw 100 = .ok (.iconst 0, 1) := by decide +kernel
theorem dX11_withdraw_101 : decode cX11_withdraw 101 = .ok (.goto 4, 3) := by decide +kernel
theorem dX11_withdraw_104 : decode cX11_withdraw 104 = .ok (.iconst 1, 1) := by decide +kernel
theorem dX11_withdraw_105 : decode cX11_withdraw 105 = .ok (.iadd, 1) := by decide +kernel
theorem dX11_withdraw_106 : decode cX11_withdraw 106 = .ok (.istore 4, 2) := by decide +kernel
theorem dX11_withdraw_108 : decode cX11_withdraw 108 = .ok (.aload_n 0, 1) := by decide +kernel
theorem dX11_withdraw_109 : decode cX11_withdraw 109 = .ok (.getfield 141, 3) := by decide +kernel
theorem dX11_withdraw_112 : decode cX11_withdraw 112 = .ok (.bipush 8, 2) := by decide +kernel
theorem dX11_withdraw_114 : decode cX11_withdraw 114 = .ok (.iload_n 1, 1) := by decide +kernel
theorem dX11_withdraw_115 : decode cX11_withdraw 115 = .ok (.imul, 1) := by decide +kernel
theorem dX11_withdraw_116 : decode cX11_withdraw 116 = .ok (.iload_n 2, 1) := by decide +kernel
theorem dX11_withdraw_117 : decode cX11_withdraw 117 = .ok (.iadd, 1) := by decide +kernel
theorem dX11_withdraw_118 : decode cX11_withdraw 118 = .ok (.iconst 0, 1) := by decide +kernel
theorem dX11_withdraw_119 : decode cX11_withdraw 119 = .ok (.bastore, 1) := by decide +kernel
theorem dX11_withdraw_120 : decode cX11_withdraw 120 = .ok (.iinc 5 1, 3) := by decide +kernel
theorem dX11_withdraw_123 : decode cX11_withdraw 123 = .ok (.goto (-76), 3) := by decide +kernel
theorem dX11_withdraw_126 : decode cX11_withdraw 126 = .ok (.aload_n 0, 1) := by decide +kernel
theorem dX11_withdraw_127 : decode cX11_withdraw 127 = .ok (.getfield 141, 3) := by decide +kernel
theorem dX11_withdraw_130 : decode cX11_withdraw 130 = .ok (.bipush 8, 2) := by decide +kernel
theorem dX11_withdraw_132 : decode cX11_withdraw 132 = .ok (.iload_n 1, 1) := by decide +kernel
theorem dX11_withdraw_133 : decode cX11_withdraw 133 = .ok (.imul, 1) := by decide +kernel
theorem dX11_withdraw_134 : decode cX11_withdraw 134 = .ok (.iload_n 2, 1) := by decide +kernel
theorem dX11_withdraw_135 : decode cX11_withdraw 135 = .ok (.iadd, 1) := by decide +kernel
theorem dX11_withdraw_136 : decode cX11_withdraw 136 = .ok (.iconst 1, 1) := by decide +kernel
theorem dX11_withdraw_137 : decode cX11_withdraw 137 = .ok (.bastore, 1) := by decide +kernel
theorem dX11_withdraw_138 : decode cX11_withdraw 138 = .ok (.iload 4, 2) := by decide +kernel
theorem dX11_withdraw_140 : decode cX11_withdraw 140 = .ok (.ireturn, 1) := by decide +kernel
theorem dX11_pass_0 : decode cX11_pass 0 = .ok (.iload_n 1, 1) := by decide +kernel
theorem dX11_pass_1 : decode cX11_pass 1 = .ok (.i2l, 1) := by decide +kernel
theorem dX11_pass_2 : decode cX11_pass 2 = .ok (.lconst 1, 1) := by decide +kernel
theorem dX11_pass_3 : decode cX11_pass 3 = .ok (.ldc2_w 526, 3) := by decide +kernel
theorem dX11_pass_6 : decode cX11_pass 6 = .ok (.invokestatic 175, 3) := by decide +kernel
theorem dX11_pass_9 : decode cX11_pass 9 = .ok (.istore_n 2, 1) := by decide +kernel
theorem dX11_pass_10 : decode cX11_pass 10 = .ok (.aload_n 0, 1) := by decide +kernel
theorem dX11_pass_11 : decode cX11_pass 11 = .ok (.iload_n 2, 1) := by decide +kernel
theorem dX11_pass_12 : decode cX11_pass 12 = .ok (.iload_n 2, 1) := by decide +kernel
theorem dX11_pass_13 : decode cX11_pass 13 = .ok (.ifCond .eq 19, 3) := by decide +kernel
theorem dX11_pass_16 : decode cX11_pass 16 = .ok (.aload_n 0, 1) := by decide +kernel
theorem dX11_pass_17 : decode cX11_pass 17 = .ok (.getfield 505, 3) := by decide +kernel
theorem dX11_pass_20 : decode cX11_pass 20 = .ok (.iload_n 1, 1) := by decide +kernel
theorem dX11_pass_21 : decode cX11_pass 21 = .ok (.iadd, 1) := by decide +kernel
theorem dX11_pass_22 : decode cX11_pass 22 = .ok (.sipush 1000, 3) := by decide +kernel
theorem dX11_pass_25 : decode cX11_pass 25 = .ok (.if_icmp .gt 7, 3) := by decide +kernel
theorem dX11_pass_28 : decode cX11_pass 28 = .ok (.iconst 1, 1) := by decide +kernel
theorem dX11_pass_29 : decode cX11_pass 29 = .ok (.goto 4, 3) := by decide +kernel
theorem dX11_pass_32 : decode cX11_pass 32 = .ok (.iconst 0, 1) := by decide +kernel
theorem dX11_pass_33 : decode cX11_pass 33 = .ok (.iconst 1, 1) := by decide +kernel
theorem dX11_pass_34 : decode cX11_pass 34 = .ok (.invokevirtual 185, 3) := by decide +kernel
theorem dX11_pass_37 : decode cX11_pass 37 = .ok (.ifCond .ne 5, 3) := by decide +kernel
theorem dX11_pass_40 : decode cX11_pass 40 = .ok (.iconst 0, 1) := by decide +kernel
theorem dX11_pass_41 : decode cX11_pass 41 = .ok (.ireturn, 1) := by decide +kernel
theorem dX11_pass_42 : decode cX11_pass 42 = .ok (.aload_n 0, 1) := by decide +kernel
theorem dX11_pass_43 : decode cX11_pass 43 = .ok (.dup, 1) := by decide +kernel
theorem dX11_pass_44 : decode cX11_pass 44 = .ok (.getfield 505, 3) := by decide +kernel
theorem dX11_pass_47 : decode cX11_pass 47 = .ok (.iload_n 1, 1) := by decide +kernel
theorem dX11_pass_48 : decode cX11_pass 48 = .ok (.iadd, 1) := by decide +kernel
theorem dX11_pass_49 : decode cX11_pass 49 = .ok (.putfield 505, 3) := by decide +kernel
theorem dX11_pass_52 : decode cX11_pass 52 = .ok (.aload_n 0, 1) := by decide +kernel
theorem dX11_pass_53 : decode cX11_pass 53 = .ok (.getfield 505, 3) := by decide +kernel
theorem dX11_pass_56 : decode cX11_pass 56 = .ok (.ireturn, 1) := by decide +kernel
theorem dX11_today_0 : decode cX11_today 0 = .ok (.aload_n 0, 1) := by decide +kernel
theorem dX11_today_1 : decode cX11_today 1 = .ok (.aload_n 0, 1) := by decide +kernel
theorem dX11_today_2 : decode cX11_today 2 = .ok (.getfield 505, 3) := by decide +kernel
theorem dX11_today_5 : decode cX11_today 5 = .ok (.invokevirtual 192, 3) := by decide +kernel
theorem dX11_today_8 : decode cX11_today 8 = .ok (.ireturn, 1) := by decide +kernel
theorem dX11_isAnswer_0 : decode cX11_isAnswer 0 = .ok (.iload_n 1, 1) := by decide +kernel
theorem dX11_isAnswer_1 : decode cX11_isAnswer 1 = .ok (.i2l, 1) := by decide +kernel
theorem dX11_isAnswer_2 : decode cX11_isAnswer 2 = .ok (.lconst 0, 1) := by decide +kernel
theorem dX11_isAnswer_3 : decode cX11_isAnswer 3 = .ok (.aload_n 0, 1) := by decide +kernel
theorem dX11_isAnswer_4 : decode cX11_isAnswer 4 = .ok (.getfield 512, 3) := by decide +kernel
theorem dX11_isAnswer_7 : decode cX11_isAnswer 7 = .ok (.iconst 1, 1) := by decide +kernel
theorem dX11_isAnswer_8 : decode cX11_isAnswer 8 = .ok (.isub, 1) := by decide +kernel
theorem dX11_isAnswer_9 : decode cX11_isAnswer 9 = .ok (.i2l, 1) := by decide +kernel
theorem dX11_isAnswer_10 : decode cX11_isAnswer 10 = .ok (.invokestatic 175, 3) := by decide +kernel
theorem dX11_isAnswer_13 : decode cX11_isAnswer 13 = .ok (.ireturn, 1) := by decide +kernel
theorem dX11_isPupil_0 : decode cX11_isPupil 0 = .ok (.iload_n 0, 1) := by decide +kernel
theorem dX11_isPupil_1 : decode cX11_isPupil 1 = .ok (.i2l, 1) := by decide +kernel
theorem dX11_isPupil_2 : decode cX11_isPupil 2 = .ok (.lconst 0, 1) := by decide +kernel
theorem dX11_isPupil_3 : decode cX11_isPupil 3 = .ok (.ldc2_w 528, 3) := by decide +kernel
theorem dX11_isPupil_6 : decode cX11_isPupil 6 = .ok (.invokestatic 175, 3) := by decide +kernel
theorem dX11_isPupil_9 : decode cX11_isPupil 9 = .ok (.ireturn, 1) := by decide +kernel
theorem dX11_hand_0 : decode cX11_hand 0 = .ok (.aload_n 0, 1) := by decide +kernel
theorem dX11_hand_1 : decode cX11_hand 1 = .ok (.invokevirtual 479, 3) := by decide +kernel
theorem dX11_hand_4 : decode cX11_hand 4 = .ok (.aload_n 0, 1) := by decide +kernel
theorem dX11_hand_5 : decode cX11_hand 5 = .ok (.iload_n 1, 1) := by decide +kernel
theorem dX11_hand_6 : decode cX11_hand 6 = .ok (.invokestatic 530, 3) := by decide +kernel
theorem dX11_hand_9 : decode cX11_hand 9 = .ok (.ifCond .eq 15, 3) := by decide +kernel
theorem dX11_hand_12 : decode cX11_hand 12 = .ok (.aload_n 0, 1) := by decide +kernel
theorem dX11_hand_13 : decode cX11_hand 13 = .ok (.iload_n 2, 1) := by decide +kernel
theorem dX11_hand_14 : decode cX11_hand 14 = .ok (.invokevirtual 500, 3) := by decide +kernel
theorem dX11_hand_17 : decode cX11_hand 17 = .ok (.ifCond .eq 7, 3) := by decide +kernel
theorem dX11_hand_20 : decode cX11_hand 20 = .ok (.iconst 1, 1) := by decide +kernel
theorem dX11_hand_21 : decode cX11_hand 21 = .ok (.goto 4, 3) := by decide +kernel
theorem dX11_hand_24 : decode cX11_hand 24 = .ok (.iconst 0, 1) := by decide +kernel
theorem dX11_hand_25 : decode cX11_hand 25 = .ok (.aload_n 0, 1) := by decide +kernel
theorem dX11_hand_26 : decode cX11_hand 26 = .ok (.getfield 254, 3) := by decide +kernel
theorem dX11_hand_29 : decode cX11_hand 29 = .ok (.ifCond .ne 16, 3) := by decide +kernel
theorem dX11_hand_32 : decode cX11_hand 32 = .ok (.aload_n 0, 1) := by decide +kernel
theorem dX11_hand_33 : decode cX11_hand 33 = .ok (.getfield 512, 3) := by decide +kernel
theorem dX11_hand_36 : decode cX11_hand 36 = .ok (.bipush 30, 2) := by decide +kernel
theorem dX11_hand_38 : decode cX11_hand 38 = .ok (.if_icmp .ge 7, 3) := by decide +kernel
theorem dX11_hand_41 : decode cX11_hand 41 = .ok (.iconst 1, 1) := by decide +kernel
theorem dX11_hand_42 : decode cX11_hand 42 = .ok (.goto 4, 3) := by decide +kernel
theorem dX11_hand_45 : decode cX11_hand 45 = .ok (.iconst 0, 1) := by decide +kernel
theorem dX11_hand_46 : decode cX11_hand 46 = .ok (.iconst 1, 1) := by decide +kernel
theorem dX11_hand_47 : decode cX11_hand 47 = .ok (.invokevirtual 185, 3) := by decide +kernel
theorem dX11_hand_50 : decode cX11_hand 50 = .ok (.ifCond .ne 5, 3) := by decide +kernel
theorem dX11_hand_53 : decode cX11_hand 53 = .ok (.iconst 0, 1) := by decide +kernel
theorem dX11_hand_54 : decode cX11_hand 54 = .ok (.ireturn, 1) := by decide +kernel
theorem dX11_hand_55 : decode cX11_hand 55 = .ok (.aload_n 0, 1) := by decide +kernel
theorem dX11_hand_56 : decode cX11_hand 56 = .ok (.getfield 144, 3) := by decide +kernel
theorem dX11_hand_59 : decode cX11_hand 59 = .ok (.aload_n 0, 1) := by decide +kernel
theorem dX11_hand_60 : decode cX11_hand 60 = .ok (.getfield 512, 3) := by decide +kernel
theorem dX11_hand_63 : decode cX11_hand 63 = .ok (.aload_n 0, 1) := by decide +kernel
theorem dX11_hand_64 : decode cX11_hand 64 = .ok (.getfield 189, 3) := by decide +kernel
theorem dX11_hand_67 : decode cX11_hand 67 = .ok (.iastore, 1) := by decide +kernel
theorem dX11_hand_68 : decode cX11_hand 68 = .ok (.iconst 0, 1) := by decide +kernel
theorem dX11_hand_69 : decode cX11_hand 69 = .ok (.istore_n 3, 1) := by decide +kernel
theorem dX11_hand_70 : decode cX11_hand 70 = .ok (.iload_n 3, 1) := by decide +kernel
theorem dX11_hand_71 : decode cX11_hand 71 = .ok (.aload_n 0, 1) := by decide +kernel
theorem dX11_hand_72 : decode cX11_hand 72 = .ok (.getfield 189, 3) := by decide +kernel
theorem dX11_hand_75 : decode cX11_hand 75 = .ok (.if_icmp .ge 30, 3) := by decide +kernel
theorem dX11_hand_78 : decode cX11_hand 78 = .ok (.aload_n 0, 1) := by decide +kernel
theorem dX11_hand_79 : decode cX11_hand 79 = .ok (.getfield 13, 3) := by decide +kernel
theorem dX11_hand_82 : decode cX11_hand 82 = .ok (.sipush 300, 3) := by decide +kernel
theorem dX11_hand_85 : decode cX11_hand 85 = .ok (.aload_n 0, 1) := by decide +kernel
theorem dX11_hand_86 : decode cX11_hand 86 = .ok (.getfield 512, 3) := by decide +kernel
theorem dX11_hand_89 : decode cX11_hand 89 = .ok (.imul, 1) := by decide +kernel
theorem dX11_hand_90 : decode cX11_hand 90 = .ok (.iload_n 3, 1) := by decide +kernel
theorem dX11_hand_91 : decode cX11_hand 91 = .ok (.iadd, 1) := by decide +kernel
theorem dX11_hand_92 : decode cX11_hand 92 = .ok (.aload_n 0, 1) := by decide +kernel
theorem dX11_hand_93 : decode cX11_hand 93 = .ok (.getfield 7, 3) := by decide +kernel
theorem dX11_hand_96 : decode cX11_hand 96 = .ok (.iload_n 3, 1) := by decide +kernel
theorem dX11_hand_97 : decode cX11_hand 97 = .ok (.caload, 1) := by decide +kernel
theorem dX11_hand_98 : decode cX11_hand 98 = .ok (.castore, 1) := by decide +kernel
theorem dX11_hand_99 : decode cX11_hand 99 = .ok (.iinc 3 1, 3) := by decide +kernel
theorem dX11_hand_102 : decode cX11_hand 102 = .ok (.goto (-32), 3) := by decide +kernel
theorem dX11_hand_105 : decode cX11_hand 105 = .ok (.aload_n 0, 1) := by decide +kernel
theorem dX11_hand_106 : decode cX11_hand 106 = .ok (.getfield 147, 3) := by decide +kernel
theorem dX11_hand_109 : decode cX11_hand 109 = .ok (.aload_n 0, 1) := by decide +kernel
theorem dX11_hand_110 : decode cX11_hand 110 = .ok (.getfield 512, 3) := by decide +kernel
theorem dX11_hand_113 : decode cX11_hand 113 = .ok (.iload_n 1, 1) := by decide +kernel
theorem dX11_hand_114 : decode cX11_hand 114 = .ok (.iastore, 1) := by decide +kernel
theorem dX11_hand_115 : decode cX11_hand 115 = .ok (.aload_n 0, 1) := by decide +kernel
theorem dX11_hand_116 : decode cX11_hand 116 = .ok (.getfield 150, 3) := by decide +kernel
theorem dX11_hand_119 : decode cX11_hand 119 = .ok (.aload_n 0, 1) := by decide +kernel
theorem dX11_hand_120 : decode cX11_hand 120 = .ok (.getfield 512, 3) := by decide +kernel
theorem dX11_hand_123 : decode cX11_hand 123 = .ok (.iload_n 2, 1) := by decide +kernel
theorem dX11_hand_124 : decode cX11_hand 124 = .ok (.iastore, 1) := by decide +kernel
theorem dX11_hand_125 : decode cX11_hand 125 = .ok (.aload_n 0, 1) := by decide +kernel
theorem dX11_hand_126 : decode cX11_hand 126 = .ok (.getfield 153, 3) := by decide +kernel
theorem dX11_hand_129 : decode cX11_hand 129 = .ok (.aload_n 0, 1) := by decide +kernel
theorem dX11_hand_130 : decode cX11_hand 130 = .ok (.getfield 512, 3) := by decide +kernel
theorem dX11_hand_133 : decode cX11_hand 133 = .ok (.aload_n 0, 1) := by decide +kernel
theorem dX11_hand_134 : decode cX11_hand 134 = .ok (.getfield 505, 3) := by decide +kernel
theorem dX11_hand_137 : decode cX11_hand 137 = .ok (.iastore, 1) := by decide +kernel
theorem dX11_hand_138 : decode cX11_hand 138 = .ok (.aload_n 0, 1) := by decide +kernel
theorem dX11_hand_139 : decode cX11_hand 139 = .ok (.getfield 156, 3) := by decide +kernel
theorem dX11_hand_142 : decode cX11_hand 142 = .ok (.aload_n 0, 1) := by decide +kernel
theorem dX11_hand_143 : decode cX11_hand 143 = .ok (.getfield 512, 3) := by decide +kernel
theorem dX11_hand_146 : decode cX11_hand 146 = .ok (.iconst 0, 1) := by decide +kernel
theorem dX11_hand_147 : decode cX11_hand 147 = .ok (.bastore, 1) := by decide +kernel
theorem dX11_hand_148 : decode cX11_hand 148 = .ok (.iconst 0, 1) := by decide +kernel
theorem dX11_hand_149 : decode cX11_hand 149 = .ok (.istore_n 3, 1) := by decide +kernel
theorem dX11_hand_150 : decode cX11_hand 150 = .ok (.iload_n 3, 1) := by decide +kernel
theorem dX11_hand_151 : decode cX11_hand 151 = .ok (.aload_n 0, 1) := by decide +kernel
theorem dX11_hand_152 : decode cX11_hand 152 = .ok (.getfield 126, 3) := by decide +kernel
theorem dX11_hand_155 : decode cX11_hand 155 = .ok (.iload_n 2, 1) := by decide +kernel
theorem dX11_hand_156 : decode cX11_hand 156 = .ok (.iaload, 1) := by decide +kernel
theorem dX11_hand_157 : decode cX11_hand 157 = .ok (.if_icmp .ge 18, 3) := by decide +kernel
theorem dX11_hand_160 : decode cX11_hand 160 = .ok (.aload_n 0, 1) := by decide +kernel
theorem dX11_hand_161 : decode cX11_hand 161 = .ok (.aload_n 0, 1) := by decide +kernel
theorem dX11_hand_162 : decode cX11_hand 162 = .ok (.getfield 512, 3) := by decide +kernel
theorem dX11_hand_165 : decode cX11_hand 165 = .ok (.iload_n 3, 1) := by decide +kernel
theorem dX11_hand_166 : decode cX11_hand 166 = .ok (.invokevirtual 518, 3) := by decide +kernel
theorem dX11_hand_169 : decode cX11_hand 169 = .ok (.iinc 3 1, 3) := by decide +kernel
theorem dX11_hand_172 : decode cX11_hand 172 = .ok (.goto (-22), 3) := by decide +kernel
theorem dX11_hand_175 : decode cX11_hand 175 = .ok (.aload_n 0, 1) := by decide +kernel
theorem dX11_hand_176 : decode cX11_hand 176 = .ok (.dup, 1) := by decide +kernel
theorem dX11_hand_177 : decode cX11_hand 177 = .ok (.getfield 512, 3) := by decide +kernel
theorem dX11_hand_180 : decode cX11_hand 180 = .ok (.iconst 1, 1) := by decide +kernel
theorem dX11_hand_181 : decode cX11_hand 181 = .ok (.iadd, 1) := by decide +kernel
theorem dX11_hand_182 : decode cX11_hand 182 = .ok (.putfield 512, 3) := by decide +kernel
theorem dX11_hand_185 : decode cX11_hand 185 = .ok (.aload_n 0, 1) := by decide +kernel
theorem dX11_hand_186 : decode cX11_hand 186 = .ok (.getfield 512, 3) := by decide +kernel
theorem dX11_hand_189 : decode cX11_hand 189 = .ok (.iconst 1, 1) := by decide +kernel
theorem dX11_hand_190 : decode cX11_hand 190 = .ok (.isub, 1) := by decide +kernel
theorem dX11_hand_191 : decode cX11_hand 191 = .ok (.ireturn, 1) := by decide +kernel
theorem dX11_answers_0 : decode cX11_answers 0 = .ok (.aload_n 0, 1) := by decide +kernel
theorem dX11_answers_1 : decode cX11_answers 1 = .ok (.aload_n 0, 1) := by decide +kernel
theorem dX11_answers_2 : decode cX11_answers 2 = .ok (.getfield 512, 3) := by decide +kernel
theorem dX11_answers_5 : decode cX11_answers 5 = .ok (.invokevirtual 192, 3) := by decide +kernel
theorem dX11_answers_8 : decode cX11_answers 8 = .ok (.ireturn, 1) := by decide +kernel
theorem dX11_isTestOf_0 : decode cX11_isTestOf 0 = .ok (.aload_n 0, 1) := by decide +kernel
theorem dX11_isTestOf_1 : decode cX11_isTestOf 1 = .ok (.iload_n 1, 1) := by decide +kernel
theorem dX11_isTestOf_2 : decode cX11_isTestOf 2 = .ok (.invokevirtual 533, 3) := by decide +kernel
theorem dX11_isTestOf_5 : decode cX11_isTestOf 5 = .ok (.ifCond .eq 30, 3) := by decide +kernel
theorem dX11_isTestOf_8 : decode cX11_isTestOf 8 = .ok (.iload_n 2, 1) := by decide +kernel
theorem dX11_isTestOf_9 : decode cX11_isTestOf 9 = .ok (.i2l, 1) := by decide +kernel
theorem dX11_isTestOf_10 : decode cX11_isTestOf 10 = .ok (.lconst 0, 1) := by decide +kernel
theorem dX11_isTestOf_11 : decode cX11_isTestOf 11 = .ok (.aload_n 0, 1) := by decide +kernel
theorem dX11_isTestOf_12 : decode cX11_isTestOf 12 = .ok (.getfield 126, 3) := by decide +kernel
theorem dX11_isTestOf_15 : decode cX11_isTestOf 15 = .ok (.aload_n 0, 1) := by decide +kernel
theorem dX11_isTestOf_16 : decode cX11_isTestOf 16 = .ok (.getfield 150, 3) := by decide +kernel
theorem dX11_isTestOf_19 : decode cX11_isTestOf 19 = .ok (.iload_n 1, 1) := by decide +kernel
theorem dX11_isTestOf_20 : decode cX11_isTestOf 20 = .ok (.iaload, 1) := by decide +kernel
theorem dX11_isTestOf_21 : decode cX11_isTestOf 21 = .ok (.iaload, 1) := by decide +kernel
theorem dX11_isTestOf_22 : decode cX11_isTestOf 22 = .ok (.iconst 1, 1) := by decide +kernel
theorem dX11_isTestOf_23 : decode cX11_isTestOf 23 = .ok (.isub, 1) := by decide +kernel
theorem dX11_isTestOf_24 : decode cX11_isTestOf 24 = .ok (.i2l, 1) := by decide +kernel
theorem dX11_isTestOf_25 : decode cX11_isTestOf 25 = .ok (.invokestatic 175, 3) := by decide +kernel
theorem dX11_isTestOf_28 : decode cX11_isTestOf 28 = .ok (.ifCond .eq 7, 3) := by decide +kernel
theorem dX11_isTestOf_31 : decode cX11_isTestOf 31 = .ok (.iconst 1, 1) := by decide +kernel
theorem dX11_isTestOf_32 : decode cX11_isTestOf 32 = .ok (.goto 4, 3) := by decide +kernel
theorem dX11_isTestOf_35 : decode cX11_isTestOf 35 = .ok (.iconst 0, 1) := by decide +kernel
theorem dX11_isTestOf_36 : decode cX11_isTestOf 36 = .ok (.ireturn, 1) := by decide +kernel
theorem dX11_passes_0 : decode cX11_passes 0 = .ok (.aload_n 0, 1) := by decide +kernel
theorem dX11_passes_1 : decode cX11_passes 1 = .ok (.aload_n 0, 1) := by decide +kernel
theorem dX11_passes_2 : decode cX11_passes 2 = .ok (.iload_n 1, 1) := by decide +kernel
theorem dX11_passes_3 : decode cX11_passes 3 = .ok (.iload_n 2, 1) := by decide +kernel
theorem dX11_passes_4 : decode cX11_passes 4 = .ok (.invokevirtual 536, 3) := by decide +kernel
theorem dX11_passes_7 : decode cX11_passes 7 = .ok (.iconst 1, 1) := by decide +kernel
theorem dX11_passes_8 : decode cX11_passes 8 = .ok (.iconst 1, 1) := by decide +kernel
theorem dX11_passes_9 : decode cX11_passes 9 = .ok (.invokevirtual 185, 3) := by decide +kernel
theorem dX11_passes_12 : decode cX11_passes 12 = .ok (.ifCond .eq 21, 3) := by decide +kernel
theorem dX11_passes_15 : decode cX11_passes 15 = .ok (.aload_n 0, 1) := by decide +kernel
theorem dX11_passes_16 : decode cX11_passes 16 = .ok (.getfield 162, 3) := by decide +kernel
theorem dX11_passes_19 : decode cX11_passes 19 = .ok (.bipush 8, 2) := by decide +kernel
theorem dX11_passes_21 : decode cX11_passes 21 = .ok (.iload_n 1, 1) := by decide +kernel
theorem dX11_passes_22 : decode cX11_passes 22 = .ok (.imul, 1) := by decide +kernel
theorem dX11_passes_23 : decode cX11_passes 23 = .ok (.iload_n 2, 1) := by decide +kernel
theorem dX11_passes_24 : decode cX11_passes 24 = .ok (.iadd, 1) := by decide +kernel
theorem dX11_passes_25 : decode cX11_passes 25 = .ok (.baload, 1) := by decide +kernel
theorem dX11_passes_26 : decode cX11_passes 26 = .ok (.ifCond .eq 7, 3) := by decide +kernel
theorem dX11_passes_29 : decode cX11_passes 29 = .ok (.iconst 1, 1) := by decide +kernel
theorem dX11_passes_30 : decode cX11_passes 30 = .ok (.goto 4, 3) := by decide +kernel
theorem dX11_passes_33 : decode cX11_passes 33 = .ok (.iconst 0, 1) := by decide +kernel
theorem dX11_passes_34 : decode cX11_passes 34 = .ok (.ireturn, 1) := by decide +kernel
theorem dX11_endOf_0 : decode cX11_endOf 0 = .ok (.aload_n 0, 1) := by decide +kernel
theorem dX11_endOf_1 : decode cX11_endOf 1 = .ok (.aload_n 0, 1) := by decide +kernel
theorem dX11_endOf_2 : decode cX11_endOf 2 = .ok (.iload_n 1, 1) := by decide +kernel
theorem dX11_endOf_3 : decode cX11_endOf 3 = .ok (.iload_n 2, 1) := by decide +kernel
theorem dX11_endOf_4 : decode cX11_endOf 4 = .ok (.invokevirtual 536, 3) := by decide +kernel
theorem dX11_endOf_7 : decode cX11_endOf 7 = .ok (.iconst 1, 1) := by decide +kernel
theorem dX11_endOf_8 : decode cX11_endOf 8 = .ok (.iconst 1, 1) := by decide +kernel
theorem dX11_endOf_9 : decode cX11_endOf 9 = .ok (.invokevirtual 185, 3) := by decide +kernel
theorem dX11_endOf_12 : decode cX11_endOf 12 = .ok (.ifCond .eq 17, 3) := by decide +kernel
theorem dX11_endOf_15 : decode cX11_endOf 15 = .ok (.aload_n 0, 1) := by decide +kernel
theorem dX11_endOf_16 : decode cX11_endOf 16 = .ok (.getfield 159, 3) := by decide +kernel
theorem dX11_endOf_19 : decode cX11_endOf 19 = .ok (.bipush 8, 2) := by decide +kernel
theorem dX11_endOf_21 : decode cX11_endOf 21 = .ok (.iload_n 1, 1) := by decide +kernel
theorem dX11_endOf_22 : decode cX11_endOf 22 = .ok (.imul, 1) := by decide +kernel
theorem dX11_endOf_23 : decode cX11_endOf 23 = .ok (.iload_n 2, 1) := by decide +kernel
theorem dX11_endOf_24 : decode cX11_endOf 24 = .ok (.iadd, 1) := by decide +kernel
theorem dX11_endOf_25 : decode cX11_endOf 25 = .ok (.iaload, 1) := by decide +kernel
theorem dX11_endOf_26 : decode cX11_endOf 26 = .ok (.goto 4, 3) := by decide +kernel
theorem dX11_endOf_29 : decode cX11_endOf 29 = .ok (.iconst 0, 1) := by decide +kernel
theorem dX11_endOf_30 : decode cX11_endOf 30 = .ok (.ireturn, 1) := by decide +kernel
theorem dX11_pointsOf_0 : decode cX11_pointsOf 0 = .ok (.iconst 0, 1) := by decide +kernel
theorem dX11_pointsOf_1 : decode cX11_pointsOf 1 = .ok (.istore_n 2, 1) := by decide +kernel
theorem dX11_pointsOf_2 : decode cX11_pointsOf 2 = .ok (.iconst 0, 1) := by decide +kernel
theorem dX11_pointsOf_3 : decode cX11_pointsOf 3 = .ok (.istore_n 3, 1) := by decide +kernel
theorem dX11_pointsOf_4 : decode cX11_pointsOf 4 = .ok (.iconst 0, 1) := by decide +kernel
theorem dX11_pointsOf_5 : decode cX11_pointsOf 5 = .ok (.istore 4, 2) := by decide +kernel
theorem dX11_pointsOf_7 : decode cX11_pointsOf 7 = .ok (.iload 4, 2) := by decide +kernel
theorem dX11_pointsOf_9 : decode cX11_pointsOf 9 = .ok (.aload_n 0, 1) := by decide +kernel
theorem dX11_pointsOf_10 : decode cX11_pointsOf 10 = .ok (.getfield 126, 3) := by decide +kernel
theorem dX11_pointsOf_13 : decode cX11_pointsOf 13 = .ok (.aload_n 0, 1) := by decide +kernel
theorem dX11_pointsOf_14 : decode cX11_pointsOf 14 = .ok (.getfield 150, 3) := by decide +kernel
theorem dX11_pointsOf_17 : decode cX11_pointsOf 17 = .ok (.iload_n 1, 1) := by decide +kernel
theorem dX11_pointsOf_18 : decode cX11_pointsOf 18 = .ok (.iaload, 1) := by decide +kernel
theorem dX11_pointsOf_19 : decode cX11_pointsOf 19 = .ok (.iaload, 1) := by decide +kernel
theorem dX11_pointsOf_20 : decode cX11_pointsOf 20 = .ok (.if_icmp .ge 86, 3) := by decide +kernel
theorem dX11_pointsOf_23 : decode cX11_pointsOf 23 = .ok (.bipush 8, 2) := by decide +kernel
theorem dX11_pointsOf_25 : decode cX11_pointsOf 25 = .ok (.aload_n 0, 1) := by decide +kernel
theorem dX11_pointsOf_26 : decode cX11_pointsOf 26 = .ok (.getfield 150, 3) := by decide +kernel
theorem dX11_pointsOf_29 : decode cX11_pointsOf 29 = .ok (.iload_n 1, 1) := by decide +kernel
theorem dX11_pointsOf_30 : decode cX11_pointsOf 30 = .ok (.iaload, 1) := by decide +kernel
theorem dX11_pointsOf_31 : decode cX11_pointsOf 31 = .ok (.imul, 1) := by decide +kernel
theorem dX11_pointsOf_32 : decode cX11_pointsOf 32 = .ok (.iload 4, 2) := by decide +kernel
theorem dX11_pointsOf_34 : decode cX11_pointsOf 34 = .ok (.iadd, 1) := by decide +kernel
theorem dX11_pointsOf_35 : decode cX11_pointsOf 35 = .ok (.istore 5, 2) := by decide +kernel
theorem dX11_pointsOf_37 : decode cX11_pointsOf 37 = .ok (.iload_n 2, 1) := by decide +kernel
theorem dX11_pointsOf_38 : decode cX11_pointsOf 38 = .ok (.aload_n 0, 1) := by decide +kernel
theorem dX11_pointsOf_39 : decode cX11_pointsOf 39 = .ok (.getfield 141, 3) := by decide +kernel
theorem dX11_pointsOf_42 : decode cX11_pointsOf 42 = .ok (.iload 5, 2) := by decide +kernel
theorem dX11_pointsOf_44 : decode cX11_pointsOf 44 = .ok (.baload, 1) := by decide +kernel
theorem dX11_pointsOf_45 : decode cX11_pointsOf 45 = .ok (.ifCond .eq 7, 3) := by decide +kernel
theorem dX11_pointsOf_48 : decode cX11_pointsOf 48 = .ok (.iconst 0, 1) := by decide +kernel
theorem dX11_pointsOf_49 : decode cX11_pointsOf 49 = .ok (.goto 10, 3) := by decide +kernel
theorem dX11_pointsOf_52 : decode cX11_pointsOf 52 = .ok (.aload_n 0, 1) := by decide +kernel
theorem dX11_pointsOf_53 : decode cX11_pointsOf 53 = .ok (.getfield 129, 3) := by decide +kernel
theorem dX11_pointsOf_56 : decode cX11_pointsOf 56 = .ok (.iload 5, 2) := by decide +kernel
theorem dX11_pointsOf_58 : decode cX11_pointsOf 58 = .ok (.iaload, 1) := by decide +kernel
theorem dX11_pointsOf_59 : decode cX11_pointsOf 59 = .ok (.iadd, 1) := by decide +kernel
theorem dX11_pointsOf_60 : decode cX11_pointsOf 60 = .ok (.istore_n 2, 1) := by decide +kernel
theorem dX11_pointsOf_61 : decode cX11_pointsOf 61 = .ok (.iload_n 3, 1) := by decide +kernel
theorem dX11_pointsOf_62 : decode cX11_pointsOf 62 = .ok (.aload_n 0, 1) := by decide +kernel
theorem dX11_pointsOf_63 : decode cX11_pointsOf 63 = .ok (.getfield 141, 3) := by decide +kernel
theorem dX11_pointsOf_66 : decode cX11_pointsOf 66 = .ok (.iload 5, 2) := by decide +kernel
theorem dX11_pointsOf_68 : decode cX11_pointsOf 68 = .ok (.baload, 1) := by decide +kernel
theorem dX11_pointsOf_69 : decode cX11_pointsOf 69 = .ok (.ifCond .ne 28, 3) := by decide +kernel
theorem dX11_pointsOf_72 : decode cX11_pointsOf 72 = .ok (.aload_n 0, 1) := by decide +kernel
theorem dX11_pointsOf_73 : decode cX11_pointsOf 73 = .ok (.getfield 162, 3) := by decide +kernel
theorem dX11_pointsOf_76 : decode cX11_pointsOf 76 = .ok (.bipush 8, 2) := by decide +kernel
theorem dX11_pointsOf_78 : decode cX11_pointsOf 78 = .ok (.iload_n 1, 1) := by decide +kernel
theorem dX11_pointsOf_79 : decode cX11_pointsOf 79 = .ok (.imul, 1) := by decide +kernel
theorem dX11_pointsOf_80 : decode cX11_pointsOf 80 = .ok (.iload 4, 2) := by decide +kernel
theorem dX11_pointsOf_82 : decode cX11_pointsOf 82 = .ok (.iadd, 1) := by decide +kernel
theorem dX11_pointsOf_83 : decode cX11_pointsOf 83 = .ok (.baload, 1) := by decide +kernel
theorem dX11_pointsOf_84 : decode cX11_pointsOf 84 = .ok (.ifCond .eq 13, 3) := by decide +kernel
theorem dX11_pointsOf_87 : decode cX11_pointsOf 87 = .ok (.aload_n 0, 1) := by decide +kernel
theorem dX11_pointsOf_88 : decode cX11_pointsOf 88 = .ok (.getfield 129, 3) := by decide +kernel
theorem dX11_pointsOf_91 : decode cX11_pointsOf 91 = .ok (.iload 5, 2) := by decide +kernel
theorem dX11_pointsOf_93 : decode cX11_pointsOf 93 = .ok (.iaload, 1) := by decide +kernel
theorem dX11_pointsOf_94 : decode cX11_pointsOf 94 = .ok (.goto 4, 3) := by decide +kernel
theorem dX11_pointsOf_97 : decode cX11_pointsOf 97 = .ok (.iconst 0, 1) := by decide +kernel
theorem dX11_pointsOf_98 : decode cX11_pointsOf 98 = .ok (.iadd, 1) := by decide +kernel
theorem dX11_pointsOf_99 : decode cX11_pointsOf 99 = .ok (.istore_n 3, 1) := by decide +kernel
theorem dX11_pointsOf_100 : decode cX11_pointsOf 100 = .ok (.iinc 4 1, 3) := by decide +kernel
theorem dX11_pointsOf_103 : decode cX11_pointsOf 103 = .ok (.goto (-96), 3) := by decide +kernel
theorem dX11_pointsOf_106 : decode cX11_pointsOf 106 = .ok (.iload_n 2, 1) := by decide +kernel
theorem dX11_pointsOf_107 : decode cX11_pointsOf 107 = .ok (.ifCond .ne 7, 3) := by decide +kernel
theorem dX11_pointsOf_110 : decode cX11_pointsOf 110 = .ok (.iconst 0, 1) := by decide +kernel
theorem dX11_pointsOf_111 : decode cX11_pointsOf 111 = .ok (.goto 9, 3) := by decide +kernel
theorem dX11_pointsOf_114 : decode cX11_pointsOf 114 = .ok (.bipush 100, 2) := by decide +kernel
theorem dX11_pointsOf_116 : decode cX11_pointsOf 116 = .ok (.iload_n 3, 1) := by decide +kernel
theorem dX11_pointsOf_117 : decode cX11_pointsOf 117 = .ok (.imul, 1) := by decide +kernel
theorem dX11_pointsOf_118 : decode cX11_pointsOf 118 = .ok (.iload_n 2, 1) := by decide +kernel
theorem dX11_pointsOf_119 : decode cX11_pointsOf 119 = .ok (.idiv, 1) := by decide +kernel
theorem dX11_pointsOf_120 : decode cX11_pointsOf 120 = .ok (.ireturn, 1) := by decide +kernel
theorem dX11_markOf_0 : decode cX11_markOf 0 = .ok (.aload_n 0, 1) := by decide +kernel
theorem dX11_markOf_1 : decode cX11_markOf 1 = .ok (.getfield 153, 3) := by decide +kernel
theorem dX11_markOf_4 : decode cX11_markOf 4 = .ok (.iload_n 1, 1) := by decide +kernel
theorem dX11_markOf_5 : decode cX11_markOf 5 = .ok (.iaload, 1) := by decide +kernel
theorem dX11_markOf_6 : decode cX11_markOf 6 = .ok (.aload_n 0, 1) := by decide +kernel
theorem dX11_markOf_7 : decode cX11_markOf 7 = .ok (.getfield 123, 3) := by decide +kernel
theorem dX11_markOf_10 : decode cX11_markOf 10 = .ok (.aload_n 0, 1) := by decide +kernel
theorem dX11_markOf_11 : decode cX11_markOf 11 = .ok (.getfield 150, 3) := by decide +kernel
theorem dX11_markOf_14 : decode cX11_markOf 14 = .ok (.iload_n 1, 1) := by decide +kernel
theorem dX11_markOf_15 : decode cX11_markOf 15 = .ok (.iaload, 1) := by decide +kernel
theorem dX11_markOf_16 : decode cX11_markOf 16 = .ok (.iaload, 1) := by decide +kernel
theorem dX11_markOf_17 : decode cX11_markOf 17 = .ok (.isub, 1) := by decide +kernel
theorem dX11_markOf_18 : decode cX11_markOf 18 = .ok (.istore_n 2, 1) := by decide +kernel
theorem dX11_markOf_19 : decode cX11_markOf 19 = .ok (.iload_n 2, 1) := by decide +kernel
theorem dX11_markOf_20 : decode cX11_markOf 20 = .ok (.iconst 5, 1) := by decide +kernel
theorem dX11_markOf_21 : decode cX11_markOf 21 = .ok (.if_icmp .le 8, 3) := by decide +kernel
theorem dX11_markOf_24 : decode cX11_markOf 24 = .ok (.bipush 50, 2) := by decide +kernel
theorem dX11_markOf_26 : decode cX11_markOf 26 = .ok (.goto 15, 3) := by decide +kernel
theorem dX11_markOf_29 : decode cX11_markOf 29 = .ok (.iload_n 2, 1) := by decide +kernel
theorem dX11_markOf_30 : decode cX11_markOf 30 = .ok (.ifCond .le 10, 3) := by decide +kernel
theorem dX11_markOf_33 : decode cX11_markOf 33 = .ok (.bipush 10, 2) := by decide +kernel
theorem dX11_markOf_35 : decode cX11_markOf 35 = .ok (.iload_n 2, 1) := by decide +kernel
theorem dX11_markOf_36 : decode cX11_markOf 36 = .ok (.imul, 1) := by decide +kernel
theorem dX11_markOf_37 : decode cX11_markOf 37 = .ok (.goto 4, 3) := by decide +kernel
theorem dX11_markOf_40 : decode cX11_markOf 40 = .ok (.iconst 0, 1) := by decide +kernel
theorem dX11_markOf_41 : decode cX11_markOf 41 = .ok (.istore_n 3, 1) := by decide +kernel
theorem dX11_markOf_42 : decode cX11_markOf 42 = .ok (.aload_n 0, 1) := by decide +kernel
theorem dX11_markOf_43 : decode cX11_markOf 43 = .ok (.getfield 156, 3) := by decide +kernel
theorem dX11_markOf_46 : decode cX11_markOf 46 = .ok (.iload_n 1, 1) := by decide +kernel
theorem dX11_markOf_47 : decode cX11_markOf 47 = .ok (.baload, 1) := by decide +kernel
theorem dX11_markOf_48 : decode cX11_markOf 48 = .ok (.ifCond .eq 7, 3) := by decide +kernel
theorem dX11_markOf_51 : decode cX11_markOf 51 = .ok (.iconst 0, 1) := by decide +kernel
theorem dX11_markOf_52 : decode cX11_markOf 52 = .ok (.goto 16, 3) := by decide +kernel
theorem dX11_markOf_55 : decode cX11_markOf 55 = .ok (.aload_n 0, 1) := by decide +kernel
theorem dX11_markOf_56 : decode cX11_markOf 56 = .ok (.iload_n 1, 1) := by decide +kernel
theorem dX11_markOf_57 : decode cX11_markOf 57 = .ok (.invokevirtual 539, 3) := by decide +kernel
theorem dX11_markOf_60 : decode cX11_markOf 60 = .ok (.bipush 100, 2) := by decide +kernel
theorem dX11_markOf_62 : decode cX11_markOf 62 = .ok (.iload_n 3, 1) := by decide +kernel
theorem dX11_markOf_63 : decode cX11_markOf 63 = .ok (.isub, 1) := by decide +kernel
theorem dX11_markOf_64 : decode cX11_markOf 64 = .ok (.imul, 1) := by decide +kernel
theorem dX11_markOf_65 : decode cX11_markOf 65 = .ok (.bipush 100, 2) := by decide +kernel
theorem dX11_markOf_67 : decode cX11_markOf 67 = .ok (.idiv, 1) := by decide +kernel
theorem dX11_markOf_68 : decode cX11_markOf 68 = .ok (.ireturn, 1) := by decide +kernel
theorem dX11_points_0 : decode cX11_points 0 = .ok (.aload_n 0, 1) := by decide +kernel
theorem dX11_points_1 : decode cX11_points 1 = .ok (.aload_n 0, 1) := by decide +kernel
theorem dX11_points_2 : decode cX11_points 2 = .ok (.iload_n 1, 1) := by decide +kernel
theorem dX11_points_3 : decode cX11_points 3 = .ok (.invokevirtual 533, 3) := by decide +kernel
theorem dX11_points_6 : decode cX11_points 6 = .ok (.iconst 1, 1) := by decide +kernel
theorem dX11_points_7 : decode cX11_points 7 = .ok (.iconst 1, 1) := by decide +kernel
theorem dX11_points_8 : decode cX11_points 8 = .ok (.invokevirtual 185, 3) := by decide +kernel
theorem dX11_points_11 : decode cX11_points 11 = .ok (.ifCond .eq 11, 3) := by decide +kernel
theorem dX11_points_14 : decode cX11_points 14 = .ok (.aload_n 0, 1) := by decide +kernel
theorem dX11_points_15 : decode cX11_points 15 = .ok (.iload_n 1, 1) := by decide +kernel
theorem dX11_points_16 : decode cX11_points 16 = .ok (.invokevirtual 539, 3) := by decide +kernel
theorem dX11_points_19 : decode cX11_points 19 = .ok (.goto 4, 3) := by decide +kernel
theorem dX11_points_22 : decode cX11_points 22 = .ok (.iconst 0, 1) := by decide +kernel
theorem dX11_points_23 : decode cX11_points 23 = .ok (.ireturn, 1) := by decide +kernel
theorem dX11_mark__0 : decode cX11_mark_ 0 = .ok (.aload_n 0, 1) := by decide +kernel
theorem dX11_mark__1 : decode cX11_mark_ 1 = .ok (.aload_n 0, 1) := by decide +kernel
theorem dX11_mark__2 : decode cX11_mark_ 2 = .ok (.iload_n 1, 1) := by decide +kernel
theorem dX11_mark__3 : decode cX11_mark_ 3 = .ok (.invokevirtual 533, 3) := by decide +kernel
theorem dX11_mark__6 : decode cX11_mark_ 6 = .ok (.iconst 1, 1) := by decide +kernel
theorem dX11_mark__7 : decode cX11_mark_ 7 = .ok (.iconst 1, 1) := by decide +kernel
theorem dX11_mark__8 : decode cX11_mark_ 8 = .ok (.invokevirtual 185, 3) := by decide +kernel
theorem dX11_mark__11 : decode cX11_mark_ 11 = .ok (.ifCond .eq 11, 3) := by decide +kernel
theorem dX11_mark__14 : decode cX11_mark_ 14 = .ok (.aload_n 0, 1) := by decide +kernel
theorem dX11_mark__15 : decode cX11_mark_ 15 = .ok (.iload_n 1, 1) := by decide +kernel
theorem dX11_mark__16 : decode cX11_mark_ 16 = .ok (.invokevirtual 523, 3) := by decide +kernel
theorem dX11_mark__19 : decode cX11_mark_ 19 = .ok (.goto 4, 3) := by decide +kernel
theorem dX11_mark__22 : decode cX11_mark_ 22 = .ok (.iconst 0, 1) := by decide +kernel
theorem dX11_mark__23 : decode cX11_mark_ 23 = .ok (.ireturn, 1) := by decide +kernel
theorem dX11_markAnew_0 : decode cX11_markAnew 0 = .ok (.aload_n 0, 1) := by decide +kernel
theorem dX11_markAnew_1 : decode cX11_markAnew 1 = .ok (.iload_n 1, 1) := by decide +kernel
theorem dX11_markAnew_2 : decode cX11_markAnew 2 = .ok (.invokevirtual 542, 3) := by decide +kernel
theorem dX11_markAnew_5 : decode cX11_markAnew 5 = .ok (.ireturn, 1) := by decide +kernel
theorem dX11_best_0 : decode cX11_best 0 = .ok (.aload_n 0, 1) := by decide +kernel
theorem dX11_best_1 : decode cX11_best 1 = .ok (.iload_n 1, 1) := by decide +kernel
theorem dX11_best_2 : decode cX11_best 2 = .ok (.invokestatic 530, 3) := by decide +kernel
theorem dX11_best_5 : decode cX11_best 5 = .ok (.ifCond .eq 15, 3) := by decide +kernel
theorem dX11_best_8 : decode cX11_best 8 = .ok (.aload_n 0, 1) := by decide +kernel
theorem dX11_best_9 : decode cX11_best 9 = .ok (.iload_n 2, 1) := by decide +kernel
theorem dX11_best_10 : decode cX11_best 10 = .ok (.invokevirtual 500, 3) := by decide +kernel
theorem dX11_best_13 : decode cX11_best 13 = .ok (.ifCond .eq 7, 3) := by decide +kernel
theorem dX11_best_16 : decode cX11_best 16 = .ok (.iconst 1, 1) := by decide +kernel
theorem dX11_best_17 : decode cX11_best 17 = .ok (.goto 4, 3) := by decide +kernel
theorem dX11_best_20 : decode cX11_best 20 = .ok (.iconst 0, 1) := by decide +kernel
theorem dX11_best_21 : decode cX11_best 21 = .ok (.iconst 1, 1) := by decide +kernel
theorem dX11_best_22 : decode cX11_best 22 = .ok (.iconst 1, 1) := by decide +kernel
theorem dX11_best_23 : decode cX11_best 23 = .ok (.invokevirtual 185, 3) := by decide +kernel
theorem dX11_best_26 : decode cX11_best 26 = .ok (.ifCond .ne 5, 3) := by decide +kernel
theorem dX11_best_29 : decode cX11_best 29 = .ok (.iconst 0, 1) := by decide +kernel
theorem dX11_best_30 : decode cX11_best 30 = .ok (.ireturn, 1) := by decide +kernel
theorem dX11_best_31 : decode cX11_best 31 = .ok (.iconst (-1), 1) := by decide +kernel
theorem dX11_best_32 : decode cX11_best 32 = .ok (.istore_n 3, 1) := by decide +kernel
theorem dX11_best_33 : decode cX11_best 33 = .ok (.iconst 0, 1) := by decide +kernel
theorem dX11_best_34 : decode cX11_best 34 = .ok (.istore 4, 2) := by decide +kernel
theorem dX11_best_36 : decode cX11_best 36 = .ok (.iload 4, 2) := by decide +kernel
theorem dX11_best_38 : decode cX11_best 38 = .ok (.aload_n 0, 1) := by decide +kernel
theorem dX11_best_39 : decode cX11_best 39 = .ok (.getfield 512, 3) := by decide +kernel
theorem dX11_best_42 : decode cX11_best 42 = .ok (.if_icmp .ge 64, 3) := by decide +kernel
theorem dX11_best_45 : decode cX11_best 45 = .ok (.aload_n 0, 1) := by decide +kernel
theorem dX11_best_46 : decode cX11_best 46 = .ok (.getfield 147, 3) := by decide +kernel
theorem dX11_best_49 : decode cX11_best 49 = .ok (.iload 4, 2) := by decide +kernel
theorem dX11_best_51 : decode cX11_best 51 = .ok (.iaload, 1) := by decide +kernel
theorem dX11_best_52 : decode cX11_best 52 = .ok (.iload_n 1, 1) := by decide +kernel
theorem dX11_best_53 : decode cX11_best 53 = .ok (.if_icmp .ne 18, 3) := by decide +kernel
theorem dX11_best_56 : decode cX11_best 56 = .ok (.aload_n 0, 1) := by decide +kernel
theorem dX11_best_57 : decode cX11_best 57 = .ok (.getfield 150, 3) := by decide +kernel
theorem dX11_best_60 : decode cX11_best 60 = .ok (.iload 4, 2) := by decide +kernel
theorem dX11_best_62 : decode cX11_best 62 = .ok (.iaload, 1) := by decide +kernel
theorem dX11_best_63 : decode cX11_best 63 = .ok (.iload_n 2, 1) := by decide +kernel
theorem dX11_best_64 : decode cX11_best 64 = .ok (.if_icmp .ne 7, 3) := by decide +kernel
theorem dX11_best_67 : decode cX11_best 67 = .ok (.iconst 1, 1) := by decide +kernel
theorem dX11_best_68 : decode cX11_best 68 = .ok (.goto 4, 3) := by decide +kernel
theorem dX11_best_71 : decode cX11_best 71 = .ok (.iconst 0, 1) := by decide +kernel
theorem dX11_best_72 : decode cX11_best 72 = .ok (.istore 5, 2) := by decide +kernel
theorem dX11_best_74 : decode cX11_best 74 = .ok (.iload 5, 2) := by decide +kernel
theorem dX11_best_76 : decode cX11_best 76 = .ok (.ifCond .eq 22, 3) := by decide +kernel
theorem dX11_best_79 : decode cX11_best 79 = .ok (.aload_n 0, 1) := by decide +kernel
theorem dX11_best_80 : decode cX11_best 80 = .ok (.iload 4, 2) := by decide +kernel
theorem dX11_best_82 : decode cX11_best 82 = .ok (.invokevirtual 523, 3) := by decide +kernel
theorem dX11_best_85 : decode cX11_best 85 = .ok (.iload_n 3, 1) := by decide +kernel
theorem dX11_best_86 : decode cX11_best 86 = .ok (.if_icmp .le 12, 3) := by decide +kernel
theorem dX11_best_89 : decode cX11_best 89 = .ok (.aload_n 0, 1) := by decide +kernel
theorem dX11_best_90 : decode cX11_best 90 = .ok (.iload 4, 2) := by decide +kernel
theorem dX11_best_92 : decode cX11_best 92 = .ok (.invokevirtual 523, 3) := by decide +kernel
theorem dX11_best_95 : decode cX11_best 95 = .ok (.goto 4, 3) := by decide +kernel
theorem dX11_best_98 : decode cX11_best 98 = .ok (.iload_n 3, 1) := by decide +kernel
theorem dX11_best_99 : decode cX11_best 99 = .ok (.istore_n 3, 1) := by decide +kernel
theorem dX11_best_100 : decode cX11_best 100 = .ok (.iinc 4 1, 3) := by decide +kernel
theorem dX11_best_103 : decode cX11_best 103 = .ok (.goto (-67), 3) := by decide +kernel
theorem dX11_best_106 : decode cX11_best 106 = .ok (.iload_n 3, 1) := by decide +kernel
theorem dX11_best_107 : decode cX11_best 107 = .ok (.ireturn, 1) := by decide +kernel
theorem dX11_passed_0 : decode cX11_passed 0 = .ok (.aload_n 0, 1) := by decide +kernel
theorem dX11_passed_1 : decode cX11_passed 1 = .ok (.aload_n 0, 1) := by decide +kernel
theorem dX11_passed_2 : decode cX11_passed 2 = .ok (.iload_n 1, 1) := by decide +kernel
theorem dX11_passed_3 : decode cX11_passed 3 = .ok (.iload_n 2, 1) := by decide +kernel
theorem dX11_passed_4 : decode cX11_passed 4 = .ok (.invokevirtual 520, 3) := by decide +kernel
theorem dX11_passed_7 : decode cX11_passed 7 = .ok (.iconst 1, 1) := by decide +kernel
theorem dX11_passed_8 : decode cX11_passed 8 = .ok (.iconst 1, 1) := by decide +kernel
theorem dX11_passed_9 : decode cX11_passed 9 = .ok (.invokevirtual 185, 3) := by decide +kernel
theorem dX11_passed_12 : decode cX11_passed 12 = .ok (.ifCond .ne 5, 3) := by decide +kernel
theorem dX11_passed_15 : decode cX11_passed 15 = .ok (.iconst 0, 1) := by decide +kernel
theorem dX11_passed_16 : decode cX11_passed 16 = .ok (.ireturn, 1) := by decide +kernel
theorem dX11_passed_17 : decode cX11_passed 17 = .ok (.iconst 0, 1) := by decide +kernel
theorem dX11_passed_18 : decode cX11_passed 18 = .ok (.istore_n 3, 1) := by decide +kernel
theorem dX11_passed_19 : decode cX11_passed 19 = .ok (.iconst 0, 1) := by decide +kernel
theorem dX11_passed_20 : decode cX11_passed 20 = .ok (.istore 4, 2) := by decide +kernel
theorem dX11_passed_22 : decode cX11_passed 22 = .ok (.iload 4, 2) := by decide +kernel
theorem dX11_passed_24 : decode cX11_passed 24 = .ok (.aload_n 0, 1) := by decide +kernel
theorem dX11_passed_25 : decode cX11_passed 25 = .ok (.getfield 512, 3) := by decide +kernel
theorem dX11_passed_28 : decode cX11_passed 28 = .ok (.if_icmp .ge 43, 3) := by decide +kernel
theorem dX11_passed_31 : decode cX11_passed 31 = .ok (.iload_n 3, 1) := by decide +kernel
theorem dX11_passed_32 : decode cX11_passed 32 = .ok (.aload_n 0, 1) := by decide +kernel
theorem dX11_passed_33 : decode cX11_passed 33 = .ok (.getfield 150, 3) := by decide +kernel
theorem dX11_passed_36 : decode cX11_passed 36 = .ok (.iload 4, 2) := by decide +kernel
theorem dX11_passed_38 : decode cX11_passed 38 = .ok (.iaload, 1) := by decide +kernel
theorem dX11_passed_39 : decode cX11_passed 39 = .ok (.iload_n 1, 1) := by decide +kernel
theorem dX11_passed_40 : decode cX11_passed 40 = .ok (.if_icmp .ne 22, 3) := by decide +kernel
theorem dX11_passed_43 : decode cX11_passed 43 = .ok (.aload_n 0, 1) := by decide +kernel
theorem dX11_passed_44 : decode cX11_passed 44 = .ok (.getfield 162, 3) := by decide +kernel
theorem dX11_passed_47 : decode cX11_passed 47 = .ok (.bipush 8, 2) := by decide +kernel
theorem dX11_passed_49 : decode cX11_passed 49 = .ok (.iload 4, 2) := by decide +kernel
theorem dX11_passed_51 : decode cX11_passed 51 = .ok (.imul, 1) := by decide +kernel
theorem dX11_passed_52 : decode cX11_passed 52 = .ok (.iload_n 2, 1) := by decide +kernel
theorem dX11_passed_53 : decode cX11_passed 53 = .ok (.iadd, 1) := by decide +kernel
theorem dX11_passed_54 : decode cX11_passed 54 = .ok (.baload, 1) := by decide +kernel
theorem dX11_passed_55 : decode cX11_passed 55 = .ok (.ifCond .eq 7, 3) := by decide +kernel
theorem dX11_passed_58 : decode cX11_passed 58 = .ok (.iconst 1, 1) := by decide +kernel
theorem dX11_passed_59 : decode cX11_passed 59 = .ok (.goto 4, 3) := by decide +kernel
theorem dX11_passed_62 : decode cX11_passed 62 = .ok (.iconst 0, 1) := by decide +kernel
theorem dX11_passed_63 : decode cX11_passed 63 = .ok (.iadd, 1) := by decide +kernel
theorem dX11_passed_64 : decode cX11_passed 64 = .ok (.istore_n 3, 1) := by decide +kernel
theorem dX11_passed_65 : decode cX11_passed 65 = .ok (.iinc 4 1, 3) := by decide +kernel
theorem dX11_passed_68 : decode cX11_passed 68 = .ok (.goto (-46), 3) := by decide +kernel
theorem dX11_passed_71 : decode cX11_passed 71 = .ok (.iload_n 3, 1) := by decide +kernel
theorem dX11_passed_72 : decode cX11_passed 72 = .ok (.ireturn, 1) := by decide +kernel
theorem dX11_parts_0 : decode cX11_parts 0 = .ok (.aload_n 0, 1) := by decide +kernel
theorem dX11_parts_1 : decode cX11_parts 1 = .ok (.aload_n 0, 1) := by decide +kernel
theorem dX11_parts_2 : decode cX11_parts 2 = .ok (.iload_n 1, 1) := by decide +kernel
theorem dX11_parts_3 : decode cX11_parts 3 = .ok (.invokevirtual 533, 3) := by decide +kernel
theorem dX11_parts_6 : decode cX11_parts 6 = .ok (.iconst 1, 1) := by decide +kernel
theorem dX11_parts_7 : decode cX11_parts 7 = .ok (.iconst 1, 1) := by decide +kernel
theorem dX11_parts_8 : decode cX11_parts 8 = .ok (.invokevirtual 185, 3) := by decide +kernel
theorem dX11_parts_11 : decode cX11_parts 11 = .ok (.ifCond .ne 5, 3) := by decide +kernel
theorem dX11_parts_14 : decode cX11_parts 14 = .ok (.iconst 0, 1) := by decide +kernel
theorem dX11_parts_15 : decode cX11_parts 15 = .ok (.ireturn, 1) := by decide +kernel
theorem dX11_parts_16 : decode cX11_parts 16 = .ok (.aload_n 0, 1) := by decide +kernel
theorem dX11_parts_17 : decode cX11_parts 17 = .ok (.iload_n 1, 1) := by decide +kernel
theorem dX11_parts_18 : decode cX11_parts 18 = .ok (.invokevirtual 515, 3) := by decide +kernel
theorem dX11_parts_21 : decode cX11_parts 21 = .ok (.aload_n 0, 1) := by decide +kernel
theorem dX11_parts_22 : decode cX11_parts 22 = .ok (.getfield 269, 3) := by decide +kernel
theorem dX11_parts_25 : decode cX11_parts 25 = .ok (.ireturn, 1) := by decide +kernel
theorem dX11_isAlike_0 : decode cX11_isAlike 0 = .ok (.aload_n 0, 1) := by decide +kernel
theorem dX11_isAlike_1 : decode cX11_isAlike 1 = .ok (.getfield 32, 3) := by decide +kernel
theorem dX11_isAlike_4 : decode cX11_isAlike 4 = .ok (.iload_n 1, 1) := by decide +kernel
theorem dX11_isAlike_5 : decode cX11_isAlike 5 = .ok (.iaload, 1) := by decide +kernel
theorem dX11_isAlike_6 : decode cX11_isAlike 6 = .ok (.aload_n 0, 1) := by decide +kernel
theorem dX11_isAlike_7 : decode cX11_isAlike 7 = .ok (.getfield 29, 3) := by decide +kernel
theorem dX11_isAlike_10 : decode cX11_isAlike 10 = .ok (.iload_n 1, 1) := by decide +kernel
theorem dX11_isAlike_11 : decode cX11_isAlike 11 = .ok (.iaload, 1) := by decide +kernel
theorem dX11_isAlike_12 : decode cX11_isAlike 12 = .ok (.isub, 1) := by decide +kernel
theorem dX11_isAlike_13 : decode cX11_isAlike 13 = .ok (.istore_n 3, 1) := by decide +kernel
theorem dX11_isAlike_14 : decode cX11_isAlike 14 = .ok (.iload_n 3, 1) := by decide +kernel
theorem dX11_isAlike_15 : decode cX11_isAlike 15 = .ok (.aload_n 0, 1) := by decide +kernel
theorem dX11_isAlike_16 : decode cX11_isAlike 16 = .ok (.getfield 92, 3) := by decide +kernel
theorem dX11_isAlike_19 : decode cX11_isAlike 19 = .ok (.iload_n 2, 1) := by decide +kernel
theorem dX11_isAlike_20 : decode cX11_isAlike 20 = .ok (.iaload, 1) := by decide +kernel
theorem dX11_isAlike_21 : decode cX11_isAlike 21 = .ok (.aload_n 0, 1) := by decide +kernel
theorem dX11_isAlike_22 : decode cX11_isAlike 22 = .ok (.getfield 89, 3) := by decide +kernel
theorem dX11_isAlike_25 : decode cX11_isAlike 25 = .ok (.iload_n 2, 1) := by decide +kernel
theorem dX11_isAlike_26 : decode cX11_isAlike 26 = .ok (.iaload, 1) := by decide +kernel
theorem dX11_isAlike_27 : decode cX11_isAlike 27 = .ok (.isub, 1) := by decide +kernel
theorem dX11_isAlike_28 : decode cX11_isAlike 28 = .ok (.if_icmp .ne 7, 3) := by decide +kernel
theorem dX11_isAlike_31 : decode cX11_isAlike 31 = .ok (.iconst 1, 1) := by decide +kernel
theorem dX11_isAlike_32 : decode cX11_isAlike 32 = .ok (.goto 4, 3) := by decide +kernel
theorem dX11_isAlike_35 : decode cX11_isAlike 35 = .ok (.iconst 0, 1) := by decide +kernel
theorem dX11_isAlike_36 : decode cX11_isAlike 36 = .ok (.istore 4, 2) := by decide +kernel
theorem dX11_isAlike_38 : decode cX11_isAlike 38 = .ok (.iconst 0, 1) := by decide +kernel
theorem dX11_isAlike_39 : decode cX11_isAlike 39 = .ok (.istore 5, 2) := by decide +kernel
theorem dX11_isAlike_41 : decode cX11_isAlike 41 = .ok (.iload 5, 2) := by decide +kernel
theorem dX11_isAlike_43 : decode cX11_isAlike 43 = .ok (.iload_n 3, 1) := by decide +kernel
theorem dX11_isAlike_44 : decode cX11_isAlike 44 = .ok (.if_icmp .gt 52, 3) := by decide +kernel
theorem dX11_isAlike_47 : decode cX11_isAlike 47 = .ok (.iload 4, 2) := by decide +kernel
theorem dX11_isAlike_49 : decode cX11_isAlike 49 = .ok (.ifCond .eq 47, 3) := by decide +kernel
theorem dX11_isAlike_52 : decode cX11_isAlike 52 = .ok (.aload_n 0, 1) := by decide +kernel
theorem dX11_isAlike_53 : decode cX11_isAlike 53 = .ok (.getfield 26, 3) := by decide +kernel
theorem dX11_isAlike_56 : decode cX11_isAlike 56 = .ok (.aload_n 0, 1) := by decide +kernel
theorem dX11_isAlike_57 : decode cX11_isAlike 57 = .ok (.getfield 29, 3) := by decide +kernel
theorem dX11_isAlike_60 : decode cX11_isAlike 60 = .ok (.iload_n 1, 1) := by decide +kernel
theorem dX11_isAlike_61 : decode cX11_isAlike 61 = .ok (.iaload, 1) := by decide +kernel
theorem dX11_isAlike_62 : decode cX11_isAlike 62 = .ok (.iload 5, 2) := by decide +kernel
theorem dX11_isAlike_64 : decode cX11_isAlike 64 = .ok (.iadd, 1) := by decide +kernel
theorem dX11_isAlike_65 : decode cX11_isAlike 65 = .ok (.iaload, 1) := by decide +kernel
theorem dX11_isAlike_66 : decode cX11_isAlike 66 = .ok (.aload_n 0, 1) := by decide +kernel
theorem dX11_isAlike_67 : decode cX11_isAlike 67 = .ok (.getfield 86, 3) := by decide +kernel
theorem dX11_isAlike_70 : decode cX11_isAlike 70 = .ok (.aload_n 0, 1) := by decide +kernel
theorem dX11_isAlike_71 : decode cX11_isAlike 71 = .ok (.getfield 89, 3) := by decide +kernel
theorem dX11_isAlike_74 : decode cX11_isAlike 74 = .ok (.iload_n 2, 1) := by decide +kernel
theorem dX11_isAlike_75 : decode cX11_isAlike 75 = .ok (.iaload, 1) := by decide +kernel
theorem dX11_isAlike_76 : decode cX11_isAlike 76 = .ok (.iload 5, 2) := by decide +kernel
theorem dX11_isAlike_78 : decode cX11_isAlike 78 = .ok (.iadd, 1) := by decide +kernel
theorem dX11_isAlike_79 : decode cX11_isAlike 79 = .ok (.iaload, 1) := by decide +kernel
theorem dX11_isAlike_80 : decode cX11_isAlike 80 = .ok (.if_icmp .ne 7, 3) := by decide +kernel
theorem dX11_isAlike_83 : decode cX11_isAlike 83 = .ok (.iconst 1, 1) := by decide +kernel
theorem dX11_isAlike_84 : decode cX11_isAlike 84 = .ok (.goto 4, 3) := by decide +kernel
theorem dX11_isAlike_87 : decode cX11_isAlike 87 = .ok (.iconst 0, 1) := by decide +kernel
theorem dX11_isAlike_88 : decode cX11_isAlike 88 = .ok (.istore 4, 2) := by decide +kernel
theorem dX11_isAlike_90 : decode cX11_isAlike 90 = .ok (.iinc 5 1, 3) := by decide +kernel
theorem dX11_isAlike_93 : decode cX11_isAlike 93 = .ok (.goto (-52), 3) := by decide +kernel
theorem dX11_isAlike_96 : decode cX11_isAlike 96 = .ok (.iload 4, 2) := by decide +kernel
theorem dX11_isAlike_98 : decode cX11_isAlike 98 = .ok (.ireturn, 1) := by decide +kernel
theorem dX11_shared_0 : decode cX11_shared 0 = .ok (.aload_n 0, 1) := by decide +kernel
theorem dX11_shared_1 : decode cX11_shared 1 = .ok (.iload_n 2, 1) := by decide +kernel
theorem dX11_shared_2 : decode cX11_shared 2 = .ok (.invokevirtual 515, 3) := by decide +kernel
theorem dX11_shared_5 : decode cX11_shared 5 = .ok (.aload_n 0, 1) := by decide +kernel
theorem dX11_shared_6 : decode cX11_shared 6 = .ok (.aload_n 0, 1) := by decide +kernel
theorem dX11_shared_7 : decode cX11_shared 7 = .ok (.getfield 269, 3) := by decide +kernel
theorem dX11_shared_10 : decode cX11_shared 10 = .ok (.putfield 544, 3) := by decide +kernel
theorem dX11_shared_13 : decode cX11_shared 13 = .ok (.iconst 0, 1) := by decide +kernel
theorem dX11_shared_14 : decode cX11_shared 14 = .ok (.istore_n 3, 1) := by decide +kernel
theorem dX11_shared_15 : decode cX11_shared 15 = .ok (.iload_n 3, 1) := by decide +kernel
theorem dX11_shared_16 : decode cX11_shared 16 = .ok (.aload_n 0, 1) := by decide +kernel
theorem dX11_shared_17 : decode cX11_shared 17 = .ok (.getfield 263, 3) := by decide +kernel
theorem dX11_shared_20 : decode cX11_shared 20 = .ok (.if_icmp .ge 21, 3) := by decide +kernel
theorem dX11_shared_23 : decode cX11_shared 23 = .ok (.aload_n 0, 1) := by decide +kernel
theorem dX11_shared_24 : decode cX11_shared 24 = .ok (.getfield 86, 3) := by decide +kernel
theorem dX11_shared_27 : decode cX11_shared 27 = .ok (.iload_n 3, 1) := by decide +kernel
theorem dX11_shared_28 : decode cX11_shared 28 = .ok (.aload_n 0, 1) := by decide +kernel
theorem dX11_shared_29 : decode cX11_shared 29 = .ok (.getfield 26, 3) := by decide +kernel
theorem dX11_shared_32 : decode cX11_shared 32 = .ok (.iload_n 3, 1) := by decide +kernel
theorem dX11_shared_33 : decode cX11_shared 33 = .ok (.iaload, 1) := by decide +kernel
theorem dX11_shared_34 : decode cX11_shared 34 = .ok (.iastore, 1) := by decide +kernel
theorem dX11_shared_35 : decode cX11_shared 35 = .ok (.iinc 3 1, 3) := by decide +kernel
theorem dX11_shared_38 : decode cX11_shared 38 = .ok (.goto (-23), 3) := by decide +kernel
theorem dX11_shared_41 : decode cX11_shared 41 = .ok (.iconst 0, 1) := by decide +kernel
theorem dX11_shared_42 : decode cX11_shared 42 = .ok (.istore_n 3, 1) := by decide +kernel
theorem dX11_shared_43 : decode cX11_shared 43 = .ok (.iload_n 3, 1) := by decide +kernel
theorem dX11_shared_44 : decode cX11_shared 44 = .ok (.aload_n 0, 1) := by decide +kernel
theorem dX11_shared_45 : decode cX11_shared 45 = .ok (.getfield 269, 3) := by decide +kernel
theorem dX11_shared_48 : decode cX11_shared 48 = .ok (.if_icmp .ge 40, 3) := by decide +kernel
theorem dX11_shared_51 : decode cX11_shared 51 = .ok (.aload_n 0, 1) := by decide +kernel
theorem dX11_shared_52 : decode cX11_shared 52 = .ok (.getfield 89, 3) := by decide +kernel
theorem dX11_shared_55 : decode cX11_shared 55 = .ok (.iload_n 3, 1) := by decide +kernel
theorem dX11_shared_56 : decode cX11_shared 56 = .ok (.aload_n 0, 1) := by decide +kernel
theorem dX11_shared_57 : decode cX11_shared 57 = .ok (.getfield 29, 3) := by decide +kernel
theorem dX11_shared_60 : decode cX11_shared 60 = .ok (.iload_n 3, 1) := by decide +kernel
theorem dX11_shared_61 : decode cX11_shared 61 = .ok (.iaload, 1) := by decide +kernel
theorem dX11_shared_62 : decode cX11_shared 62 = .ok (.iastore, 1) := by decide +kernel
theorem dX11_shared_63 : decode cX11_shared 63 = .ok (.aload_n 0, 1) := by decide +kernel
theorem dX11_shared_64 : decode cX11_shared 64 = .ok (.getfield 92, 3) := by decide +kernel
theorem dX11_shared_67 : decode cX11_shared 67 = .ok (.iload_n 3, 1) := by decide +kernel
theorem dX11_shared_68 : decode cX11_shared 68 = .ok (.aload_n 0, 1) := by decide +kernel
theorem dX11_shared_69 : decode cX11_shared 69 = .ok (.getfield 32, 3) := by decide +kernel
theorem dX11_shared_72 : decode cX11_shared 72 = .ok (.iload_n 3, 1) := by decide +kernel
theorem dX11_shared_73 : decode cX11_shared 73 = .ok (.iaload, 1) := by decide +kernel
theorem dX11_shared_74 : decode cX11_shared 74 = .ok (.iastore, 1) := by decide +kernel
theorem dX11_shared_75 : decode cX11_shared 75 = .ok (.aload_n 0, 1) := by decide +kernel
theorem dX11_shared_76 : decode cX11_shared 76 = .ok (.getfield 95, 3) := by decide +kernel
theorem dX11_shared_79 : decode cX11_shared 79 = .ok (.iload_n 3, 1) := by decide +kernel
theorem dX11_shared_80 : decode cX11_shared 80 = .ok (.iconst 0, 1) := by decide +kernel
theorem dX11_shared_81 : decode cX11_shared 81 = .ok (.bastore, 1) := by decide +kernel
theorem dX11_shared_82 : decode cX11_shared 82 = .ok (.iinc 3 1, 3) := by decide +kernel
theorem dX11_shared_85 : decode cX11_shared 85 = .ok (.goto (-42), 3) := by decide +kernel
theorem dX11_shared_88 : decode cX11_shared 88 = .ok (.aload_n 0, 1) := by decide +kernel
theorem dX11_shared_89 : decode cX11_shared 89 = .ok (.iload_n 1, 1) := by decide +kernel
theorem dX11_shared_90 : decode cX11_shared 90 = .ok (.invokevirtual 515, 3) := by decide +kernel
theorem dX11_shared_93 : decode cX11_shared 93 = .ok (.iconst 0, 1) := by decide +kernel
theorem dX11_shared_94 : decode cX11_shared 94 = .ok (.istore_n 3, 1) := by decide +kernel
theorem dX11_shared_95 : decode cX11_shared 95 = .ok (.iconst 0, 1) := by decide +kernel
theorem dX11_shared_96 : decode cX11_shared 96 = .ok (.istore 4, 2) := by decide +kernel
theorem dX11_shared_98 : decode cX11_shared 98 = .ok (.iload 4, 2) := by decide +kernel
theorem dX11_shared_100 : decode cX11_shared 100 = .ok (.aload_n 0, 1) := by decide +kernel
theorem dX11_shared_101 : decode cX11_shared 101 = .ok (.getfield 269, 3) := by decide +kernel
theorem dX11_shared_104 : decode cX11_shared 104 = .ok (.if_icmp .ge 103, 3) := by decide +kernel
theorem dX11_shared_107 : decode cX11_shared 107 = .ok (.iconst 0, 1) := by decide +kernel
theorem dX11_shared_108 : decode cX11_shared 108 = .ok (.istore 5, 2) := by decide +kernel
theorem dX11_shared_110 : decode cX11_shared 110 = .ok (.iconst 0, 1) := by decide +kernel
theorem dX11_shared_111 : decode cX11_shared 111 = .ok (.istore 6, 2) := by decide +kernel
theorem dX11_shared_113 : decode cX11_shared 113 = .ok (.iload 6, 2) := by decide +kernel
theorem dX11_shared_115 : decode cX11_shared 115 = .ok (.aload_n 0, 1) := by decide +kernel
theorem dX11_shared_116 : decode cX11_shared 116 = .ok (.getfield 544, 3) := by decide +kernel
theorem dX11_shared_119 : decode cX11_shared 119 = .ok (.if_icmp .ge 69, 3) := by decide +kernel
theorem dX11_shared_122 : decode cX11_shared 122 = .ok (.iload 5, 2) := by decide +kernel
theorem dX11_shared_124 : decode cX11_shared 124 = .ok (.ifCond .ne 64, 3) := by decide +kernel
theorem dX11_shared_127 : decode cX11_shared 127 = .ok (.aload_n 0, 1) := by decide +kernel
theorem dX11_shared_128 : decode cX11_shared 128 = .ok (.getfield 95, 3) := by decide +kernel
theorem dX11_shared_131 : decode cX11_shared 131 = .ok (.iload 6, 2) := by decide +kernel
theorem dX11_shared_133 : decode cX11_shared 133 = .ok (.baload, 1) := by decide +kernel
theorem dX11_shared_134 : decode cX11_shared 134 = .ok (.ifCond .ne 18, 3) := by decide +kernel
theorem dX11_shared_137 : decode cX11_shared 137 = .ok (.aload_n 0, 1) := by decide +kernel
theorem dX11_shared_138 : decode cX11_shared 138 = .ok (.iload 4, 2) := by decide +kernel
theorem dX11_shared_140 : decode cX11_shared 140 = .ok (.iload 6, 2) := by decide +kernel
theorem dX11_shared_142 : decode cX11_shared 142 = .ok (.invokevirtual 547, 3) := by decide +kernel
theorem dX11_shared_145 : decode cX11_shared 145 = .ok (.ifCond .eq 7, 3) := by decide +kernel
theorem dX11_shared_148 : decode cX11_shared 148 = .ok (.iconst 1, 1) := by decide +kernel
theorem dX11_shared_149 : decode cX11_shared 149 = .ok (.goto 4, 3) := by decide +kernel
theorem dX11_shared_152 : decode cX11_shared 152 = .ok (.iconst 0, 1) := by decide +kernel
theorem dX11_shared_153 : decode cX11_shared 153 = .ok (.istore 5, 2) := by decide +kernel
theorem dX11_shared_155 : decode cX11_shared 155 = .ok (.aload_n 0, 1) := by decide +kernel
theorem dX11_shared_156 : decode cX11_shared 156 = .ok (.getfield 95, 3) := by decide +kernel
theorem dX11_shared_159 : decode cX11_shared 159 = .ok (.iload 6, 2) := by decide +kernel
theorem dX11_shared_161 : decode cX11_shared 161 = .ok (.aload_n 0, 1) := by decide +kernel
theorem dX11_shared_162 : decode cX11_shared 162 = .ok (.getfield 95, 3) := by decide +kernel
theorem dX11_shared_165 : decode cX11_shared 165 = .ok (.iload 6, 2) := by decide +kernel
theorem dX11_shared_167 : decode cX11_shared 167 = .ok (.baload, 1) := by decide +kernel
theorem dX11_shared_168 : decode cX11_shared 168 = .ok (.ifCond .ne 8, 3) := by decide +kernel
theorem dX11_shared_171 : decode cX11_shared 171 = .ok (.iload 5, 2) := by decide +kernel
theorem dX11_shared_173 : decode cX11_shared 173 = .ok (.ifCond .eq 7, 3) := by decide +kernel
theorem dX11_shared_176 : decode cX11_shared 176 = .ok (.iconst 1, 1) := by decide +kernel
theorem dX11_shared_177 : decode cX11_shared 177 = .ok (.goto 4, 3) := by decide +kernel
theorem dX11_shared_180 : decode cX11_shared 180 = .ok (.iconst 0, 1) := by decide +kernel
theorem dX11_shared_181 : decode cX11_shared 181 = .ok (.bastore, 1) := by decide +kernel
theorem dX11_shared_182 : decode cX11_shared 182 = .ok (.iinc 6 1, 3) := by decide +kernel
theorem dX11_shared_185 : decode cX11_shared 185 = .ok (.goto (-72), 3) := by decide +kernel
theorem dX11_shared_188 : decode cX11_shared 188 = .ok (.iload_n 3, 1) := by decide +kernel
theorem dX11_shared_189 : decode cX11_shared 189 = .ok (.iload 5, 2) := by decide +kernel
theorem dX11_shared_191 : decode cX11_shared 191 = .ok (.ifCond .eq 7, 3) := by decide +kernel
theorem dX11_shared_194 : decode cX11_shared 194 = .ok (.iconst 1, 1) := by decide +kernel
theorem dX11_shared_195 : decode cX11_shared 195 = .ok (.goto 4, 3) := by decide +kernel
theorem dX11_shared_198 : decode cX11_shared 198 = .ok (.iconst 0, 1) := by decide +kernel
theorem dX11_shared_199 : decode cX11_shared 199 = .ok (.iadd, 1) := by decide +kernel
theorem dX11_shared_200 : decode cX11_shared 200 = .ok (.istore_n 3, 1) := by decide +kernel
theorem dX11_shared_201 : decode cX11_shared 201 = .ok (.iinc 4 1, 3) := by decide +kernel
theorem dX11_shared_204 : decode cX11_shared 204 = .ok (.goto (-106), 3) := by decide +kernel
theorem dX11_shared_207 : decode cX11_shared 207 = .ok (.iload_n 3, 1) := by decide +kernel
theorem dX11_shared_208 : decode cX11_shared 208 = .ok (.ireturn, 1) := by decide +kernel
theorem dX11_likenessOf_0 : decode cX11_likenessOf 0 = .ok (.aload_n 0, 1) := by decide +kernel
theorem dX11_likenessOf_1 : decode cX11_likenessOf 1 = .ok (.iload_n 1, 1) := by decide +kernel
theorem dX11_likenessOf_2 : decode cX11_likenessOf 2 = .ok (.iload_n 2, 1) := by decide +kernel
theorem dX11_likenessOf_3 : decode cX11_likenessOf 3 = .ok (.invokevirtual 550, 3) := by decide +kernel
theorem dX11_likenessOf_6 : decode cX11_likenessOf 6 = .ok (.istore_n 3, 1) := by decide +kernel
theorem dX11_likenessOf_7 : decode cX11_likenessOf 7 = .ok (.aload_n 0, 1) := by decide +kernel
theorem dX11_likenessOf_8 : decode cX11_likenessOf 8 = .ok (.getfield 269, 3) := by decide +kernel
theorem dX11_likenessOf_11 : decode cX11_likenessOf 11 = .ok (.aload_n 0, 1) := by decide +kernel
theorem dX11_likenessOf_12 : decode cX11_likenessOf 12 = .ok (.getfield 544, 3) := by decide +kernel
theorem dX11_likenessOf_15 : decode cX11_likenessOf 15 = .ok (.iadd, 1) := by decide +kernel
theorem dX11_likenessOf_16 : decode cX11_likenessOf 16 = .ok (.ifCond .ne 7, 3) := by decide +kernel
theorem dX11_likenessOf_19 : decode cX11_likenessOf 19 = .ok (.iconst 0, 1) := by decide +kernel
theorem dX11_likenessOf_20 : decode cX11_likenessOf 20 = .ok (.goto 18, 3) := by decide +kernel
theorem dX11_likenessOf_23 : decode cX11_likenessOf 23 = .ok (.sipush 200, 3) := by decide +kernel
theorem dX11_likenessOf_26 : decode cX11_likenessOf 26 = .ok (.iload_n 3, 1) := by decide +kernel
theorem dX11_likenessOf_27 : decode cX11_likenessOf 27 = .ok (.imul, 1) := by decide +kernel
theorem dX11_likenessOf_28 : decode cX11_likenessOf 28 = .ok (.aload_n 0, 1) := by decide +kernel
theorem dX11_likenessOf_29 : decode cX11_likenessOf 29 = .ok (.getfield 269, 3) := by decide +kernel
theorem dX11_likenessOf_32 : decode cX11_likenessOf 32 = .ok (.aload_n 0, 1) := by decide +kernel
theorem dX11_likenessOf_33 : decode cX11_likenessOf 33 = .ok (.getfield 544, 3) := by decide +kernel
theorem dX11_likenessOf_36 : decode cX11_likenessOf 36 = .ok (.iadd, 1) := by decide +kernel
theorem dX11_likenessOf_37 : decode cX11_likenessOf 37 = .ok (.idiv, 1) := by decide +kernel
theorem dX11_likenessOf_38 : decode cX11_likenessOf 38 = .ok (.ireturn, 1) := by decide +kernel
theorem dX11_areAnswers_0 : decode cX11_areAnswers 0 = .ok (.aload_n 0, 1) := by decide +kernel
theorem dX11_areAnswers_1 : decode cX11_areAnswers 1 = .ok (.aload_n 0, 1) := by decide +kernel
theorem dX11_areAnswers_2 : decode cX11_areAnswers 2 = .ok (.iload_n 1, 1) := by decide +kernel
theorem dX11_areAnswers_3 : decode cX11_areAnswers 3 = .ok (.invokevirtual 533, 3) := by decide +kernel
theorem dX11_areAnswers_6 : decode cX11_areAnswers 6 = .ok (.ifCond .eq 15, 3) := by decide +kernel
theorem dX11_areAnswers_9 : decode cX11_areAnswers 9 = .ok (.aload_n 0, 1) := by decide +kernel
theorem dX11_areAnswers_10 : decode cX11_areAnswers 10 = .ok (.iload_n 2, 1) := by decide +kernel
theorem dX11_areAnswers_11 : decode cX11_areAnswers 11 = .ok (.invokevirtual 533, 3) := by decide +kernel
theorem dX11_areAnswers_14 : decode cX11_areAnswers 14 = .ok (.ifCond .eq 7, 3) := by decide +kernel
theorem dX11_areAnswers_17 : decode cX11_areAnswers 17 = .ok (.iconst 1, 1) := by decide +kernel
theorem dX11_areAnswers_18 : decode cX11_areAnswers 18 = .ok (.goto 4, 3) := by decide +kernel
theorem dX11_areAnswers_21 : decode cX11_areAnswers 21 = .ok (.iconst 0, 1) := by decide +kernel
theorem dX11_areAnswers_22 : decode cX11_areAnswers 22 = .ok (.iconst 1, 1) := by decide +kernel
theorem dX11_areAnswers_23 : decode cX11_areAnswers 23 = .ok (.iconst 1, 1) := by decide +kernel
theorem dX11_areAnswers_24 : decode cX11_areAnswers 24 = .ok (.invokevirtual 185, 3) := by decide +kernel
theorem dX11_areAnswers_27 : decode cX11_areAnswers 27 = .ok (.ireturn, 1) := by decide +kernel
theorem dX11_common_0 : decode cX11_common 0 = .ok (.aload_n 0, 1) := by decide +kernel
theorem dX11_common_1 : decode cX11_common 1 = .ok (.iload_n 1, 1) := by decide +kernel
theorem dX11_common_2 : decode cX11_common 2 = .ok (.iload_n 2, 1) := by decide +kernel
theorem dX11_common_3 : decode cX11_common 3 = .ok (.invokevirtual 553, 3) := by decide +kernel
theorem dX11_common_6 : decode cX11_common 6 = .ok (.ifCond .eq 12, 3) := by decide +kernel
theorem dX11_common_9 : decode cX11_common 9 = .ok (.aload_n 0, 1) := by decide +kernel
theorem dX11_common_10 : decode cX11_common 10 = .ok (.iload_n 1, 1) := by decide +kernel
theorem dX11_common_11 : decode cX11_common 11 = .ok (.iload_n 2, 1) := by decide +kernel
theorem dX11_common_12 : decode cX11_common 12 = .ok (.invokevirtual 550, 3) := by decide +kernel
theorem dX11_common_15 : decode cX11_common 15 = .ok (.goto 4, 3) := by decide +kernel
theorem dX11_common_18 : decode cX11_common 18 = .ok (.iconst 0, 1) := by decide +kernel
theorem dX11_common_19 : decode cX11_common 19 = .ok (.ireturn, 1) := by decide +kernel
theorem dX11_likeness_0 : decode cX11_likeness 0 = .ok (.aload_n 0, 1) := by decide +kernel
theorem dX11_likeness_1 : decode cX11_likeness 1 = .ok (.iload_n 1, 1) := by decide +kernel
theorem dX11_likeness_2 : decode cX11_likeness 2 = .ok (.iload_n 2, 1) := by decide +kernel
theorem dX11_likeness_3 : decode cX11_likeness 3 = .ok (.invokevirtual 553, 3) := by decide +kernel
theorem dX11_likeness_6 : decode cX11_likeness 6 = .ok (.ifCond .eq 12, 3) := by decide +kernel
theorem dX11_likeness_9 : decode cX11_likeness 9 = .ok (.aload_n 0, 1) := by decide +kernel
theorem dX11_likeness_10 : decode cX11_likeness 10 = .ok (.iload_n 1, 1) := by decide +kernel
theorem dX11_likeness_11 : decode cX11_likeness 11 = .ok (.iload_n 2, 1) := by decide +kernel
theorem dX11_likeness_12 : decode cX11_likeness 12 = .ok (.invokevirtual 556, 3) := by decide +kernel
theorem dX11_likeness_15 : decode cX11_likeness 15 = .ok (.goto 4, 3) := by decide +kernel
theorem dX11_likeness_18 : decode cX11_likeness 18 = .ok (.iconst 0, 1) := by decide +kernel
theorem dX11_likeness_19 : decode cX11_likeness 19 = .ok (.ireturn, 1) := by decide +kernel
theorem dX11_isDoubtful_0 : decode cX11_isDoubtful 0 = .ok (.iload_n 2, 1) := by decide +kernel
theorem dX11_isDoubtful_1 : decode cX11_isDoubtful 1 = .ok (.iload_n 1, 1) := by decide +kernel
theorem dX11_isDoubtful_2 : decode cX11_isDoubtful 2 = .ok (.if_icmp .ge 37, 3) := by decide +kernel
theorem dX11_isDoubtful_5 : decode cX11_isDoubtful 5 = .ok (.aload_n 0, 1) := by decide +kernel
theorem dX11_isDoubtful_6 : decode cX11_isDoubtful 6 = .ok (.getfield 147, 3) := by decide +kernel
theorem dX11_isDoubtful_9 : decode cX11_isDoubtful 9 = .ok (.iload_n 1, 1) := by decide +kernel
theorem dX11_isDoubtful_10 : decode cX11_isDoubtful 10 = .ok (.iaload, 1) := by decide +kernel
theorem dX11_isDoubtful_11 : decode cX11_isDoubtful 11 = .ok (.aload_n 0, 1) := by decide +kernel
theorem dX11_isDoubtful_12 : decode cX11_isDoubtful 12 = .ok (.getfield 147, 3) := by decide +kernel
theorem dX11_isDoubtful_15 : decode cX11_isDoubtful 15 = .ok (.iload_n 2, 1) := by decide +kernel
theorem dX11_isDoubtful_16 : decode cX11_isDoubtful 16 = .ok (.iaload, 1) := by decide +kernel
theorem dX11_isDoubtful_17 : decode cX11_isDoubtful 17 = .ok (.if_icmp .eq 22, 3) := by decide +kernel
theorem dX11_isDoubtful_20 : decode cX11_isDoubtful 20 = .ok (.aload_n 0, 1) := by decide +kernel
theorem dX11_isDoubtful_21 : decode cX11_isDoubtful 21 = .ok (.getfield 150, 3) := by decide +kernel
theorem dX11_isDoubtful_24 : decode cX11_isDoubtful 24 = .ok (.iload_n 1, 1) := by decide +kernel
theorem dX11_isDoubtful_25 : decode cX11_isDoubtful 25 = .ok (.iaload, 1) := by decide +kernel
theorem dX11_isDoubtful_26 : decode cX11_isDoubtful 26 = .ok (.aload_n 0, 1) := by decide +kernel
theorem dX11_isDoubtful_27 : decode cX11_isDoubtful 27 = .ok (.getfield 150, 3) := by decide +kernel
theorem dX11_isDoubtful_30 : decode cX11_isDoubtful 30 = .ok (.iload_n 2, 1) := by decide +kernel
theorem dX11_isDoubtful_31 : decode cX11_isDoubtful 31 = .ok (.iaload, 1) := by decide +kernel
theorem dX11_isDoubtful_32 : decode cX11_isDoubtful 32 = .ok (.if_icmp .ne 7, 3) := by decide +kernel
theorem dX11_isDoubtful_35 : decode cX11_isDoubtful 35 = .ok (.iconst 1, 1) := by decide +kernel
theorem dX11_isDoubtful_36 : decode cX11_isDoubtful 36 = .ok (.goto 4, 3) := by decide +kernel
theorem dX11_isDoubtful_39 : decode cX11_isDoubtful 39 = .ok (.iconst 0, 1) := by decide +kernel
theorem dX11_isDoubtful_40 : decode cX11_isDoubtful 40 = .ok (.istore_n 3, 1) := by decide +kernel
theorem dX11_isDoubtful_41 : decode cX11_isDoubtful 41 = .ok (.iload_n 3, 1) := by decide +kernel
theorem dX11_isDoubtful_42 : decode cX11_isDoubtful 42 = .ok (.ifCond .eq 28, 3) := by decide +kernel
theorem dX11_isDoubtful_45 : decode cX11_isDoubtful 45 = .ok (.aload_n 0, 1) := by decide +kernel
theorem dX11_isDoubtful_46 : decode cX11_isDoubtful 46 = .ok (.iload_n 1, 1) := by decide +kernel
theorem dX11_isDoubtful_47 : decode cX11_isDoubtful 47 = .ok (.iload_n 2, 1) := by decide +kernel
theorem dX11_isDoubtful_48 : decode cX11_isDoubtful 48 = .ok (.invokevirtual 556, 3) := by decide +kernel
theorem dX11_isDoubtful_51 : decode cX11_isDoubtful 51 = .ok (.bipush 80, 2) := by decide +kernel
theorem dX11_isDoubtful_53 : decode cX11_isDoubtful 53 = .ok (.if_icmp .lt 17, 3) := by decide +kernel
theorem dX11_isDoubtful_56 : decode cX11_isDoubtful 56 = .ok (.aload_n 0, 1) := by decide +kernel
theorem dX11_isDoubtful_57 : decode cX11_isDoubtful 57 = .ok (.iload_n 1, 1) := by decide +kernel
theorem dX11_isDoubtful_58 : decode cX11_isDoubtful 58 = .ok (.iload_n 2, 1) := by decide +kernel
theorem dX11_isDoubtful_59 : decode cX11_isDoubtful 59 = .ok (.invokevirtual 550, 3) := by decide +kernel
theorem dX11_isDoubtful_62 : decode cX11_isDoubtful 62 = .ok (.iconst 3, 1) := by decide +kernel
theorem dX11_isDoubtful_63 : decode cX11_isDoubtful 63 = .ok (.if_icmp .lt 7, 3) := by decide +kernel
theorem dX11_isDoubtful_66 : decode cX11_isDoubtful 66 = .ok (.iconst 1, 1) := by decide +kernel
theorem dX11_isDoubtful_67 : decode cX11_isDoubtful 67 = .ok (.goto 4, 3) := by decide +kernel
theorem dX11_isDoubtful_70 : decode cX11_isDoubtful 70 = .ok (.iconst 0, 1) := by decide +kernel
theorem dX11_isDoubtful_71 : decode cX11_isDoubtful 71 = .ok (.ireturn, 1) := by decide +kernel
theorem dX11_accuse_0 : decode cX11_accuse 0 = .ok (.aload_n 0, 1) := by decide +kernel
theorem dX11_accuse_1 : decode cX11_accuse 1 = .ok (.iload_n 1, 1) := by decide +kernel
theorem dX11_accuse_2 : decode cX11_accuse 2 = .ok (.invokevirtual 533, 3) := by decide +kernel
theorem dX11_accuse_5 : decode cX11_accuse 5 = .ok (.ifCond .eq 15, 3) := by decide +kernel
theorem dX11_accuse_8 : decode cX11_accuse 8 = .ok (.aload_n 0, 1) := by decide +kernel
theorem dX11_accuse_9 : decode cX11_accuse 9 = .ok (.iload_n 2, 1) := by decide +kernel
theorem dX11_accuse_10 : decode cX11_accuse 10 = .ok (.invokevirtual 533, 3) := by decide +kernel
theorem dX11_accuse_13 : decode cX11_accuse 13 = .ok (.ifCond .eq 7, 3) := by decide +kernel
theorem dX11_accuse_16 : decode cX11_accuse 16 = .ok (.iconst 1, 1) := by decide +kernel
theorem dX11_accuse_17 : decode cX11_accuse 17 = .ok (.goto 4, 3) := by decide +kernel
theorem dX11_accuse_20 : decode cX11_accuse 20 = .ok (.iconst 0, 1) := by decide +kernel
theorem dX11_accuse_21 : decode cX11_accuse 21 = .ok (.istore_n 3, 1) := by decide +kernel
theorem dX11_accuse_22 : decode cX11_accuse 22 = .ok (.aload_n 0, 1) := by decide +kernel
theorem dX11_accuse_23 : decode cX11_accuse 23 = .ok (.iload_n 3, 1) := by decide +kernel
theorem dX11_accuse_24 : decode cX11_accuse 24 = .ok (.iload_n 3, 1) := by decide +kernel
theorem dX11_accuse_25 : decode cX11_accuse 25 = .ok (.ifCond .eq 25, 3) := by decide +kernel
theorem dX11_accuse_28 : decode cX11_accuse 28 = .ok (.aload_n 0, 1) := by decide +kernel
theorem dX11_accuse_29 : decode cX11_accuse 29 = .ok (.getfield 156, 3) := by decide +kernel
theorem dX11_accuse_32 : decode cX11_accuse 32 = .ok (.iload_n 1, 1) := by decide +kernel
theorem dX11_accuse_33 : decode cX11_accuse 33 = .ok (.baload, 1) := by decide +kernel
theorem dX11_accuse_34 : decode cX11_accuse 34 = .ok (.ifCond .ne 16, 3) := by decide +kernel
theorem dX11_accuse_37 : decode cX11_accuse 37 = .ok (.aload_n 0, 1) := by decide +kernel
theorem dX11_accuse_38 : decode cX11_accuse 38 = .ok (.iload_n 1, 1) := by decide +kernel
theorem dX11_accuse_39 : decode cX11_accuse 39 = .ok (.iload_n 2, 1) := by decide +kernel
theorem dX11_accuse_40 : decode cX11_accuse 40 = .ok (.invokevirtual 559, 3) := by decide +kernel
theorem dX11_accuse_43 : decode cX11_accuse 43 = .ok (.ifCond .eq 7, 3) := by decide +kernel
theorem dX11_accuse_46 : decode cX11_accuse 46 = .ok (.iconst 1, 1) := by decide +kernel
theorem dX11_accuse_47 : decode cX11_accuse 47 = .ok (.goto 4, 3) := by decide +kernel
theorem dX11_accuse_50 : decode cX11_accuse 50 = .ok (.iconst 0, 1) := by decide +kernel
theorem dX11_accuse_51 : decode cX11_accuse 51 = .ok (.iconst 1, 1) := by decide +kernel
theorem dX11_accuse_52 : decode cX11_accuse 52 = .ok (.invokevirtual 185, 3) := by decide +kernel
theorem dX11_accuse_55 : decode cX11_accuse 55 = .ok (.ifCond .ne 5, 3) := by decide +kernel
theorem dX11_accuse_58 : decode cX11_accuse 58 = .ok (.iconst 0, 1) := by decide +kernel
theorem dX11_accuse_59 : decode cX11_accuse 59 = .ok (.ireturn, 1) := by decide +kernel
theorem dX11_accuse_60 : decode cX11_accuse 60 = .ok (.aload_n 0, 1) := by decide +kernel
theorem dX11_accuse_61 : decode cX11_accuse 61 = .ok (.iload_n 1, 1) := by decide +kernel
theorem dX11_accuse_62 : decode cX11_accuse 62 = .ok (.invokevirtual 523, 3) := by decide +kernel
theorem dX11_accuse_65 : decode cX11_accuse 65 = .ok (.istore 4, 2) := by decide +kernel
theorem dX11_accuse_67 : decode cX11_accuse 67 = .ok (.aload_n 0, 1) := by decide +kernel
theorem dX11_accuse_68 : decode cX11_accuse 68 = .ok (.getfield 156, 3) := by decide +kernel
theorem dX11_accuse_71 : decode cX11_accuse 71 = .ok (.iload_n 1, 1) := by decide +kernel
theorem dX11_accuse_72 : decode cX11_accuse 72 = .ok (.iconst 1, 1) := by decide +kernel
theorem dX11_accuse_73 : decode cX11_accuse 73 = .ok (.bastore, 1) := by decide +kernel
theorem dX11_accuse_74 : decode cX11_accuse 74 = .ok (.iload 4, 2) := by decide +kernel
theorem dX11_accuse_76 : decode cX11_accuse 76 = .ok (.ireturn, 1) := by decide +kernel
theorem dX11_clear_0 : decode cX11_clear 0 = .ok (.aload_n 0, 1) := by decide +kernel
theorem dX11_clear_1 : decode cX11_clear 1 = .ok (.iload_n 1, 1) := by decide +kernel
theorem dX11_clear_2 : decode cX11_clear 2 = .ok (.invokevirtual 533, 3) := by decide +kernel
theorem dX11_clear_5 : decode cX11_clear 5 = .ok (.istore_n 2, 1) := by decide +kernel
theorem dX11_clear_6 : decode cX11_clear 6 = .ok (.aload_n 0, 1) := by decide +kernel
theorem dX11_clear_7 : decode cX11_clear 7 = .ok (.iload_n 2, 1) := by decide +kernel
theorem dX11_clear_8 : decode cX11_clear 8 = .ok (.iload_n 2, 1) := by decide +kernel
theorem dX11_clear_9 : decode cX11_clear 9 = .ok (.ifCond .eq 16, 3) := by decide +kernel
theorem dX11_clear_12 : decode cX11_clear 12 = .ok (.aload_n 0, 1) := by decide +kernel
theorem dX11_clear_13 : decode cX11_clear 13 = .ok (.getfield 156, 3) := by decide +kernel
theorem dX11_clear_16 : decode cX11_clear 16 = .ok (.iload_n 1, 1) := by decide +kernel
theorem dX11_clear_17 : decode cX11_clear 17 = .ok (.baload, 1) := by decide +kernel
theorem dX11_clear_18 : decode cX11_clear 18 = .ok (.ifCond .eq 7, 3) := by decide +kernel
theorem dX11_clear_21 : decode cX11_clear 21 = .ok (.iconst 1, 1) := by decide +kernel
theorem dX11_clear_22 : decode cX11_clear 22 = .ok (.goto 4, 3) := by decide +kernel
theorem dX11_clear_25 : decode cX11_clear 25 = .ok (.iconst 0, 1) := by decide +kernel
theorem dX11_clear_26 : decode cX11_clear 26 = .ok (.iconst 1, 1) := by decide +kernel
theorem dX11_clear_27 : decode cX11_clear 27 = .ok (.invokevirtual 185, 3) := by decide +kernel
theorem dX11_clear_30 : decode cX11_clear 30 = .ok (.ifCond .ne 5, 3) := by decide +kernel
theorem dX11_clear_33 : decode cX11_clear 33 = .ok (.iconst 0, 1) := by decide +kernel
theorem dX11_clear_34 : decode cX11_clear 34 = .ok (.ireturn, 1) := by decide +kernel
theorem dX11_clear_35 : decode cX11_clear 35 = .ok (.aload_n 0, 1) := by decide +kernel
theorem dX11_clear_36 : decode cX11_clear 36 = .ok (.getfield 156, 3) := by decide +kernel
theorem dX11_clear_39 : decode cX11_clear 39 = .ok (.iload_n 1, 1) := by decide +kernel
theorem dX11_clear_40 : decode cX11_clear 40 = .ok (.iconst 0, 1) := by decide +kernel
theorem dX11_clear_41 : decode cX11_clear 41 = .ok (.bastore, 1) := by decide +kernel
theorem dX11_clear_42 : decode cX11_clear 42 = .ok (.aload_n 0, 1) := by decide +kernel
theorem dX11_clear_43 : decode cX11_clear 43 = .ok (.iload_n 1, 1) := by decide +kernel
theorem dX11_clear_44 : decode cX11_clear 44 = .ok (.invokevirtual 523, 3) := by decide +kernel
theorem dX11_clear_47 : decode cX11_clear 47 = .ok (.ireturn, 1) := by decide +kernel
theorem dX11_doubt_0 : decode cX11_doubt 0 = .ok (.aload_n 0, 1) := by decide +kernel
theorem dX11_doubt_1 : decode cX11_doubt 1 = .ok (.aload_n 0, 1) := by decide +kernel
theorem dX11_doubt_2 : decode cX11_doubt 2 = .ok (.iload_n 1, 1) := by decide +kernel
theorem dX11_doubt_3 : decode cX11_doubt 3 = .ok (.invokevirtual 533, 3) := by decide +kernel
theorem dX11_doubt_6 : decode cX11_doubt 6 = .ok (.iconst 1, 1) := by decide +kernel
theorem dX11_doubt_7 : decode cX11_doubt 7 = .ok (.iconst 1, 1) := by decide +kernel
theorem dX11_doubt_8 : decode cX11_doubt 8 = .ok (.invokevirtual 185, 3) := by decide +kernel
theorem dX11_doubt_11 : decode cX11_doubt 11 = .ok (.ifCond .ne 5, 3) := by decide +kernel
theorem dX11_doubt_14 : decode cX11_doubt 14 = .ok (.iconst 0, 1) := by decide +kernel
theorem dX11_doubt_15 : decode cX11_doubt 15 = .ok (.ireturn, 1) := by decide +kernel
theorem dX11_doubt_16 : decode cX11_doubt 16 = .ok (.iconst (-1), 1) := by decide +kernel
theorem dX11_doubt_17 : decode cX11_doubt 17 = .ok (.istore_n 2, 1) := by decide +kernel
theorem dX11_doubt_18 : decode cX11_doubt 18 = .ok (.iload_n 1, 1) := by decide +kernel
theorem dX11_doubt_19 : decode cX11_doubt 19 = .ok (.iconst 1, 1) := by decide +kernel
theorem dX11_doubt_20 : decode cX11_doubt 20 = .ok (.isub, 1) := by decide +kernel
theorem dX11_doubt_21 : decode cX11_doubt 21 = .ok (.istore_n 3, 1) := by decide +kernel
theorem dX11_doubt_22 : decode cX11_doubt 22 = .ok (.iload_n 3, 1) := by decide +kernel
theorem dX11_doubt_23 : decode cX11_doubt 23 = .ok (.ifCond .lt 24, 3) := by decide +kernel
theorem dX11_doubt_26 : decode cX11_doubt 26 = .ok (.aload_n 0, 1) := by decide +kernel
theorem dX11_doubt_27 : decode cX11_doubt 27 = .ok (.iload_n 1, 1) := by decide +kernel
theorem dX11_doubt_28 : decode cX11_doubt 28 = .ok (.iload_n 3, 1) := by decide +kernel
theorem dX11_doubt_29 : decode cX11_doubt 29 = .ok (.invokevirtual 559, 3) := by decide +kernel
theorem dX11_doubt_32 : decode cX11_doubt 32 = .ok (.ifCond .eq 7, 3) := by decide +kernel
theorem dX11_doubt_35 : decode cX11_doubt 35 = .ok (.iload_n 3, 1) := by decide +kernel
theorem dX11_doubt_36 : decode cX11_doubt 36 = .ok (.goto 4, 3) := by decide +kernel
theorem dX11_doubt_39 : decode cX11_doubt 39 = .ok (.iload_n 2, 1) := by decide +kernel
theorem dX11_doubt_40 : decode cX11_doubt 40 = .ok (.istore_n 2, 1) := by decide +kernel
theorem dX11_doubt_41 : decode cX11_doubt 41 = .ok (.iinc 3 (-1), 3) := by decide +kernel
theorem dX11_doubt_44 : decode cX11_doubt 44 = .ok (.goto (-22), 3) := by decide +kernel
theorem dX11_doubt_47 : decode cX11_doubt 47 = .ok (.iload_n 2, 1) := by decide +kernel
theorem dX11_doubt_48 : decode cX11_doubt 48 = .ok (.ireturn, 1) := by decide +kernel
