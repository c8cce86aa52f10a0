theorem de_Y_0 : decode code 0 = .ok (.new 8, 3) := by decide +kernel
theorem de_Y_3 : decode code 3 = .ok (.dup, 1) := by decide +kernel
theorem de_Y_4 : decode code 4 = .ok (.invokespecial 60, 3) := by decide +kernel
theorem de_Y_7 : decode code 7 = .ok (.astore_n 1, 1) := by decide +kernel
theorem de_Y_8 : decode code 8 = .ok (.new 61, 3) := by decide +kernel
theorem de_Y_11 : decode code 11 = .ok (.dup, 1) := by decide +kernel
theorem de_Y_12 : decode code 12 = .ok (.invokespecial 63, 3) := by decide +kernel
theorem de_Y_15 : decode code 15 = .ok (.astore_n 2, 1) := by decide +kernel
theorem de_Y_16 : decode code 16 = .ok (.iconst 1, 1) := by decide +kernel
theorem de_Y_17 : decode code 17 = .ok (.newarray .long, 2) := by decide +kernel
theorem de_Y_19 : decode code 19 = .ok (.astore_n 3, 1) := by decide +kernel
theorem de_Y_20 : decode code 20 = .ok (.iconst 0, 1) := by decide +kernel
theorem de_Y_21 : decode code 21 = .ok (.istore 4, 2) := by decide +kernel
theorem de_Y_23 : decode code 23 = .ok (.iload 4, 2) := by decide +kernel
theorem de_Y_25 : decode code 25 = .ok (.aload_n 0, 1) := by decide +kernel
theorem de_Y_26 : decode code 26 = .ok (.arraylength, 1) := by decide +kernel
theorem de_Y_27 : decode code 27 = .ok (.bipush 11, 2) := by decide +kernel
theorem de_Y_29 : decode code 29 = .ok (.isub, 1) := by decide +kernel
theorem de_Y_30 : decode code 30 = .ok (.if_icmp .gt 1712, 3) := by decide +kernel
theorem de_Y_33 : decode code 33 = .ok (.aload_n 0, 1) := by decide +kernel
theorem de_Y_34 : decode code 34 = .ok (.iload 4, 2) := by decide +kernel
theorem de_Y_36 : decode code 36 = .ok (.iaload, 1) := by decide +kernel
theorem de_Y_37 : decode code 37 = .ok (.bipush 15, 2) := by decide +kernel
theorem de_Y_39 : decode code 39 = .ok (.iand, 1) := by decide +kernel
theorem de_Y_40 : decode code 40 = .ok (.tableswitch 1696 0 15 #[80, 306, 580, 680, 858, 959, 1026, 1113, 1200, 1392, 1405, 1419, 1474, 1602, 1658, 1671], 80) := by decide +kernel
theorem de_Y_120 : decode code 120 = .ok (.aload_n 1, 1) := by decide +kernel
theorem de_Y_121 : decode code 121 = .ok (.aload_n 0, 1) := by decide +kernel
theorem de_Y_122 : decode code 122 = .ok (.iload 4, 2) := by decide +kernel
theorem de_Y_124 : decode code 124 = .ok (.iconst 1, 1) := by decide +kernel
theorem de_Y_125 : decode code 125 = .ok (.iadd, 1) := by decide +kernel
theorem de_Y_126 : decode code 126 = .ok (.iaload, 1) := by decide +kernel
theorem de_Y_127 : decode code 127 = .ok (.i2l, 1) := by decide +kernel
theorem de_Y_128 : decode code 128 = .ok (.bipush 32, 2) := by decide +kernel
theorem de_Y_130 : decode code 130 = .ok (.lshl, 1) := by decide +kernel
theorem de_Y_131 : decode code 131 = .ok (.aload_n 0, 1) := by decide +kernel
theorem de_Y_132 : decode code 132 = .ok (.iload 4, 2) := by decide +kernel
theorem de_Y_134 : decode code 134 = .ok (.iconst 2, 1) := by decide +kernel
theorem de_Y_135 : decode code 135 = .ok (.iadd, 1) := by decide +kernel
theorem de_Y_136 : decode code 136 = .ok (.iaload, 1) := by decide +kernel
theorem de_Y_137 : decode code 137 = .ok (.i2l, 1) := by decide +kernel
theorem de_Y_138 : decode code 138 = .ok (.ldc2_w 64, 3) := by decide +kernel
theorem de_Y_141 : decode code 141 = .ok (.land, 1) := by decide +kernel
theorem de_Y_142 : decode code 142 = .ok (.lor, 1) := by decide +kernel
theorem de_Y_143 : decode code 143 = .ok (.aload_n 0, 1) := by decide +kernel
theorem de_Y_144 : decode code 144 = .ok (.iload 4, 2) := by decide +kernel
theorem de_Y_146 : decode code 146 = .ok (.iconst 3, 1) := by decide +kernel
theorem de_Y_147 : decode code 147 = .ok (.iadd, 1) := by decide +kernel
theorem de_Y_148 : decode code 148 = .ok (.iaload, 1) := by decide +kernel
theorem de_Y_149 : decode code 149 = .ok (.i2l, 1) := by decide +kernel
theorem de_Y_150 : decode code 150 = .ok (.bipush 32, 2) := by decide +kernel
theorem de_Y_152 : decode code 152 = .ok (.lshl, 1) := by decide +kernel
theorem de_Y_153 : decode code 153 = .ok (.aload_n 0, 1) := by decide +kernel
theorem de_Y_154 : decode code 154 = .ok (.iload 4, 2) := by decide +kernel
theorem de_Y_156 : decode code 156 = .ok (.iconst 4, 1) := by decide +kernel
theorem de_Y_157 : decode code 157 = .ok (.iadd, 1) := by decide +kernel
theorem de_Y_158 : decode code 158 = .ok (.iaload, 1) := by decide +kernel
theorem de_Y_159 : decode code 159 = .ok (.i2l, 1) := by decide +kernel
theorem de_Y_160 : decode code 160 = .ok (.ldc2_w 64, 3) := by decide +kernel
theorem de_Y_163 : decode code 163 = .ok (.land, 1) := by decide +kernel
theorem de_Y_164 : decode code 164 = .ok (.lor, 1) := by decide +kernel
theorem de_Y_165 : decode code 165 = .ok (.aload_n 0, 1) := by decide +kernel
theorem de_Y_166 : decode code 166 = .ok (.iload 4, 2) := by decide +kernel
theorem de_Y_168 : decode code 168 = .ok (.iconst 5, 1) := by decide +kernel
theorem de_Y_169 : decode code 169 = .ok (.iadd, 1) := by decide +kernel
theorem de_Y_170 : decode code 170 = .ok (.iaload, 1) := by decide +kernel
theorem de_Y_171 : decode code 171 = .ok (.i2l, 1) := by decide +kernel
theorem de_Y_172 : decode code 172 = .ok (.bipush 32, 2) := by decide +kernel
theorem de_Y_174 : decode code 174 = .ok (.lshl, 1) := by decide +kernel
theorem de_Y_175 : decode code 175 = .ok (.aload_n 0, 1) := by decide +kernel
theorem de_Y_176 : decode code 176 = .ok (.iload 4, 2) := by decide +kernel
theorem de_Y_178 : decode code 178 = .ok (.bipush 6, 2) := by decide +kernel
theorem de_Y_180 : decode code 180 = .ok (.iadd, 1) := by decide +kernel
theorem de_Y_181 : decode code 181 = .ok (.iaload, 1) := by decide +kernel
theorem de_Y_182 : decode code 182 = .ok (.i2l, 1) := by decide +kernel
theorem de_Y_183 : decode code 183 = .ok (.ldc2_w 64, 3) := by decide +kernel
theorem de_Y_186 : decode code 186 = .ok (.land, 1) := by decide +kernel
theorem de_Y_187 : decode code 187 = .ok (.lor, 1) := by decide +kernel
theorem de_Y_188 : decode code 188 = .ok (.aload_n 0, 1) := by decide +kernel
theorem de_Y_189 : decode code 189 = .ok (.iload 4, 2) := by decide +kernel
theorem de_Y_191 : decode code 191 = .ok (.bipush 7, 2) := by decide +kernel
theorem de_Y_193 : decode code 193 = .ok (.iadd, 1) := by decide +kernel
theorem de_Y_194 : decode code 194 = .ok (.iaload, 1) := by decide +kernel
theorem de_Y_195 : decode code 195 = .ok (.i2l, 1) := by decide +kernel
theorem de_Y_196 : decode code 196 = .ok (.bipush 32, 2) := by decide +kernel
theorem de_Y_198 : decode code 198 = .ok (.lshl, 1) := by decide +kernel
theorem de_Y_199 : decode code 199 = .ok (.aload_n 0, 1) := by decide +kernel
theorem de_Y_200 : decode code 200 = .ok (.iload 4, 2) := by decide +kernel
theorem de_Y_202 : decode code 202 = .ok (.bipush 8, 2) := by decide +kernel
theorem de_Y_204 : decode code 204 = .ok (.iadd, 1) := by decide +kernel
theorem de_Y_205 : decode code 205 = .ok (.iaload, 1) := by decide +kernel
theorem de_Y_206 : decode code 206 = .ok (.i2l, 1) := by decide +kernel
theorem de_Y_207 : decode code 207 = .ok (.ldc2_w 64, 3) := by decide +kernel
theorem de_Y_210 : decode code 210 = .ok (.land, 1) := by decide +kernel
theorem de_Y_211 : decode code 211 = .ok (.lor, 1) := by decide +kernel
theorem de_Y_212 : decode code 212 = .ok (.aload_n 3, 1) := by decide +kernel
theorem de_Y_213 : decode code 213 = .ok (.invokestatic 66, 3) := by decide +kernel
theorem de_Y_216 : decode code 216 = .ok (.istore 5, 2) := by decide +kernel
theorem de_Y_218 : decode code 218 = .ok (.aload_n 2, 1) := by decide +kernel
theorem de_Y_219 : decode code 219 = .ok (.aload_n 0, 1) := by decide +kernel
theorem de_Y_220 : decode code 220 = .ok (.iload 4, 2) := by decide +kernel
theorem de_Y_222 : decode code 222 = .ok (.iconst 1, 1) := by decide +kernel
theorem de_Y_223 : decode code 223 = .ok (.iadd, 1) := by decide +kernel
theorem de_Y_224 : decode code 224 = .ok (.iaload, 1) := by decide +kernel
theorem de_Y_225 : decode code 225 = .ok (.i2l, 1) := by decide +kernel
theorem de_Y_226 : decode code 226 = .ok (.bipush 32, 2) := by decide +kernel
theorem de_Y_228 : decode code 228 = .ok (.lshl, 1) := by decide +kernel
theorem de_Y_229 : decode code 229 = .ok (.aload_n 0, 1) := by decide +kernel
theorem de_Y_230 : decode code 230 = .ok (.iload 4, 2) := by decide +kernel
theorem de_Y_232 : decode code 232 = .ok (.iconst 2, 1) := by decide +kernel
theorem de_Y_233 : decode code 233 = .ok (.iadd, 1) := by decide +kernel
theorem de_Y_234 : decode code 234 = .ok (.iaload, 1) := by decide +kernel
theorem de_Y_235 : decode code 235 = .ok (.i2l, 1) := by decide +kernel
theorem de_Y_236 : decode code 236 = .ok (.ldc2_w 64, 3) := by decide +kernel
theorem de_Y_239 : decode code 239 = .ok (.land, 1) := by decide +kernel
theorem de_Y_240 : decode code 240 = .ok (.lor, 1) := by decide +kernel
theorem de_Y_241 : decode code 241 = .ok (.aload_n 0, 1) := by decide +kernel
theorem de_Y_242 : decode code 242 = .ok (.iload 4, 2) := by decide +kernel
theorem de_Y_244 : decode code 244 = .ok (.iconst 3, 1) := by decide +kernel
theorem de_Y_245 : decode code 245 = .ok (.iadd, 1) := by decide +kernel
theorem de_Y_246 : decode code 246 = .ok (.iaload, 1) := by decide +kernel
theorem de_Y_247 : decode code 247 = .ok (.i2l, 1) := by decide +kernel
theorem de_Y_248 : decode code 248 = .ok (.bipush 32, 2) := by decide +kernel
theorem de_Y_250 : decode code 250 = .ok (.lshl, 1) := by decide +kernel
theorem de_Y_251 : decode code 251 = .ok (.aload_n 0, 1) := by decide +kernel
theorem de_Y_252 : decode code 252 = .ok (.iload 4, 2) := by decide +kernel
theorem de_Y_254 : decode code 254 = .ok (.iconst 4, 1) := by decide +kernel
theorem de_Y_255 : decode code 255 = .ok (.iadd, 1) := by decide +kernel
theorem de_Y_256 : decode code 256 = .ok (.iaload, 1) := by decide +kernel
theorem de_Y_257 : decode code 257 = .ok (.i2l, 1) := by decide +kernel
theorem de_Y_258 : decode code 258 = .ok (.ldc2_w 64, 3) := by decide +kernel
theorem de_Y_261 : decode code 261 = .ok (.land, 1) := by decide +kernel
theorem de_Y_262 : decode code 262 = .ok (.lor, 1) := by decide +kernel
theorem de_Y_263 : decode code 263 = .ok (.aload_n 0, 1) := by decide +kernel
theorem de_Y_264 : decode code 264 = .ok (.iload 4, 2) := by decide +kernel
theorem de_Y_266 : decode code 266 = .ok (.iconst 5, 1) := by decide +kernel
theorem de_Y_267 : decode code 267 = .ok (.iadd, 1) := by decide +kernel
theorem de_Y_268 : decode code 268 = .ok (.iaload, 1) := by decide +kernel
theorem de_Y_269 : decode code 269 = .ok (.i2l, 1) := by decide +kernel
theorem de_Y_270 : decode code 270 = .ok (.bipush 32, 2) := by decide +kernel
theorem de_Y_272 : decode code 272 = .ok (.lshl, 1) := by decide +kernel
theorem de_Y_273 : decode code 273 = .ok (.aload_n 0, 1) := by decide +kernel
theorem de_Y_274 : decode code 274 = .ok (.iload 4, 2) := by decide +kernel
theorem de_Y_276 : decode code 276 = .ok (.bipush 6, 2) := by decide +kernel
theorem de_Y_278 : decode code 278 = .ok (.iadd, 1) := by decide +kernel
theorem de_Y_279 : decode code 279 = .ok (.iaload, 1) := by decide +kernel
theorem de_Y_280 : decode code 280 = .ok (.i2l, 1) := by decide +kernel
theorem de_Y_281 : decode code 281 = .ok (.ldc2_w 64, 3) := by decide +kernel
theorem de_Y_284 : decode code 284 = .ok (.land, 1) := by decide +kernel
theorem de_Y_285 : decode code 285 = .ok (.lor, 1) := by decide +kernel
theorem de_Y_286 : decode code 286 = .ok (.aload_n 0, 1) := by decide +kernel
theorem de_Y_287 : decode code 287 = .ok (.iload 4, 2) := by decide +kernel
theorem de_Y_289 : decode code 289 = .ok (.bipush 7, 2) := by decide +kernel
theorem de_Y_291 : decode code 291 = .ok (.iadd, 1) := by decide +kernel
theorem de_Y_292 : decode code 292 = .ok (.iaload, 1) := by decide +kernel
theorem de_Y_293 : decode code 293 = .ok (.i2l, 1) := by decide +kernel
theorem de_Y_294 : decode code 294 = .ok (.bipush 32, 2) := by decide +kernel
theorem de_Y_296 : decode code 296 = .ok (.lshl, 1) := by decide +kernel
theorem de_Y_297 : decode code 297 = .ok (.aload_n 0, 1) := by decide +kernel
theorem de_Y_298 : decode code 298 = .ok (.iload 4, 2) := by decide +kernel
theorem de_Y_300 : decode code 300 = .ok (.bipush 8, 2) := by decide +kernel
theorem de_Y_302 : decode code 302 = .ok (.iadd, 1) := by decide +kernel
theorem de_Y_303 : decode code 303 = .ok (.iaload, 1) := by decide +kernel
theorem de_Y_304 : decode code 304 = .ok (.i2l, 1) := by decide +kernel
theorem de_Y_305 : decode code 305 = .ok (.ldc2_w 64, 3) := by decide +kernel
theorem de_Y_308 : decode code 308 = .ok (.land, 1) := by decide +kernel
theorem de_Y_309 : decode code 309 = .ok (.lor, 1) := by decide +kernel
theorem de_Y_310 : decode code 310 = .ok (.invokevirtual 71, 3) := by decide +kernel
theorem de_Y_313 : decode code 313 = .ok (.istore 6, 2) := by decide +kernel
theorem de_Y_315 : decode code 315 = .ok (.aload_n 2, 1) := by decide +kernel
theorem de_Y_316 : decode code 316 = .ok (.invokevirtual 72, 3) := by decide +kernel
theorem de_Y_319 : decode code 319 = .ok (.iload 5, 2) := by decide +kernel
theorem de_Y_321 : decode code 321 = .ok (.if_icmp .eq 5, 3) := by decide +kernel
theorem de_Y_324 : decode code 324 = .ok (.iconst 0, 1) := by decide +kernel
theorem de_Y_325 : decode code 325 = .ok (.ireturn, 1) := by decide +kernel
theorem de_Y_326 : decode code 326 = .ok (.iload 5, 2) := by decide +kernel
theorem de_Y_328 : decode code 328 = .ok (.ifCond .ne 15, 3) := by decide +kernel
theorem de_Y_331 : decode code 331 = .ok (.aload_n 3, 1) := by decide +kernel
theorem de_Y_332 : decode code 332 = .ok (.iconst 0, 1) := by decide +kernel
theorem de_Y_333 : decode code 333 = .ok (.laload, 1) := by decide +kernel
theorem de_Y_334 : decode code 334 = .ok (.iload 6, 2) := by decide +kernel
theorem de_Y_336 : decode code 336 = .ok (.i2l, 1) := by decide +kernel
theorem de_Y_337 : decode code 337 = .ok (.lcmp, 1) := by decide +kernel
theorem de_Y_338 : decode code 338 = .ok (.ifCond .eq 5, 3) := by decide +kernel
theorem de_Y_341 : decode code 341 = .ok (.iconst 0, 1) := by decide +kernel
theorem de_Y_342 : decode code 342 = .ok (.ireturn, 1) := by decide +kernel
theorem de_Y_343 : decode code 343 = .ok (.goto 1393, 3) := by decide +kernel
theorem de_Y_346 : decode code 346 = .ok (.aload_n 1, 1) := by decide +kernel
theorem de_Y_347 : decode code 347 = .ok (.aload_n 0, 1) := by decide +kernel
theorem de_Y_348 : decode code 348 = .ok (.iload 4, 2) := by decide +kernel
theorem de_Y_350 : decode code 350 = .ok (.iconst 1, 1) := by decide +kernel
theorem de_Y_351 : decode code 351 = .ok (.iadd, 1) := by decide +kernel
theorem de_Y_352 : decode code 352 = .ok (.iaload, 1) := by decide +kernel
theorem de_Y_353 : decode code 353 = .ok (.i2l, 1) := by decide +kernel
theorem de_Y_354 : decode code 354 = .ok (.bipush 32, 2) := by decide +kernel
theorem de_Y_356 : decode code 356 = .ok (.lshl, 1) := by decide +kernel
theorem de_Y_357 : decode code 357 = .ok (.aload_n 0, 1) := by decide +kernel
theorem de_Y_358 : decode code 358 = .ok (.iload 4, 2) := by decide +kernel
theorem de_Y_360 : decode code 360 = .ok (.iconst 2, 1) := by decide +kernel
theorem de_Y_361 : decode code 361 = .ok (.iadd, 1) := by decide +kernel
theorem de_Y_362 : decode code 362 = .ok (.iaload, 1) := by decide +kernel
theorem de_Y_363 : decode code 363 = .ok (.i2l, 1) := by decide +kernel
theorem de_Y_364 : decode code 364 = .ok (.ldc2_w 64, 3) := by decide +kernel
theorem de_Y_367 : decode code 367 = .ok (.land, 1) := by decide +kernel
theorem de_Y_368 : decode code 368 = .ok (.lor, 1) := by decide +kernel
theorem de_Y_369 : decode code 369 = .ok (.aload_n 0, 1) := by decide +kernel
theorem de_Y_370 : decode code 370 = .ok (.iload 4, 2) := by decide +kernel
theorem de_Y_372 : decode code 372 = .ok (.iconst 3, 1) := by decide +kernel
theorem de_Y_373 : decode code 373 = .ok (.iadd, 1) := by decide +kernel
theorem de_Y_374 : decode code 374 = .ok (.iaload, 1) := by decide +kernel
theorem de_Y_375 : decode code 375 = .ok (.i2l, 1) := by decide +kernel
theorem de_Y_376 : decode code 376 = .ok (.bipush 32, 2) := by decide +kernel
theorem de_Y_378 : decode code 378 = .ok (.lshl, 1) := by decide +kernel
theorem de_Y_379 : decode code 379 = .ok (.aload_n 0, 1) := by decide +kernel
theorem de_Y_380 : decode code 380 = .ok (.iload 4, 2) := by decide +kernel
theorem de_Y_382 : decode code 382 = .ok (.iconst 4, 1) := by decide +kernel
theorem de_Y_383 : decode code 383 = .ok (.iadd, 1) := by decide +kernel
theorem de_Y_384 : decode code 384 = .ok (.iaload, 1) := by decide +kernel
theorem de_Y_385 : decode code 385 = .ok (.i2l, 1) := by decide +kernel
theorem de_Y_386 : decode code 386 = .ok (.ldc2_w 64, 3) := by decide +kernel
theorem de_Y_389 : decode code 389 = .ok (.land, 1) := by decide +kernel
theorem de_Y_390 : decode code 390 = .ok (.lor, 1) := by decide +kernel
theorem de_Y_391 : decode code 391 = .ok (.aload_n 0, 1) := by decide +kernel
theorem de_Y_392 : decode code 392 = .ok (.iload 4, 2) := by decide +kernel
theorem de_Y_394 : decode code 394 = .ok (.iconst 5, 1) := by decide +kernel
theorem de_Y_395 : decode code 395 = .ok (.iadd, 1) := by decide +kernel
theorem de_Y_396 : decode code 396 = .ok (.iaload, 1) := by decide +kernel
theorem de_Y_397 : decode code 397 = .ok (.i2l, 1) := by decide +kernel
theorem de_Y_398 : decode code 398 = .ok (.bipush 32, 2) := by decide +kernel
theorem de_Y_400 : decode code 400 = .ok (.lshl, 1) := by decide +kernel
theorem de_Y_401 : decode code 401 = .ok (.aload_n 0, 1) := by decide +kernel
theorem de_Y_402 : decode code 402 = .ok (.iload 4, 2) := by decide +kernel
theorem de_Y_404 : decode code 404 = .ok (.bipush 6, 2) := by decide +kernel
theorem de_Y_406 : decode code 406 = .ok (.iadd, 1) := by decide +kernel
theorem de_Y_407 : decode code 407 = .ok (.iaload, 1) := by decide +kernel
theorem de_Y_408 : decode code 408 = .ok (.i2l, 1) := by decide +kernel
theorem de_Y_409 : decode code 409 = .ok (.ldc2_w 64, 3) := by decide +kernel
theorem de_Y_412 : decode code 412 = .ok (.land, 1) := by decide +kernel
theorem de_Y_413 : decode code 413 = .ok (.lor, 1) := by decide +kernel
theorem de_Y_414 : decode code 414 = .ok (.aload_n 0, 1) := by decide +kernel
theorem de_Y_415 : decode code 415 = .ok (.iload 4, 2) := by decide +kernel
theorem de_Y_417 : decode code 417 = .ok (.bipush 7, 2) := by decide +kernel
theorem de_Y_419 : decode code 419 = .ok (.iadd, 1) := by decide +kernel
theorem de_Y_420 : decode code 420 = .ok (.iaload, 1) := by decide +kernel
theorem de_Y_421 : decode code 421 = .ok (.i2l, 1) := by decide +kernel
theorem de_Y_422 : decode code 422 = .ok (.bipush 32, 2) := by decide +kernel
theorem de_Y_424 : decode code 424 = .ok (.lshl, 1) := by decide +kernel
theorem de_Y_425 : decode code 425 = .ok (.aload_n 0, 1) := by decide +kernel
theorem de_Y_426 : decode code 426 = .ok (.iload 4, 2) := by decide +kernel
theorem de_Y_428 : decode code 428 = .ok (.bipush 8, 2) := by decide +kernel
theorem de_Y_430 : decode code 430 = .ok (.iadd, 1) := by decide +kernel
theorem de_Y_431 : decode code 431 = .ok (.iaload, 1) := by decide +kernel
theorem de_Y_432 : decode code 432 = .ok (.i2l, 1) := by decide +kernel
theorem de_Y_433 : decode code 433 = .ok (.ldc2_w 64, 3) := by decide +kernel
theorem de_Y_436 : decode code 436 = .ok (.land, 1) := by decide +kernel
theorem de_Y_437 : decode code 437 = .ok (.lor, 1) := by decide +kernel
theorem de_Y_438 : decode code 438 = .ok (.aload_n 0, 1) := by decide +kernel
theorem de_Y_439 : decode code 439 = .ok (.iload 4, 2) := by decide +kernel
theorem de_Y_441 : decode code 441 = .ok (.bipush 9, 2) := by decide +kernel
theorem de_Y_443 : decode code 443 = .ok (.iadd, 1) := by decide +kernel
theorem de_Y_444 : decode code 444 = .ok (.iaload, 1) := by decide +kernel
theorem de_Y_445 : decode code 445 = .ok (.i2l, 1) := by decide +kernel
theorem de_Y_446 : decode code 446 = .ok (.bipush 32, 2) := by decide +kernel
theorem de_Y_448 : decode code 448 = .ok (.lshl, 1) := by decide +kernel
theorem de_Y_449 : decode code 449 = .ok (.aload_n 0, 1) := by decide +kernel
theorem de_Y_450 : decode code 450 = .ok (.iload 4, 2) := by decide +kernel
theorem de_Y_452 : decode code 452 = .ok (.bipush 10, 2) := by decide +kernel
theorem de_Y_454 : decode code 454 = .ok (.iadd, 1) := by decide +kernel
theorem de_Y_455 : decode code 455 = .ok (.iaload, 1) := by decide +kernel
theorem de_Y_456 : decode code 456 = .ok (.i2l, 1) := by decide +kernel
theorem de_Y_457 : decode code 457 = .ok (.ldc2_w 64, 3) := by decide +kernel
theorem de_Y_460 : decode code 460 = .ok (.land, 1) := by decide +kernel
theorem de_Y_461 : decode code 461 = .ok (.lor, 1) := by decide +kernel
theorem de_Y_462 : decode code 462 = .ok (.aload_n 3, 1) := by decide +kernel
theorem de_Y_463 : decode code 463 = .ok (.invokestatic 76, 3) := by decide +kernel
theorem de_Y_466 : decode code 466 = .ok (.istore 5, 2) := by decide +kernel
theorem de_Y_468 : decode code 468 = .ok (.aload_n 2, 1) := by decide +kernel
theorem de_Y_469 : decode code 469 = .ok (.aload_n 0, 1) := by decide +kernel
theorem de_Y_470 : decode code 470 = .ok (.iload 4, 2) := by decide +kernel
theorem de_Y_472 : decode code 472 = .ok (.iconst 1, 1) := by decide +kernel
theorem de_Y_473 : decode code 473 = .ok (.iadd, 1) := by decide +kernel
theorem de_Y_474 : decode code 474 = .ok (.iaload, 1) := by decide +kernel
theorem de_Y_475 : decode code 475 = .ok (.i2l, 1) := by decide +kernel
theorem de_Y_476 : decode code 476 = .ok (.bipush 32, 2) := by decide +kernel
theorem de_Y_478 : decode code 478 = .ok (.lshl, 1) := by decide +kernel
theorem de_Y_479 : decode code 479 = .ok (.aload_n 0, 1) := by decide +kernel
theorem de_Y_480 : decode code 480 = .ok (.iload 4, 2) := by decide +kernel
theorem de_Y_482 : decode code 482 = .ok (.iconst 2, 1) := by decide +kernel
theorem de_Y_483 : decode code 483 = .ok (.iadd, 1) := by decide +kernel
theorem de_Y_484 : decode code 484 = .ok (.iaload, 1) := by decide +kernel
theorem de_Y_485 : decode code 485 = .ok (.i2l, 1) := by decide +kernel
theorem de_Y_486 : decode code 486 = .ok (.ldc2_w 64, 3) := by decide +kernel
theorem de_Y_489 : decode code 489 = .ok (.land, 1) := by decide +kernel
theorem de_Y_490 : decode code 490 = .ok (.lor, 1) := by decide +kernel
theorem de_Y_491 : decode code 491 = .ok (.aload_n 0, 1) := by decide +kernel
theorem de_Y_492 : decode code 492 = .ok (.iload 4, 2) := by decide +kernel
theorem de_Y_494 : decode code 494 = .ok (.iconst 3, 1) := by decide +kernel
theorem de_Y_495 : decode code 495 = .ok (.iadd, 1) := by decide +kernel
theorem de_Y_496 : decode code 496 = .ok (.iaload, 1) := by decide +kernel
theorem de_Y_497 : decode code 497 = .ok (.i2l, 1) := by decide +kernel
theorem de_Y_498 : decode code 498 = .ok (.bipush 32, 2) := by decide +kernel
theorem de_Y_500 : decode code 500 = .ok (.lshl, 1) := by decide +kernel
theorem de_Y_501 : decode code 501 = .ok (.aload_n 0, 1) := by decide +kernel
theorem de_Y_502 : decode code 502 = .ok (.iload 4, 2) := by decide +kernel
theorem de_Y_504 : decode code 504 = .ok (.iconst 4, 1) := by decide +kernel
theorem de_Y_505 : decode code 505 = .ok (.iadd, 1) := by decide +kernel
theorem de_Y_506 : decode code 506 = .ok (.iaload, 1) := by decide +kernel
theorem de_Y_507 : decode code 507 = .ok (.i2l, 1) := by decide +kernel
theorem de_Y_508 : decode code 508 = .ok (.ldc2_w 64, 3) := by decide +kernel
theorem de_Y_511 : decode code 511 = .ok (.land, 1) := by decide +kernel
theorem de_Y_512 : decode code 512 = .ok (.lor, 1) := by decide +kernel
theorem de_Y_513 : decode code 513 = .ok (.aload_n 0, 1) := by decide +kernel
theorem de_Y_514 : decode code 514 = .ok (.iload 4, 2) := by decide +kernel
theorem de_Y_516 : decode code 516 = .ok (.iconst 5, 1) := by decide +kernel
theorem de_Y_517 : decode code 517 = .ok (.iadd, 1) := by decide +kernel
theorem de_Y_518 : decode code 518 = .ok (.iaload, 1) := by decide +kernel
theorem de_Y_519 : decode code 519 = .ok (.i2l, 1) := by decide +kernel
theorem de_Y_520 : decode code 520 = .ok (.bipush 32, 2) := by decide +kernel
theorem de_Y_522 : decode code 522 = .ok (.lshl, 1) := by decide +kernel
theorem de_Y_523 : decode code 523 = .ok (.aload_n 0, 1) := by decide +kernel
theorem de_Y_524 : decode code 524 = .ok (.iload 4, 2) := by decide +kernel
theorem de_Y_526 : decode code 526 = .ok (.bipush 6, 2) := by decide +kernel
theorem de_Y_528 : decode code 528 = .ok (.iadd, 1) := by decide +kernel
theorem de_Y_529 : decode code 529 = .ok (.iaload, 1) := by decide +kernel
theorem de_Y_530 : decode code 530 = .ok (.i2l, 1) := by decide +kernel
theorem de_Y_531 : decode code 531 = .ok (.ldc2_w 64, 3) := by decide +kernel
theorem de_Y_534 : decode code 534 = .ok (.land, 1) := by decide +kernel
theorem de_Y_535 : decode code 535 = .ok (.lor, 1) := by decide +kernel
theorem de_Y_536 : decode code 536 = .ok (.aload_n 0, 1) := by decide +kernel
theorem de_Y_537 : decode code 537 = .ok (.iload 4, 2) := by decide +kernel
theorem de_Y_539 : decode code 539 = .ok (.bipush 7, 2) := by decide +kernel
theorem de_Y_541 : decode code 541 = .ok (.iadd, 1) := by decide +kernel
theorem de_Y_542 : decode code 542 = .ok (.iaload, 1) := by decide +kernel
theorem de_Y_543 : decode code 543 = .ok (.i2l, 1) := by decide +kernel
theorem de_Y_544 : decode code 544 = .ok (.bipush 32, 2) := by decide +kernel
theorem de_Y_546 : decode code 546 = .ok (.lshl, 1) := by decide +kernel
theorem de_Y_547 : decode code 547 = .ok (.aload_n 0, 1) := by decide +kernel
theorem de_Y_548 : decode code 548 = .ok (.iload 4, 2) := by decide +kernel
theorem de_Y_550 : decode code 550 = .ok (.bipush 8, 2) := by decide +kernel
theorem de_Y_552 : decode code 552 = .ok (.iadd, 1) := by decide +kernel
theorem de_Y_553 : decode code 553 = .ok (.iaload, 1) := by decide +kernel
theorem de_Y_554 : decode code 554 = .ok (.i2l, 1) := by decide +kernel
theorem de_Y_555 : decode code 555 = .ok (.ldc2_w 64, 3) := by decide +kernel
theorem de_Y_558 : decode code 558 = .ok (.land, 1) := by decide +kernel
theorem de_Y_559 : decode code 559 = .ok (.lor, 1) := by decide +kernel
theorem de_Y_560 : decode code 560 = .ok (.aload_n 0, 1) := by decide +kernel
theorem de_Y_561 : decode code 561 = .ok (.iload 4, 2) := by decide +kernel
theorem de_Y_563 : decode code 563 = .ok (.bipush 9, 2) := by decide +kernel
theorem de_Y_565 : decode code 565 = .ok (.iadd, 1) := by decide +kernel
theorem de_Y_566 : decode code 566 = .ok (.iaload, 1) := by decide +kernel
theorem de_Y_567 : decode code 567 = .ok (.i2l, 1) := by decide +kernel
theorem de_Y_568 : decode code 568 = .ok (.bipush 32, 2) := by decide +kernel
theorem de_Y_570 : decode code 570 = .ok (.lshl, 1) := by decide +kernel
theorem de_Y_571 : decode code 571 = .ok (.aload_n 0, 1) := by decide +kernel
theorem de_Y_572 : decode code 572 = .ok (.iload 4, 2) := by decide +kernel
theorem de_Y_574 : decode code 574 = .ok (.bipush 10, 2) := by decide +kernel
theorem de_Y_576 : decode code 576 = .ok (.iadd, 1) := by decide +kernel
theorem de_Y_577 : decode code 577 = .ok (.iaload, 1) := by decide +kernel
theorem de_Y_578 : decode code 578 = .ok (.i2l, 1) := by decide +kernel
theorem de_Y_579 : decode code 579 = .ok (.ldc2_w 64, 3) := by decide +kernel
theorem de_Y_582 : decode code 582 = .ok (.land, 1) := by decide +kernel
theorem de_Y_583 : decode code 583 = .ok (.lor, 1) := by decide +kernel
theorem de_Y_584 : decode code 584 = .ok (.invokevirtual 79, 3) := by decide +kernel
theorem de_Y_587 : decode code 587 = .ok (.istore 6, 2) := by decide +kernel
theorem de_Y_589 : decode code 589 = .ok (.aload_n 2, 1) := by decide +kernel
theorem de_Y_590 : decode code 590 = .ok (.invokevirtual 72, 3) := by decide +kernel
theorem de_Y_593 : decode code 593 = .ok (.iload 5, 2) := by decide +kernel
theorem de_Y_595 : decode code 595 = .ok (.if_icmp .eq 5, 3) := by decide +kernel
theorem de_Y_598 : decode code 598 = .ok (.iconst 0, 1) := by decide +kernel
theorem de_Y_599 : decode code 599 = .ok (.ireturn, 1) := by decide +kernel
theorem de_Y_600 : decode code 600 = .ok (.iload 5, 2) := by decide +kernel
theorem de_Y_602 : decode code 602 = .ok (.ifCond .ne 15, 3) := by decide +kernel
theorem de_Y_605 : decode code 605 = .ok (.aload_n 3, 1) := by decide +kernel
theorem de_Y_606 : decode code 606 = .ok (.iconst 0, 1) := by decide +kernel
theorem de_Y_607 : decode code 607 = .ok (.laload, 1) := by decide +kernel
theorem de_Y_608 : decode code 608 = .ok (.iload 6, 2) := by decide +kernel
theorem de_Y_610 : decode code 610 = .ok (.i2l, 1) := by decide +kernel
theorem de_Y_611 : decode code 611 = .ok (.lcmp, 1) := by decide +kernel
theorem de_Y_612 : decode code 612 = .ok (.ifCond .eq 5, 3) := by decide +kernel
theorem de_Y_615 : decode code 615 = .ok (.iconst 0, 1) := by decide +kernel
theorem de_Y_616 : decode code 616 = .ok (.ireturn, 1) := by decide +kernel
theorem de_Y_617 : decode code 617 = .ok (.goto 1119, 3) := by decide +kernel
theorem de_Y_620 : decode code 620 = .ok (.aload_n 1, 1) := by decide +kernel
theorem de_Y_621 : decode code 621 = .ok (.aload_n 0, 1) := by decide +kernel
