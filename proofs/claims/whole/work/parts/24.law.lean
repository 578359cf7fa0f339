theorem d_law_0 : decode code 0 = .ok (.new 8, 3) := by decide +kernel
theorem d_law_3 : decode code 3 = .ok (.dup, 1) := by decide +kernel
theorem d_law_4 : decode code 4 = .ok (.invokespecial 43, 3) := by decide +kernel
theorem d_law_7 : decode code 7 = .ok (.astore_n 1, 1) := by decide +kernel
theorem d_law_8 : decode code 8 = .ok (.new 44, 3) := by decide +kernel
theorem d_law_11 : decode code 11 = .ok (.dup, 1) := by decide +kernel
theorem d_law_12 : decode code 12 = .ok (.invokespecial 46, 3) := by decide +kernel
theorem d_law_15 : decode code 15 = .ok (.astore_n 2, 1) := by decide +kernel
theorem d_law_16 : decode code 16 = .ok (.iconst 1, 1) := by decide +kernel
theorem d_law_17 : decode code 17 = .ok (.newarray .long, 2) := by decide +kernel
theorem d_law_19 : decode code 19 = .ok (.astore_n 3, 1) := by decide +kernel
theorem d_law_20 : decode code 20 = .ok (.iconst 0, 1) := by decide +kernel
theorem d_law_21 : decode code 21 = .ok (.istore 4, 2) := by decide +kernel
theorem d_law_23 : decode code 23 = .ok (.iload 4, 2) := by decide +kernel
theorem d_law_25 : decode code 25 = .ok (.aload_n 0, 1) := by decide +kernel
theorem d_law_26 : decode code 26 = .ok (.arraylength, 1) := by decide +kernel
theorem d_law_27 : decode code 27 = .ok (.iconst 5, 1) := by decide +kernel
theorem d_law_28 : decode code 28 = .ok (.isub, 1) := by decide +kernel
theorem d_law_29 : decode code 29 = .ok (.if_icmp .gt 991, 3) := by decide +kernel
theorem d_law_32 : decode code 32 = .ok (.aload_n 0, 1) := by decide +kernel
theorem d_law_33 : decode code 33 = .ok (.iload 4, 2) := by decide +kernel
theorem d_law_35 : decode code 35 = .ok (.iaload, 1) := by decide +kernel
theorem d_law_36 : decode code 36 = .ok (.bipush 15, 2) := by decide +kernel
theorem d_law_38 : decode code 38 = .ok (.iand, 1) := by decide +kernel
theorem d_law_39 : decode code 39 = .ok (.tableswitch 975 0 15 #[77, 102, 115, 227, 240, 265, 318, 386, 427, 464, 564, 589, 688, 768, 887, 950], 77) := by decide +kernel
theorem d_law_116 : decode code 116 = .ok (.aload_n 1, 1) := by decide +kernel
theorem d_law_117 : decode code 117 = .ok (.aload_n 0, 1) := by decide +kernel
theorem d_law_118 : decode code 118 = .ok (.iload 4, 2) := by decide +kernel
theorem d_law_120 : decode code 120 = .ok (.iconst 1, 1) := by decide +kernel
theorem d_law_121 : decode code 121 = .ok (.iadd, 1) := by decide +kernel
theorem d_law_122 : decode code 122 = .ok (.iaload, 1) := by decide +kernel
theorem d_law_123 : decode code 123 = .ok (.invokevirtual 47, 3) := by decide +kernel
theorem d_law_126 : decode code 126 = .ok (.aload_n 2, 1) := by decide +kernel
theorem d_law_127 : decode code 127 = .ok (.aload_n 0, 1) := by decide +kernel
theorem d_law_128 : decode code 128 = .ok (.iload 4, 2) := by decide +kernel
theorem d_law_130 : decode code 130 = .ok (.iconst 1, 1) := by decide +kernel
theorem d_law_131 : decode code 131 = .ok (.iadd, 1) := by decide +kernel
theorem d_law_132 : decode code 132 = .ok (.iaload, 1) := by decide +kernel
theorem d_law_133 : decode code 133 = .ok (.invokevirtual 50, 3) := by decide +kernel
theorem d_law_136 : decode code 136 = .ok (.if_icmp .eq 878, 3) := by decide +kernel
theorem d_law_139 : decode code 139 = .ok (.iconst 0, 1) := by decide +kernel
theorem d_law_140 : decode code 140 = .ok (.ireturn, 1) := by decide +kernel
theorem d_law_141 : decode code 141 = .ok (.aload_n 1, 1) := by decide +kernel
theorem d_law_142 : decode code 142 = .ok (.invokevirtual 51, 3) := by decide +kernel
theorem d_law_145 : decode code 145 = .ok (.aload_n 2, 1) := by decide +kernel
theorem d_law_146 : decode code 146 = .ok (.invokevirtual 55, 3) := by decide +kernel
theorem d_law_149 : decode code 149 = .ok (.if_icmp .eq 865, 3) := by decide +kernel
theorem d_law_152 : decode code 152 = .ok (.iconst 0, 1) := by decide +kernel
theorem d_law_153 : decode code 153 = .ok (.ireturn, 1) := by decide +kernel
theorem d_law_154 : decode code 154 = .ok (.aload_n 1, 1) := by decide +kernel
theorem d_law_155 : decode code 155 = .ok (.aload_n 0, 1) := by decide +kernel
theorem d_law_156 : decode code 156 = .ok (.iload 4, 2) := by decide +kernel
theorem d_law_158 : decode code 158 = .ok (.iconst 1, 1) := by decide +kernel
theorem d_law_159 : decode code 159 = .ok (.iadd, 1) := by decide +kernel
theorem d_law_160 : decode code 160 = .ok (.iaload, 1) := by decide +kernel
theorem d_law_161 : decode code 161 = .ok (.aload_n 0, 1) := by decide +kernel
theorem d_law_162 : decode code 162 = .ok (.iload 4, 2) := by decide +kernel
theorem d_law_164 : decode code 164 = .ok (.iconst 2, 1) := by decide +kernel
theorem d_law_165 : decode code 165 = .ok (.iadd, 1) := by decide +kernel
theorem d_law_166 : decode code 166 = .ok (.iaload, 1) := by decide +kernel
theorem d_law_167 : decode code 167 = .ok (.aload_n 0, 1) := by decide +kernel
theorem d_law_168 : decode code 168 = .ok (.iload 4, 2) := by decide +kernel
theorem d_law_170 : decode code 170 = .ok (.iconst 3, 1) := by decide +kernel
theorem d_law_171 : decode code 171 = .ok (.iadd, 1) := by decide +kernel
theorem d_law_172 : decode code 172 = .ok (.iaload, 1) := by decide +kernel
theorem d_law_173 : decode code 173 = .ok (.i2l, 1) := by decide +kernel
theorem d_law_174 : decode code 174 = .ok (.bipush 32, 2) := by decide +kernel
theorem d_law_176 : decode code 176 = .ok (.lshl, 1) := by decide +kernel
theorem d_law_177 : decode code 177 = .ok (.aload_n 0, 1) := by decide +kernel
theorem d_law_178 : decode code 178 = .ok (.iload 4, 2) := by decide +kernel
theorem d_law_180 : decode code 180 = .ok (.iconst 4, 1) := by decide +kernel
theorem d_law_181 : decode code 181 = .ok (.iadd, 1) := by decide +kernel
theorem d_law_182 : decode code 182 = .ok (.iaload, 1) := by decide +kernel
theorem d_law_183 : decode code 183 = .ok (.i2l, 1) := by decide +kernel
theorem d_law_184 : decode code 184 = .ok (.ldc2_w 56, 3) := by decide +kernel
theorem d_law_187 : decode code 187 = .ok (.land, 1) := by decide +kernel
theorem d_law_188 : decode code 188 = .ok (.lor, 1) := by decide +kernel
theorem d_law_189 : decode code 189 = .ok (.aload_n 3, 1) := by decide +kernel
theorem d_law_190 : decode code 190 = .ok (.invokestatic 58, 3) := by decide +kernel
theorem d_law_193 : decode code 193 = .ok (.istore 5, 2) := by decide +kernel
theorem d_law_195 : decode code 195 = .ok (.aload_n 2, 1) := by decide +kernel
theorem d_law_196 : decode code 196 = .ok (.aload_n 0, 1) := by decide +kernel
theorem d_law_197 : decode code 197 = .ok (.iload 4, 2) := by decide +kernel
theorem d_law_199 : decode code 199 = .ok (.iconst 1, 1) := by decide +kernel
theorem d_law_200 : decode code 200 = .ok (.iadd, 1) := by decide +kernel
theorem d_law_201 : decode code 201 = .ok (.iaload, 1) := by decide +kernel
theorem d_law_202 : decode code 202 = .ok (.aload_n 0, 1) := by decide +kernel
theorem d_law_203 : decode code 203 = .ok (.iload 4, 2) := by decide +kernel
theorem d_law_205 : decode code 205 = .ok (.iconst 2, 1) := by decide +kernel
theorem d_law_206 : decode code 206 = .ok (.iadd, 1) := by decide +kernel
theorem d_law_207 : decode code 207 = .ok (.iaload, 1) := by decide +kernel
theorem d_law_208 : decode code 208 = .ok (.aload_n 0, 1) := by decide +kernel
theorem d_law_209 : decode code 209 = .ok (.iload 4, 2) := by decide +kernel
theorem d_law_211 : decode code 211 = .ok (.iconst 3, 1) := by decide +kernel
theorem d_law_212 : decode code 212 = .ok (.iadd, 1) := by decide +kernel
theorem d_law_213 : decode code 213 = .ok (.iaload, 1) := by decide +kernel
theorem d_law_214 : decode code 214 = .ok (.i2l, 1) := by decide +kernel
theorem d_law_215 : decode code 215 = .ok (.bipush 32, 2) := by decide +kernel
theorem d_law_217 : decode code 217 = .ok (.lshl, 1) := by decide +kernel
theorem d_law_218 : decode code 218 = .ok (.aload_n 0, 1) := by decide +kernel
theorem d_law_219 : decode code 219 = .ok (.iload 4, 2) := by decide +kernel
theorem d_law_221 : decode code 221 = .ok (.iconst 4, 1) := by decide +kernel
theorem d_law_222 : decode code 222 = .ok (.iadd, 1) := by decide +kernel
theorem d_law_223 : decode code 223 = .ok (.iaload, 1) := by decide +kernel
theorem d_law_224 : decode code 224 = .ok (.i2l, 1) := by decide +kernel
theorem d_law_225 : decode code 225 = .ok (.ldc2_w 56, 3) := by decide +kernel
theorem d_law_228 : decode code 228 = .ok (.land, 1) := by decide +kernel
theorem d_law_229 : decode code 229 = .ok (.lor, 1) := by decide +kernel
theorem d_law_230 : decode code 230 = .ok (.invokevirtual 63, 3) := by decide +kernel
theorem d_law_233 : decode code 233 = .ok (.istore 6, 2) := by decide +kernel
theorem d_law_235 : decode code 235 = .ok (.aload_n 2, 1) := by decide +kernel
theorem d_law_236 : decode code 236 = .ok (.invokevirtual 64, 3) := by decide +kernel
theorem d_law_239 : decode code 239 = .ok (.iload 5, 2) := by decide +kernel
theorem d_law_241 : decode code 241 = .ok (.if_icmp .eq 5, 3) := by decide +kernel
theorem d_law_244 : decode code 244 = .ok (.iconst 0, 1) := by decide +kernel
theorem d_law_245 : decode code 245 = .ok (.ireturn, 1) := by decide +kernel
theorem d_law_246 : decode code 246 = .ok (.iload 5, 2) := by decide +kernel
theorem d_law_248 : decode code 248 = .ok (.ifCond .ne 15, 3) := by decide +kernel
theorem d_law_251 : decode code 251 = .ok (.aload_n 3, 1) := by decide +kernel
theorem d_law_252 : decode code 252 = .ok (.iconst 0, 1) := by decide +kernel
theorem d_law_253 : decode code 253 = .ok (.laload, 1) := by decide +kernel
theorem d_law_254 : decode code 254 = .ok (.iload 6, 2) := by decide +kernel
theorem d_law_256 : decode code 256 = .ok (.i2l, 1) := by decide +kernel
theorem d_law_257 : decode code 257 = .ok (.lcmp, 1) := by decide +kernel
theorem d_law_258 : decode code 258 = .ok (.ifCond .eq 5, 3) := by decide +kernel
theorem d_law_261 : decode code 261 = .ok (.iconst 0, 1) := by decide +kernel
theorem d_law_262 : decode code 262 = .ok (.ireturn, 1) := by decide +kernel
theorem d_law_263 : decode code 263 = .ok (.goto 751, 3) := by decide +kernel
theorem d_law_266 : decode code 266 = .ok (.aload_n 1, 1) := by decide +kernel
theorem d_law_267 : decode code 267 = .ok (.invokevirtual 67, 3) := by decide +kernel
theorem d_law_270 : decode code 270 = .ok (.aload_n 2, 1) := by decide +kernel
theorem d_law_271 : decode code 271 = .ok (.invokevirtual 70, 3) := by decide +kernel
theorem d_law_274 : decode code 274 = .ok (.if_icmp .eq 740, 3) := by decide +kernel
theorem d_law_277 : decode code 277 = .ok (.iconst 0, 1) := by decide +kernel
theorem d_law_278 : decode code 278 = .ok (.ireturn, 1) := by decide +kernel
theorem d_law_279 : decode code 279 = .ok (.aload_n 1, 1) := by decide +kernel
theorem d_law_280 : decode code 280 = .ok (.aload_n 0, 1) := by decide +kernel
theorem d_law_281 : decode code 281 = .ok (.iload 4, 2) := by decide +kernel
theorem d_law_283 : decode code 283 = .ok (.iconst 1, 1) := by decide +kernel
theorem d_law_284 : decode code 284 = .ok (.iadd, 1) := by decide +kernel
theorem d_law_285 : decode code 285 = .ok (.iaload, 1) := by decide +kernel
theorem d_law_286 : decode code 286 = .ok (.invokevirtual 71, 3) := by decide +kernel
theorem d_law_289 : decode code 289 = .ok (.aload_n 2, 1) := by decide +kernel
theorem d_law_290 : decode code 290 = .ok (.aload_n 0, 1) := by decide +kernel
theorem d_law_291 : decode code 291 = .ok (.iload 4, 2) := by decide +kernel
theorem d_law_293 : decode code 293 = .ok (.iconst 1, 1) := by decide +kernel
theorem d_law_294 : decode code 294 = .ok (.iadd, 1) := by decide +kernel
theorem d_law_295 : decode code 295 = .ok (.iaload, 1) := by decide +kernel
theorem d_law_296 : decode code 296 = .ok (.invokevirtual 74, 3) := by decide +kernel
theorem d_law_299 : decode code 299 = .ok (.if_icmp .eq 715, 3) := by decide +kernel
theorem d_law_302 : decode code 302 = .ok (.iconst 0, 1) := by decide +kernel
theorem d_law_303 : decode code 303 = .ok (.ireturn, 1) := by decide +kernel
theorem d_law_304 : decode code 304 = .ok (.aload_n 1, 1) := by decide +kernel
theorem d_law_305 : decode code 305 = .ok (.aload_n 0, 1) := by decide +kernel
theorem d_law_306 : decode code 306 = .ok (.iload 4, 2) := by decide +kernel
theorem d_law_308 : decode code 308 = .ok (.iconst 1, 1) := by decide +kernel
theorem d_law_309 : decode code 309 = .ok (.iadd, 1) := by decide +kernel
theorem d_law_310 : decode code 310 = .ok (.iaload, 1) := by decide +kernel
theorem d_law_311 : decode code 311 = .ok (.aload_n 0, 1) := by decide +kernel
theorem d_law_312 : decode code 312 = .ok (.iload 4, 2) := by decide +kernel
theorem d_law_314 : decode code 314 = .ok (.iconst 2, 1) := by decide +kernel
theorem d_law_315 : decode code 315 = .ok (.iadd, 1) := by decide +kernel
theorem d_law_316 : decode code 316 = .ok (.iaload, 1) := by decide +kernel
theorem d_law_317 : decode code 317 = .ok (.ifCond .eq 7, 3) := by decide +kernel
theorem d_law_320 : decode code 320 = .ok (.iconst 1, 1) := by decide +kernel
theorem d_law_321 : decode code 321 = .ok (.goto 4, 3) := by decide +kernel
theorem d_law_324 : decode code 324 = .ok (.iconst 0, 1) := by decide +kernel
theorem d_law_325 : decode code 325 = .ok (.invokevirtual 75, 3) := by decide +kernel
theorem d_law_328 : decode code 328 = .ok (.aload_n 2, 1) := by decide +kernel
theorem d_law_329 : decode code 329 = .ok (.aload_n 0, 1) := by decide +kernel
theorem d_law_330 : decode code 330 = .ok (.iload 4, 2) := by decide +kernel
theorem d_law_332 : decode code 332 = .ok (.iconst 1, 1) := by decide +kernel
theorem d_law_333 : decode code 333 = .ok (.iadd, 1) := by decide +kernel
theorem d_law_334 : decode code 334 = .ok (.iaload, 1) := by decide +kernel
theorem d_law_335 : decode code 335 = .ok (.aload_n 0, 1) := by decide +kernel
theorem d_law_336 : decode code 336 = .ok (.iload 4, 2) := by decide +kernel
theorem d_law_338 : decode code 338 = .ok (.iconst 2, 1) := by decide +kernel
theorem d_law_339 : decode code 339 = .ok (.iadd, 1) := by decide +kernel
theorem d_law_340 : decode code 340 = .ok (.iaload, 1) := by decide +kernel
theorem d_law_341 : decode code 341 = .ok (.ifCond .eq 7, 3) := by decide +kernel
theorem d_law_344 : decode code 344 = .ok (.iconst 1, 1) := by decide +kernel
theorem d_law_345 : decode code 345 = .ok (.goto 4, 3) := by decide +kernel
theorem d_law_348 : decode code 348 = .ok (.iconst 0, 1) := by decide +kernel
theorem d_law_349 : decode code 349 = .ok (.invokevirtual 79, 3) := by decide +kernel
theorem d_law_352 : decode code 352 = .ok (.if_icmp .eq 662, 3) := by decide +kernel
theorem d_law_355 : decode code 355 = .ok (.iconst 0, 1) := by decide +kernel
theorem d_law_356 : decode code 356 = .ok (.ireturn, 1) := by decide +kernel
theorem d_law_357 : decode code 357 = .ok (.aload_n 1, 1) := by decide +kernel
theorem d_law_358 : decode code 358 = .ok (.aload_n 0, 1) := by decide +kernel
theorem d_law_359 : decode code 359 = .ok (.iload 4, 2) := by decide +kernel
theorem d_law_361 : decode code 361 = .ok (.iconst 1, 1) := by decide +kernel
theorem d_law_362 : decode code 362 = .ok (.iadd, 1) := by decide +kernel
theorem d_law_363 : decode code 363 = .ok (.iaload, 1) := by decide +kernel
theorem d_law_364 : decode code 364 = .ok (.aload_n 0, 1) := by decide +kernel
theorem d_law_365 : decode code 365 = .ok (.iload 4, 2) := by decide +kernel
theorem d_law_367 : decode code 367 = .ok (.iconst 2, 1) := by decide +kernel
theorem d_law_368 : decode code 368 = .ok (.iadd, 1) := by decide +kernel
theorem d_law_369 : decode code 369 = .ok (.iaload, 1) := by decide +kernel
theorem d_law_370 : decode code 370 = .ok (.aload_n 3, 1) := by decide +kernel
theorem d_law_371 : decode code 371 = .ok (.invokestatic 80, 3) := by decide +kernel
theorem d_law_374 : decode code 374 = .ok (.istore 5, 2) := by decide +kernel
theorem d_law_376 : decode code 376 = .ok (.aload_n 2, 1) := by decide +kernel
theorem d_law_377 : decode code 377 = .ok (.aload_n 0, 1) := by decide +kernel
theorem d_law_378 : decode code 378 = .ok (.iload 4, 2) := by decide +kernel
theorem d_law_380 : decode code 380 = .ok (.iconst 1, 1) := by decide +kernel
theorem d_law_381 : decode code 381 = .ok (.iadd, 1) := by decide +kernel
theorem d_law_382 : decode code 382 = .ok (.iaload, 1) := by decide +kernel
theorem d_law_383 : decode code 383 = .ok (.aload_n 0, 1) := by decide +kernel
theorem d_law_384 : decode code 384 = .ok (.iload 4, 2) := by decide +kernel
theorem d_law_386 : decode code 386 = .ok (.iconst 2, 1) := by decide +kernel
theorem d_law_387 : decode code 387 = .ok (.iadd, 1) := by decide +kernel
theorem d_law_388 : decode code 388 = .ok (.iaload, 1) := by decide +kernel
theorem d_law_389 : decode code 389 = .ok (.invokevirtual 83, 3) := by decide +kernel
theorem d_law_392 : decode code 392 = .ok (.istore 6, 2) := by decide +kernel
theorem d_law_394 : decode code 394 = .ok (.aload_n 2, 1) := by decide +kernel
theorem d_law_395 : decode code 395 = .ok (.invokevirtual 64, 3) := by decide +kernel
theorem d_law_398 : decode code 398 = .ok (.iload 5, 2) := by decide +kernel
theorem d_law_400 : decode code 400 = .ok (.if_icmp .eq 5, 3) := by decide +kernel
theorem d_law_403 : decode code 403 = .ok (.iconst 0, 1) := by decide +kernel
theorem d_law_404 : decode code 404 = .ok (.ireturn, 1) := by decide +kernel
theorem d_law_405 : decode code 405 = .ok (.iload 5, 2) := by decide +kernel
theorem d_law_407 : decode code 407 = .ok (.ifCond .ne 15, 3) := by decide +kernel
theorem d_law_410 : decode code 410 = .ok (.aload_n 3, 1) := by decide +kernel
theorem d_law_411 : decode code 411 = .ok (.iconst 0, 1) := by decide +kernel
theorem d_law_412 : decode code 412 = .ok (.laload, 1) := by decide +kernel
theorem d_law_413 : decode code 413 = .ok (.iload 6, 2) := by decide +kernel
theorem d_law_415 : decode code 415 = .ok (.i2l, 1) := by decide +kernel
theorem d_law_416 : decode code 416 = .ok (.lcmp, 1) := by decide +kernel
theorem d_law_417 : decode code 417 = .ok (.ifCond .eq 5, 3) := by decide +kernel
theorem d_law_420 : decode code 420 = .ok (.iconst 0, 1) := by decide +kernel
theorem d_law_421 : decode code 421 = .ok (.ireturn, 1) := by decide +kernel
theorem d_law_422 : decode code 422 = .ok (.goto 592, 3) := by decide +kernel
theorem d_law_425 : decode code 425 = .ok (.aload_n 1, 1) := by decide +kernel
theorem d_law_426 : decode code 426 = .ok (.aload_n 0, 1) := by decide +kernel
theorem d_law_427 : decode code 427 = .ok (.iload 4, 2) := by decide +kernel
theorem d_law_429 : decode code 429 = .ok (.iconst 1, 1) := by decide +kernel
theorem d_law_430 : decode code 430 = .ok (.iadd, 1) := by decide +kernel
theorem d_law_431 : decode code 431 = .ok (.iaload, 1) := by decide +kernel
theorem d_law_432 : decode code 432 = .ok (.ifCond .eq 7, 3) := by decide +kernel
theorem d_law_435 : decode code 435 = .ok (.iconst 1, 1) := by decide +kernel
theorem d_law_436 : decode code 436 = .ok (.goto 4, 3) := by decide +kernel
theorem d_law_439 : decode code 439 = .ok (.iconst 0, 1) := by decide +kernel
theorem d_law_440 : decode code 440 = .ok (.invokevirtual 84, 3) := by decide +kernel
theorem d_law_443 : decode code 443 = .ok (.aload_n 2, 1) := by decide +kernel
theorem d_law_444 : decode code 444 = .ok (.aload_n 0, 1) := by decide +kernel
theorem d_law_445 : decode code 445 = .ok (.iload 4, 2) := by decide +kernel
theorem d_law_447 : decode code 447 = .ok (.iconst 1, 1) := by decide +kernel
theorem d_law_448 : decode code 448 = .ok (.iadd, 1) := by decide +kernel
theorem d_law_449 : decode code 449 = .ok (.iaload, 1) := by decide +kernel
theorem d_law_450 : decode code 450 = .ok (.ifCond .eq 7, 3) := by decide +kernel
theorem d_law_453 : decode code 453 = .ok (.iconst 1, 1) := by decide +kernel
theorem d_law_454 : decode code 454 = .ok (.goto 4, 3) := by decide +kernel
theorem d_law_457 : decode code 457 = .ok (.iconst 0, 1) := by decide +kernel
theorem d_law_458 : decode code 458 = .ok (.invokevirtual 88, 3) := by decide +kernel
theorem d_law_461 : decode code 461 = .ok (.if_icmp .eq 553, 3) := by decide +kernel
theorem d_law_464 : decode code 464 = .ok (.iconst 0, 1) := by decide +kernel
theorem d_law_465 : decode code 465 = .ok (.ireturn, 1) := by decide +kernel
theorem d_law_466 : decode code 466 = .ok (.aload_n 1, 1) := by decide +kernel
theorem d_law_467 : decode code 467 = .ok (.aload_n 0, 1) := by decide +kernel
theorem d_law_468 : decode code 468 = .ok (.iload 4, 2) := by decide +kernel
theorem d_law_470 : decode code 470 = .ok (.iconst 1, 1) := by decide +kernel
theorem d_law_471 : decode code 471 = .ok (.iadd, 1) := by decide +kernel
theorem d_law_472 : decode code 472 = .ok (.iaload, 1) := by decide +kernel
theorem d_law_473 : decode code 473 = .ok (.aload_n 0, 1) := by decide +kernel
theorem d_law_474 : decode code 474 = .ok (.iload 4, 2) := by decide +kernel
theorem d_law_476 : decode code 476 = .ok (.iconst 2, 1) := by decide +kernel
theorem d_law_477 : decode code 477 = .ok (.iadd, 1) := by decide +kernel
theorem d_law_478 : decode code 478 = .ok (.iaload, 1) := by decide +kernel
theorem d_law_479 : decode code 479 = .ok (.invokevirtual 89, 3) := by decide +kernel
theorem d_law_482 : decode code 482 = .ok (.aload_n 2, 1) := by decide +kernel
theorem d_law_483 : decode code 483 = .ok (.aload_n 0, 1) := by decide +kernel
theorem d_law_484 : decode code 484 = .ok (.iload 4, 2) := by decide +kernel
theorem d_law_486 : decode code 486 = .ok (.iconst 1, 1) := by decide +kernel
theorem d_law_487 : decode code 487 = .ok (.iadd, 1) := by decide +kernel
theorem d_law_488 : decode code 488 = .ok (.iaload, 1) := by decide +kernel
theorem d_law_489 : decode code 489 = .ok (.aload_n 0, 1) := by decide +kernel
theorem d_law_490 : decode code 490 = .ok (.iload 4, 2) := by decide +kernel
theorem d_law_492 : decode code 492 = .ok (.iconst 2, 1) := by decide +kernel
theorem d_law_493 : decode code 493 = .ok (.iadd, 1) := by decide +kernel
theorem d_law_494 : decode code 494 = .ok (.iaload, 1) := by decide +kernel
theorem d_law_495 : decode code 495 = .ok (.invokevirtual 93, 3) := by decide +kernel
theorem d_law_498 : decode code 498 = .ok (.if_icmp .eq 516, 3) := by decide +kernel
theorem d_law_501 : decode code 501 = .ok (.iconst 0, 1) := by decide +kernel
theorem d_law_502 : decode code 502 = .ok (.ireturn, 1) := by decide +kernel
theorem d_law_503 : decode code 503 = .ok (.aload_n 1, 1) := by decide +kernel
theorem d_law_504 : decode code 504 = .ok (.aload_n 0, 1) := by decide +kernel
theorem d_law_505 : decode code 505 = .ok (.iload 4, 2) := by decide +kernel
theorem d_law_507 : decode code 507 = .ok (.iconst 1, 1) := by decide +kernel
theorem d_law_508 : decode code 508 = .ok (.iadd, 1) := by decide +kernel
theorem d_law_509 : decode code 509 = .ok (.iaload, 1) := by decide +kernel
theorem d_law_510 : decode code 510 = .ok (.aload_n 0, 1) := by decide +kernel
theorem d_law_511 : decode code 511 = .ok (.iload 4, 2) := by decide +kernel
theorem d_law_513 : decode code 513 = .ok (.iconst 2, 1) := by decide +kernel
theorem d_law_514 : decode code 514 = .ok (.iadd, 1) := by decide +kernel
theorem d_law_515 : decode code 515 = .ok (.iaload, 1) := by decide +kernel
theorem d_law_516 : decode code 516 = .ok (.i2l, 1) := by decide +kernel
theorem d_law_517 : decode code 517 = .ok (.bipush 32, 2) := by decide +kernel
theorem d_law_519 : decode code 519 = .ok (.lshl, 1) := by decide +kernel
theorem d_law_520 : decode code 520 = .ok (.aload_n 0, 1) := by decide +kernel
theorem d_law_521 : decode code 521 = .ok (.iload 4, 2) := by decide +kernel
theorem d_law_523 : decode code 523 = .ok (.iconst 3, 1) := by decide +kernel
theorem d_law_524 : decode code 524 = .ok (.iadd, 1) := by decide +kernel
theorem d_law_525 : decode code 525 = .ok (.iaload, 1) := by decide +kernel
theorem d_law_526 : decode code 526 = .ok (.i2l, 1) := by decide +kernel
theorem d_law_527 : decode code 527 = .ok (.ldc2_w 56, 3) := by decide +kernel
theorem d_law_530 : decode code 530 = .ok (.land, 1) := by decide +kernel
theorem d_law_531 : decode code 531 = .ok (.lor, 1) := by decide +kernel
theorem d_law_532 : decode code 532 = .ok (.aload_n 3, 1) := by decide +kernel
theorem d_law_533 : decode code 533 = .ok (.invokestatic 94, 3) := by decide +kernel
theorem d_law_536 : decode code 536 = .ok (.istore 5, 2) := by decide +kernel
theorem d_law_538 : decode code 538 = .ok (.aload_n 2, 1) := by decide +kernel
theorem d_law_539 : decode code 539 = .ok (.aload_n 0, 1) := by decide +kernel
theorem d_law_540 : decode code 540 = .ok (.iload 4, 2) := by decide +kernel
theorem d_law_542 : decode code 542 = .ok (.iconst 1, 1) := by decide +kernel
theorem d_law_543 : decode code 543 = .ok (.iadd, 1) := by decide +kernel
theorem d_law_544 : decode code 544 = .ok (.iaload, 1) := by decide +kernel
theorem d_law_545 : decode code 545 = .ok (.aload_n 0, 1) := by decide +kernel
theorem d_law_546 : decode code 546 = .ok (.iload 4, 2) := by decide +kernel
theorem d_law_548 : decode code 548 = .ok (.iconst 2, 1) := by decide +kernel
theorem d_law_549 : decode code 549 = .ok (.iadd, 1) := by decide +kernel
theorem d_law_550 : decode code 550 = .ok (.iaload, 1) := by decide +kernel
theorem d_law_551 : decode code 551 = .ok (.i2l, 1) := by decide +kernel
theorem d_law_552 : decode code 552 = .ok (.bipush 32, 2) := by decide +kernel
theorem d_law_554 : decode code 554 = .ok (.lshl, 1) := by decide +kernel
theorem d_law_555 : decode code 555 = .ok (.aload_n 0, 1) := by decide +kernel
theorem d_law_556 : decode code 556 = .ok (.iload 4, 2) := by decide +kernel
theorem d_law_558 : decode code 558 = .ok (.iconst 3, 1) := by decide +kernel
theorem d_law_559 : decode code 559 = .ok (.iadd, 1) := by decide +kernel
theorem d_law_560 : decode code 560 = .ok (.iaload, 1) := by decide +kernel
theorem d_law_561 : decode code 561 = .ok (.i2l, 1) := by decide +kernel
theorem d_law_562 : decode code 562 = .ok (.ldc2_w 56, 3) := by decide +kernel
theorem d_law_565 : decode code 565 = .ok (.land, 1) := by decide +kernel
theorem d_law_566 : decode code 566 = .ok (.lor, 1) := by decide +kernel
theorem d_law_567 : decode code 567 = .ok (.invokevirtual 97, 3) := by decide +kernel
theorem d_law_570 : decode code 570 = .ok (.istore 6, 2) := by decide +kernel
theorem d_law_572 : decode code 572 = .ok (.aload_n 2, 1) := by decide +kernel
theorem d_law_573 : decode code 573 = .ok (.invokevirtual 64, 3) := by decide +kernel
theorem d_law_576 : decode code 576 = .ok (.iload 5, 2) := by decide +kernel
theorem d_law_578 : decode code 578 = .ok (.if_icmp .eq 5, 3) := by decide +kernel
theorem d_law_581 : decode code 581 = .ok (.iconst 0, 1) := by decide +kernel
theorem d_law_582 : decode code 582 = .ok (.ireturn, 1) := by decide +kernel
theorem d_law_583 : decode code 583 = .ok (.iload 5, 2) := by decide +kernel
theorem d_law_585 : decode code 585 = .ok (.ifCond .ne 15, 3) := by decide +kernel
theorem d_law_588 : decode code 588 = .ok (.aload_n 3, 1) := by decide +kernel
theorem d_law_589 : decode code 589 = .ok (.iconst 0, 1) := by decide +kernel
theorem d_law_590 : decode code 590 = .ok (.laload, 1) := by decide +kernel
theorem d_law_591 : decode code 591 = .ok (.iload 6, 2) := by decide +kernel
theorem d_law_593 : decode code 593 = .ok (.i2l, 1) := by decide +kernel
theorem d_law_594 : decode code 594 = .ok (.lcmp, 1) := by decide +kernel
theorem d_law_595 : decode code 595 = .ok (.ifCond .eq 5, 3) := by decide +kernel
theorem d_law_598 : decode code 598 = .ok (.iconst 0, 1) := by decide +kernel
theorem d_law_599 : decode code 599 = .ok (.ireturn, 1) := by decide +kernel
theorem d_law_600 : decode code 600 = .ok (.goto 414, 3) := by decide +kernel
theorem d_law_603 : decode code 603 = .ok (.aload_n 1, 1) := by decide +kernel
theorem d_law_604 : decode code 604 = .ok (.aload_n 0, 1) := by decide +kernel
theorem d_law_605 : decode code 605 = .ok (.iload 4, 2) := by decide +kernel
theorem d_law_607 : decode code 607 = .ok (.iconst 1, 1) := by decide +kernel
theorem d_law_608 : decode code 608 = .ok (.iadd, 1) := by decide +kernel
theorem d_law_609 : decode code 609 = .ok (.iaload, 1) := by decide +kernel
theorem d_law_610 : decode code 610 = .ok (.invokevirtual 98, 3) := by decide +kernel
theorem d_law_613 : decode code 613 = .ok (.aload_n 2, 1) := by decide +kernel
theorem d_law_614 : decode code 614 = .ok (.aload_n 0, 1) := by decide +kernel
theorem d_law_615 : decode code 615 = .ok (.iload 4, 2) := by decide +kernel
theorem d_law_617 : decode code 617 = .ok (.iconst 1, 1) := by decide +kernel
theorem d_law_618 : decode code 618 = .ok (.iadd, 1) := by decide +kernel
theorem d_law_619 : decode code 619 = .ok (.iaload, 1) := by decide +kernel
theorem d_law_620 : decode code 620 = .ok (.invokevirtual 102, 3) := by decide +kernel
theorem d_law_623 : decode code 623 = .ok (.if_icmp .eq 391, 3) := by decide +kernel
theorem d_law_626 : decode code 626 = .ok (.iconst 0, 1) := by decide +kernel
theorem d_law_627 : decode code 627 = .ok (.ireturn, 1) := by decide +kernel
theorem d_law_628 : decode code 628 = .ok (.aload_n 1, 1) := by decide +kernel
theorem d_law_629 : decode code 629 = .ok (.aload_n 0, 1) := by decide +kernel
theorem d_law_630 : decode code 630 = .ok (.iload 4, 2) := by decide +kernel
theorem d_law_632 : decode code 632 = .ok (.iconst 1, 1) := by decide +kernel
theorem d_law_633 : decode code 633 = .ok (.iadd, 1) := by decide +kernel
theorem d_law_634 : decode code 634 = .ok (.iaload, 1) := by decide +kernel
theorem d_law_635 : decode code 635 = .ok (.i2l, 1) := by decide +kernel
theorem d_law_636 : decode code 636 = .ok (.bipush 32, 2) := by decide +kernel
theorem d_law_638 : decode code 638 = .ok (.lshl, 1) := by decide +kernel
theorem d_law_639 : decode code 639 = .ok (.aload_n 0, 1) := by decide +kernel
theorem d_law_640 : decode code 640 = .ok (.iload 4, 2) := by decide +kernel
theorem d_law_642 : decode code 642 = .ok (.iconst 2, 1) := by decide +kernel
theorem d_law_643 : decode code 643 = .ok (.iadd, 1) := by decide +kernel
theorem d_law_644 : decode code 644 = .ok (.iaload, 1) := by decide +kernel
theorem d_law_645 : decode code 645 = .ok (.i2l, 1) := by decide +kernel
theorem d_law_646 : decode code 646 = .ok (.ldc2_w 56, 3) := by decide +kernel
theorem d_law_649 : decode code 649 = .ok (.land, 1) := by decide +kernel
theorem d_law_650 : decode code 650 = .ok (.lor, 1) := by decide +kernel
theorem d_law_651 : decode code 651 = .ok (.aload_n 0, 1) := by decide +kernel
theorem d_law_652 : decode code 652 = .ok (.iload 4, 2) := by decide +kernel
theorem d_law_654 : decode code 654 = .ok (.iconst 3, 1) := by decide +kernel
theorem d_law_655 : decode code 655 = .ok (.iadd, 1) := by decide +kernel
theorem d_law_656 : decode code 656 = .ok (.iaload, 1) := by decide +kernel
theorem d_law_657 : decode code 657 = .ok (.aload_n 3, 1) := by decide +kernel
theorem d_law_658 : decode code 658 = .ok (.invokestatic 103, 3) := by decide +kernel
theorem d_law_661 : decode code 661 = .ok (.istore 5, 2) := by decide +kernel
theorem d_law_663 : decode code 663 = .ok (.aload_n 2, 1) := by decide +kernel
theorem d_law_664 : decode code 664 = .ok (.aload_n 0, 1) := by decide +kernel
theorem d_law_665 : decode code 665 = .ok (.iload 4, 2) := by decide +kernel
theorem d_law_667 : decode code 667 = .ok (.iconst 1, 1) := by decide +kernel
theorem d_law_668 : decode code 668 = .ok (.iadd, 1) := by decide +kernel
theorem d_law_669 : decode code 669 = .ok (.iaload, 1) := by decide +kernel
theorem d_law_670 : decode code 670 = .ok (.i2l, 1) := by decide +kernel
theorem d_law_671 : decode code 671 = .ok (.bipush 32, 2) := by decide +kernel
theorem d_law_673 : decode code 673 = .ok (.lshl, 1) := by decide +kernel
theorem d_law_674 : decode code 674 = .ok (.aload_n 0, 1) := by decide +kernel
theorem d_law_675 : decode code 675 = .ok (.iload 4, 2) := by decide +kernel
theorem d_law_677 : decode code 677 = .ok (.iconst 2, 1) := by decide +kernel
theorem d_law_678 : decode code 678 = .ok (.iadd, 1) := by decide +kernel
theorem d_law_679 : decode code 679 = .ok (.iaload, 1) := by decide +kernel
theorem d_law_680 : decode code 680 = .ok (.i2l, 1) := by decide +kernel
theorem d_law_681 : decode code 681 = .ok (.ldc2_w 56, 3) := by decide +kernel
theorem d_law_684 : decode code 684 = .ok (.land, 1) := by decide +kernel
theorem d_law_685 : decode code 685 = .ok (.lor, 1) := by decide +kernel
theorem d_law_686 : decode code 686 = .ok (.aload_n 0, 1) := by decide +kernel
theorem d_law_687 : decode code 687 = .ok (.iload 4, 2) := by decide +kernel
theorem d_law_689 : decode code 689 = .ok (.iconst 3, 1) := by decide +kernel
theorem d_law_690 : decode code 690 = .ok (.iadd, 1) := by decide +kernel
theorem d_law_691 : decode code 691 = .ok (.iaload, 1) := by decide +kernel
theorem d_law_692 : decode code 692 = .ok (.invokevirtual 106, 3) := by decide +kernel
theorem d_law_695 : decode code 695 = .ok (.lstore 6, 2) := by decide +kernel
theorem d_law_697 : decode code 697 = .ok (.aload_n 2, 1) := by decide +kernel
theorem d_law_698 : decode code 698 = .ok (.invokevirtual 64, 3) := by decide +kernel
theorem d_law_701 : decode code 701 = .ok (.iload 5, 2) := by decide +kernel
theorem d_law_703 : decode code 703 = .ok (.if_icmp .eq 5, 3) := by decide +kernel
theorem d_law_706 : decode code 706 = .ok (.iconst 0, 1) := by decide +kernel
theorem d_law_707 : decode code 707 = .ok (.ireturn, 1) := by decide +kernel
theorem d_law_708 : decode code 708 = .ok (.iload 5, 2) := by decide +kernel
theorem d_law_710 : decode code 710 = .ok (.ifCond .ne 14, 3) := by decide +kernel
theorem d_law_713 : decode code 713 = .ok (.aload_n 3, 1) := by decide +kernel
theorem d_law_714 : decode code 714 = .ok (.iconst 0, 1) := by decide +kernel
theorem d_law_715 : decode code 715 = .ok (.laload, 1) := by decide +kernel
theorem d_law_716 : decode code 716 = .ok (.lload 6, 2) := by decide +kernel
theorem d_law_718 : decode code 718 = .ok (.lcmp, 1) := by decide +kernel
theorem d_law_719 : decode code 719 = .ok (.ifCond .eq 5, 3) := by decide +kernel
theorem d_law_722 : decode code 722 = .ok (.iconst 0, 1) := by decide +kernel
theorem d_law_723 : decode code 723 = .ok (.ireturn, 1) := by decide +kernel
theorem d_law_724 : decode code 724 = .ok (.goto 290, 3) := by decide +kernel
theorem d_law_727 : decode code 727 = .ok (.aload_n 1, 1) := by decide +kernel
theorem d_law_728 : decode code 728 = .ok (.aload_n 0, 1) := by decide +kernel
theorem d_law_729 : decode code 729 = .ok (.iload 4, 2) := by decide +kernel
theorem d_law_731 : decode code 731 = .ok (.iconst 1, 1) := by decide +kernel
theorem d_law_732 : decode code 732 = .ok (.iadd, 1) := by decide +kernel
theorem d_law_733 : decode code 733 = .ok (.iaload, 1) := by decide +kernel
theorem d_law_734 : decode code 734 = .ok (.aload_n 0, 1) := by decide +kernel
theorem d_law_735 : decode code 735 = .ok (.iload 4, 2) := by decide +kernel
theorem d_law_737 : decode code 737 = .ok (.iconst 2, 1) := by decide +kernel
theorem d_law_738 : decode code 738 = .ok (.iadd, 1) := by decide +kernel
theorem d_law_739 : decode code 739 = .ok (.iaload, 1) := by decide +kernel
theorem d_law_740 : decode code 740 = .ok (.aload_n 0, 1) := by decide +kernel
theorem d_law_741 : decode code 741 = .ok (.iload 4, 2) := by decide +kernel
theorem d_law_743 : decode code 743 = .ok (.iconst 3, 1) := by decide +kernel
theorem d_law_744 : decode code 744 = .ok (.iadd, 1) := by decide +kernel
theorem d_law_745 : decode code 745 = .ok (.iaload, 1) := by decide +kernel
theorem d_law_746 : decode code 746 = .ok (.aload_n 3, 1) := by decide +kernel
theorem d_law_747 : decode code 747 = .ok (.invokestatic 107, 3) := by decide +kernel
theorem d_law_750 : decode code 750 = .ok (.istore 5, 2) := by decide +kernel
theorem d_law_752 : decode code 752 = .ok (.aload_n 2, 1) := by decide +kernel
theorem d_law_753 : decode code 753 = .ok (.aload_n 0, 1) := by decide +kernel
theorem d_law_754 : decode code 754 = .ok (.iload 4, 2) := by decide +kernel
theorem d_law_756 : decode code 756 = .ok (.iconst 1, 1) := by decide +kernel
theorem d_law_757 : decode code 757 = .ok (.iadd, 1) := by decide +kernel
theorem d_law_758 : decode code 758 = .ok (.iaload, 1) := by decide +kernel
theorem d_law_759 : decode code 759 = .ok (.aload_n 0, 1) := by decide +kernel
theorem d_law_760 : decode code 760 = .ok (.iload 4, 2) := by decide +kernel
theorem d_law_762 : decode code 762 = .ok (.iconst 2, 1) := by decide +kernel
theorem d_law_763 : decode code 763 = .ok (.iadd, 1) := by decide +kernel
theorem d_law_764 : decode code 764 = .ok (.iaload, 1) := by decide +kernel
theorem d_law_765 : decode code 765 = .ok (.aload_n 0, 1) := by decide +kernel
theorem d_law_766 : decode code 766 = .ok (.iload 4, 2) := by decide +kernel
theorem d_law_768 : decode code 768 = .ok (.iconst 3, 1) := by decide +kernel
theorem d_law_769 : decode code 769 = .ok (.iadd, 1) := by decide +kernel
theorem d_law_770 : decode code 770 = .ok (.iaload, 1) := by decide +kernel
theorem d_law_771 : decode code 771 = .ok (.invokevirtual 110, 3) := by decide +kernel
theorem d_law_774 : decode code 774 = .ok (.istore 6, 2) := by decide +kernel
theorem d_law_776 : decode code 776 = .ok (.aload_n 2, 1) := by decide +kernel
theorem d_law_777 : decode code 777 = .ok (.invokevirtual 64, 3) := by decide +kernel
theorem d_law_780 : decode code 780 = .ok (.iload 5, 2) := by decide +kernel
theorem d_law_782 : decode code 782 = .ok (.if_icmp .eq 5, 3) := by decide +kernel
theorem d_law_785 : decode code 785 = .ok (.iconst 0, 1) := by decide +kernel
theorem d_law_786 : decode code 786 = .ok (.ireturn, 1) := by decide +kernel
theorem d_law_787 : decode code 787 = .ok (.iload 5, 2) := by decide +kernel
theorem d_law_789 : decode code 789 = .ok (.ifCond .ne 15, 3) := by decide +kernel
theorem d_law_792 : decode code 792 = .ok (.aload_n 3, 1) := by decide +kernel
theorem d_law_793 : decode code 793 = .ok (.iconst 0, 1) := by decide +kernel
theorem d_law_794 : decode code 794 = .ok (.laload, 1) := by decide +kernel
theorem d_law_795 : decode code 795 = .ok (.iload 6, 2) := by decide +kernel
theorem d_law_797 : decode code 797 = .ok (.i2l, 1) := by decide +kernel
theorem d_law_798 : decode code 798 = .ok (.lcmp, 1) := by decide +kernel
theorem d_law_799 : decode code 799 = .ok (.ifCond .eq 5, 3) := by decide +kernel
theorem d_law_802 : decode code 802 = .ok (.iconst 0, 1) := by decide +kernel
theorem d_law_803 : decode code 803 = .ok (.ireturn, 1) := by decide +kernel
theorem d_law_804 : decode code 804 = .ok (.goto 210, 3) := by decide +kernel
theorem d_law_807 : decode code 807 = .ok (.aload_n 1, 1) := by decide +kernel
theorem d_law_808 : decode code 808 = .ok (.aload_n 0, 1) := by decide +kernel
theorem d_law_809 : decode code 809 = .ok (.iload 4, 2) := by decide +kernel
theorem d_law_811 : decode code 811 = .ok (.iconst 1, 1) := by decide +kernel
theorem d_law_812 : decode code 812 = .ok (.iadd, 1) := by decide +kernel
theorem d_law_813 : decode code 813 = .ok (.iaload, 1) := by decide +kernel
theorem d_law_814 : decode code 814 = .ok (.aload_n 0, 1) := by decide +kernel
theorem d_law_815 : decode code 815 = .ok (.iload 4, 2) := by decide +kernel
theorem d_law_817 : decode code 817 = .ok (.iconst 2, 1) := by decide +kernel
theorem d_law_818 : decode code 818 = .ok (.iadd, 1) := by decide +kernel
theorem d_law_819 : decode code 819 = .ok (.iaload, 1) := by decide +kernel
theorem d_law_820 : decode code 820 = .ok (.i2l, 1) := by decide +kernel
theorem d_law_821 : decode code 821 = .ok (.bipush 32, 2) := by decide +kernel
theorem d_law_823 : decode code 823 = .ok (.lshl, 1) := by decide +kernel
theorem d_law_824 : decode code 824 = .ok (.aload_n 0, 1) := by decide +kernel
theorem d_law_825 : decode code 825 = .ok (.iload 4, 2) := by decide +kernel
theorem d_law_827 : decode code 827 = .ok (.iconst 3, 1) := by decide +kernel
theorem d_law_828 : decode code 828 = .ok (.iadd, 1) := by decide +kernel
theorem d_law_829 : decode code 829 = .ok (.iaload, 1) := by decide +kernel
theorem d_law_830 : decode code 830 = .ok (.i2l, 1) := by decide +kernel
theorem d_law_831 : decode code 831 = .ok (.ldc2_w 56, 3) := by decide +kernel
theorem d_law_834 : decode code 834 = .ok (.land, 1) := by decide +kernel
theorem d_law_835 : decode code 835 = .ok (.lor, 1) := by decide +kernel
theorem d_law_836 : decode code 836 = .ok (.aload_n 0, 1) := by decide +kernel
theorem d_law_837 : decode code 837 = .ok (.iload 4, 2) := by decide +kernel
theorem d_law_839 : decode code 839 = .ok (.iconst 4, 1) := by decide +kernel
theorem d_law_840 : decode code 840 = .ok (.iadd, 1) := by decide +kernel
theorem d_law_841 : decode code 841 = .ok (.iaload, 1) := by decide +kernel
theorem d_law_842 : decode code 842 = .ok (.aload_n 3, 1) := by decide +kernel
theorem d_law_843 : decode code 843 = .ok (.invokestatic 111, 3) := by decide +kernel
theorem d_law_846 : decode code 846 = .ok (.istore 5, 2) := by decide +kernel
theorem d_law_848 : decode code 848 = .ok (.aload_n 2, 1) := by decide +kernel
theorem d_law_849 : decode code 849 = .ok (.aload_n 0, 1) := by decide +kernel
theorem d_law_850 : decode code 850 = .ok (.iload 4, 2) := by decide +kernel
theorem d_law_852 : decode code 852 = .ok (.iconst 1, 1) := by decide +kernel
theorem d_law_853 : decode code 853 = .ok (.iadd, 1) := by decide +kernel
theorem d_law_854 : decode code 854 = .ok (.iaload, 1) := by decide +kernel
theorem d_law_855 : decode code 855 = .ok (.aload_n 0, 1) := by decide +kernel
theorem d_law_856 : decode code 856 = .ok (.iload 4, 2) := by decide +kernel
theorem d_law_858 : decode code 858 = .ok (.iconst 2, 1) := by decide +kernel
theorem d_law_859 : decode code 859 = .ok (.iadd, 1) := by decide +kernel
theorem d_law_860 : decode code 860 = .ok (.iaload, 1) := by decide +kernel
theorem d_law_861 : decode code 861 = .ok (.i2l, 1) := by decide +kernel
theorem d_law_862 : decode code 862 = .ok (.bipush 32, 2) := by decide +kernel
theorem d_law_864 : decode code 864 = .ok (.lshl, 1) := by decide +kernel
theorem d_law_865 : decode code 865 = .ok (.aload_n 0, 1) := by decide +kernel
theorem d_law_866 : decode code 866 = .ok (.iload 4, 2) := by decide +kernel
theorem d_law_868 : decode code 868 = .ok (.iconst 3, 1) := by decide +kernel
theorem d_law_869 : decode code 869 = .ok (.iadd, 1) := by decide +kernel
theorem d_law_870 : decode code 870 = .ok (.iaload, 1) := by decide +kernel
theorem d_law_871 : decode code 871 = .ok (.i2l, 1) := by decide +kernel
theorem d_law_872 : decode code 872 = .ok (.ldc2_w 56, 3) := by decide +kernel
theorem d_law_875 : decode code 875 = .ok (.land, 1) := by decide +kernel
theorem d_law_876 : decode code 876 = .ok (.lor, 1) := by decide +kernel
theorem d_law_877 : decode code 877 = .ok (.aload_n 0, 1) := by decide +kernel
theorem d_law_878 : decode code 878 = .ok (.iload 4, 2) := by decide +kernel
theorem d_law_880 : decode code 880 = .ok (.iconst 4, 1) := by decide +kernel
theorem d_law_881 : decode code 881 = .ok (.iadd, 1) := by decide +kernel
theorem d_law_882 : decode code 882 = .ok (.iaload, 1) := by decide +kernel
theorem d_law_883 : decode code 883 = .ok (.invokevirtual 114, 3) := by decide +kernel
theorem d_law_886 : decode code 886 = .ok (.istore 6, 2) := by decide +kernel
theorem d_law_888 : decode code 888 = .ok (.aload_n 2, 1) := by decide +kernel
theorem d_law_889 : decode code 889 = .ok (.invokevirtual 64, 3) := by decide +kernel
theorem d_law_892 : decode code 892 = .ok (.iload 5, 2) := by decide +kernel
theorem d_law_894 : decode code 894 = .ok (.if_icmp .eq 5, 3) := by decide +kernel
theorem d_law_897 : decode code 897 = .ok (.iconst 0, 1) := by decide +kernel
theorem d_law_898 : decode code 898 = .ok (.ireturn, 1) := by decide +kernel
theorem d_law_899 : decode code 899 = .ok (.iload 5, 2) := by decide +kernel
theorem d_law_901 : decode code 901 = .ok (.ifCond .ne 22, 3) := by decide +kernel
theorem d_law_904 : decode code 904 = .ok (.aload_n 3, 1) := by decide +kernel
theorem d_law_905 : decode code 905 = .ok (.iconst 0, 1) := by decide +kernel
theorem d_law_906 : decode code 906 = .ok (.laload, 1) := by decide +kernel
theorem d_law_907 : decode code 907 = .ok (.iload 6, 2) := by decide +kernel
theorem d_law_909 : decode code 909 = .ok (.ifCond .eq 7, 3) := by decide +kernel
theorem d_law_912 : decode code 912 = .ok (.lconst 1, 1) := by decide +kernel
theorem d_law_913 : decode code 913 = .ok (.goto 4, 3) := by decide +kernel
theorem d_law_916 : decode code 916 = .ok (.lconst 0, 1) := by decide +kernel
theorem d_law_917 : decode code 917 = .ok (.lcmp, 1) := by decide +kernel
theorem d_law_918 : decode code 918 = .ok (.ifCond .eq 5, 3) := by decide +kernel
theorem d_law_921 : decode code 921 = .ok (.iconst 0, 1) := by decide +kernel
theorem d_law_922 : decode code 922 = .ok (.ireturn, 1) := by decide +kernel
theorem d_law_923 : decode code 923 = .ok (.goto 91, 3) := by decide +kernel
theorem d_law_926 : decode code 926 = .ok (.aload_n 1, 1) := by decide +kernel
theorem d_law_927 : decode code 927 = .ok (.aload_n 0, 1) := by decide +kernel
theorem d_law_928 : decode code 928 = .ok (.iload 4, 2) := by decide +kernel
theorem d_law_930 : decode code 930 = .ok (.iconst 1, 1) := by decide +kernel
theorem d_law_931 : decode code 931 = .ok (.iadd, 1) := by decide +kernel
theorem d_law_932 : decode code 932 = .ok (.iaload, 1) := by decide +kernel
theorem d_law_933 : decode code 933 = .ok (.aload_n 3, 1) := by decide +kernel
theorem d_law_934 : decode code 934 = .ok (.invokestatic 115, 3) := by decide +kernel
theorem d_law_937 : decode code 937 = .ok (.istore 5, 2) := by decide +kernel
theorem d_law_939 : decode code 939 = .ok (.aload_n 2, 1) := by decide +kernel
theorem d_law_940 : decode code 940 = .ok (.aload_n 0, 1) := by decide +kernel
theorem d_law_941 : decode code 941 = .ok (.iload 4, 2) := by decide +kernel
theorem d_law_943 : decode code 943 = .ok (.iconst 1, 1) := by decide +kernel
theorem d_law_944 : decode code 944 = .ok (.iadd, 1) := by decide +kernel
theorem d_law_945 : decode code 945 = .ok (.iaload, 1) := by decide +kernel
theorem d_law_946 : decode code 946 = .ok (.invokevirtual 118, 3) := by decide +kernel
theorem d_law_949 : decode code 949 = .ok (.istore 6, 2) := by decide +kernel
theorem d_law_951 : decode code 951 = .ok (.aload_n 2, 1) := by decide +kernel
theorem d_law_952 : decode code 952 = .ok (.invokevirtual 64, 3) := by decide +kernel
theorem d_law_955 : decode code 955 = .ok (.iload 5, 2) := by decide +kernel
theorem d_law_957 : decode code 957 = .ok (.if_icmp .eq 5, 3) := by decide +kernel
theorem d_law_960 : decode code 960 = .ok (.iconst 0, 1) := by decide +kernel
theorem d_law_961 : decode code 961 = .ok (.ireturn, 1) := by decide +kernel
theorem d_law_962 : decode code 962 = .ok (.iload 5, 2) := by decide +kernel
theorem d_law_964 : decode code 964 = .ok (.ifCond .ne 22, 3) := by decide +kernel
theorem d_law_967 : decode code 967 = .ok (.aload_n 3, 1) := by decide +kernel
theorem d_law_968 : decode code 968 = .ok (.iconst 0, 1) := by decide +kernel
theorem d_law_969 : decode code 969 = .ok (.laload, 1) := by decide +kernel
theorem d_law_970 : decode code 970 = .ok (.iload 6, 2) := by decide +kernel
theorem d_law_972 : decode code 972 = .ok (.ifCond .eq 7, 3) := by decide +kernel
theorem d_law_975 : decode code 975 = .ok (.lconst 1, 1) := by decide +kernel
theorem d_law_976 : decode code 976 = .ok (.goto 4, 3) := by decide +kernel
theorem d_law_979 : decode code 979 = .ok (.lconst 0, 1) := by decide +kernel
theorem d_law_980 : decode code 980 = .ok (.lcmp, 1) := by decide +kernel
theorem d_law_981 : decode code 981 = .ok (.ifCond .eq 5, 3) := by decide +kernel
theorem d_law_984 : decode code 984 = .ok (.iconst 0, 1) := by decide +kernel
theorem d_law_985 : decode code 985 = .ok (.ireturn, 1) := by decide +kernel
theorem d_law_986 : decode code 986 = .ok (.goto 28, 3) := by decide +kernel
theorem d_law_989 : decode code 989 = .ok (.aload_n 1, 1) := by decide +kernel
theorem d_law_990 : decode code 990 = .ok (.aload_n 0, 1) := by decide +kernel
theorem d_law_991 : decode code 991 = .ok (.iload 4, 2) := by decide +kernel
theorem d_law_993 : decode code 993 = .ok (.iconst 1, 1) := by decide +kernel
theorem d_law_994 : decode code 994 = .ok (.iadd, 1) := by decide +kernel
theorem d_law_995 : decode code 995 = .ok (.iaload, 1) := by decide +kernel
theorem d_law_996 : decode code 996 = .ok (.invokevirtual 119, 3) := by decide +kernel
theorem d_law_999 : decode code 999 = .ok (.aload_n 2, 1) := by decide +kernel
theorem d_law_1000 : decode code 1000 = .ok (.aload_n 0, 1) := by decide +kernel
theorem d_law_1001 : decode code 1001 = .ok (.iload 4, 2) := by decide +kernel
theorem d_law_1003 : decode code 1003 = .ok (.iconst 1, 1) := by decide +kernel
theorem d_law_1004 : decode code 1004 = .ok (.iadd, 1) := by decide +kernel
theorem d_law_1005 : decode code 1005 = .ok (.iaload, 1) := by decide +kernel
theorem d_law_1006 : decode code 1006 = .ok (.invokevirtual 122, 3) := by decide +kernel
theorem d_law_1009 : decode code 1009 = .ok (.if_icmp .eq 5, 3) := by decide +kernel
theorem d_law_1012 : decode code 1012 = .ok (.iconst 0, 1) := by decide +kernel
theorem d_law_1013 : decode code 1013 = .ok (.ireturn, 1) := by decide +kernel
theorem d_law_1014 : decode code 1014 = .ok (.iinc 4 5, 3) := by decide +kernel
theorem d_law_1017 : decode code 1017 = .ok (.goto (-994), 3) := by decide +kernel
theorem d_law_1020 : decode code 1020 = .ok (.iconst 1, 1) := by decide +kernel
theorem d_law_1021 : decode code 1021 = .ok (.ireturn, 1) := by decide +kernel
def R_law : String := "OriginRulesLaw"
def lw_P (b : Addr) (xs : List Int32) (args : Array Value) (s : State) : Prop := args = #[.ref b] ∧ s.IntsAt b xs ∧ xs.length ≤ 2560 ∧ (Jvm.Cond.and given_1 narrow_1).before args s = true
def lw_Q (_ : Array Value) (s : State) (o : Outcome) (t : State) : Prop := o = .returned (some (.int 1)) ∧ Framed s o t [] 1067 10328
def lw_Z (below : List Frame) (a : Array Value) (s : State) : State → Prop := fun t => ∃ o, t.status = .running ∧ Ended t below o ∧ lw_Q a s o t
/-- the law's own end, with 1 on the stack, nothing written that was there before, its room as the claim has it -/
theorem lw_ret {p : Program} {l : Launch} {e : Env} {s : State} {m : MethodId} {below : List Frame} {meth : Method} {c : Code} {b : Nat} (hx : p.tables.exec = Jvm.exec) (hb : c.code = code) (hr : meth.sig.returnType = ret) (hlocks : meth.locks = false) {pc : Nat} {H : Heap} {ls : Array Slot} (hdg : decode code pc = .ok (.ireturn, 1)) : W p l e room_1 s m #[Value.ref b] below meth c H [] 1067 10328 (lw_Z below #[Value.ref b] s) (F0 m pc ls [.int 1]) := by
  intro T hT X
  obtain ⟨fs, hret, hrun, hended, hW, hframe⟩ := X.leave (v := some (.int 1)) (hlocks := hlocks) (fun h => by rw [hr] at h; cases h)
  have hmeth' : T.vm.method? m = some meth := X.method'
  refine ⟨T.setFrames fs, ?_, .returned (some (.int 1)), hrun, hended, rfl, ⟨_, rfl⟩, hW, hframe⟩
  jvm_step X.here [X.here.top, hx, hb, hdg, hmeth', hr, ret, narrow_b1]
  (try refine ⟨rfl, ?_⟩); (try refine ⟨rfl, ?_⟩)
  first | (intro acts; rw [hret _ acts rfl rfl rfl]) | rw [hret _ _ rfl rfl rfl]
  exact Steps.refl _
/-- what holds at the law's entry: the machine, the code, the tables' words (any of lw_tbl by 'hts w (by decide +kernel)'), the script of L ints xs at the cell b, what the Statement gives of the start (any of its parts by flat_of_before) -/
def lw_At (p : Program) (s : State) (m : MethodId) (meth : Method) (c : Code) (b L : Nat) (xs : Nat → Int32) : Prop :=
  p.tables.exec = Jvm.exec ∧ c.code = code ∧ meth.sig.returnType = ret ∧ c.maxLocals = 8 ∧ s.vm.findClass R_law = some m.cls ∧ (∀ w ∈ lw_tbl, w.before #[Value.ref b] s = true) ∧ va_X b L xs s s.heap ∧ b < s.heap.size ∧ meth.locks = false ∧ (Jvm.Cond.and given_1 narrow_1).before #[Value.ref b] s = true
theorem tsw16 {x : Int32} (h0 : ¬ x = 0) (h1 : ¬ x = 1) (h2 : ¬ x = 2) (h3 : ¬ x = 3) (h4 : ¬ x = 4) (h5 : ¬ x = 5) (h6 : ¬ x = 6) (h7 : ¬ x = 7) (h8 : ¬ x = 8) (h9 : ¬ x = 9) (h10 : ¬ x = 10) (h11 : ¬ x = 11) (h12 : ¬ x = 12) (h13 : ¬ x = 13) (h14 : ¬ x = 14) (h15 : ¬ x = 15) : x.toInt < 0 ∨ 15 < x.toInt := by
  have g0 := lv_neT (a := 0) h0 rfl
  have g1 := lv_neT (a := 1) h1 rfl
  have g2 := lv_neT (a := 2) h2 rfl
  have g3 := lv_neT (a := 3) h3 rfl
  have g4 := lv_neT (a := 4) h4 rfl
  have g5 := lv_neT (a := 5) h5 rfl
  have g6 := lv_neT (a := 6) h6 rfl
  have g7 := lv_neT (a := 7) h7 rfl
  have g8 := lv_neT (a := 8) h8 rfl
  have g9 := lv_neT (a := 9) h9 rfl
  have g10 := lv_neT (a := 10) h10 rfl
  have g11 := lv_neT (a := 11) h11 rfl
  have g12 := lv_neT (a := 12) h12 rfl
  have g13 := lv_neT (a := 13) h13 rfl
  have g14 := lv_neT (a := 14) h14 rfl
  have g15 := lv_neT (a := 15) h15 rfl
  omega
def k_law_23 (L : Nat) (xs : Nat → Int32) : Nat → Int32 → Int32 → Int32 → Int32 → Int32 → Int32 → (Nat → Int32) → Int32 → Int32 → (Nat → Int32) → Int32 → Int32 → (Nat → Int32) → Int32 → (Nat → Int32) → (Nat → Int32) → (Nat → Int64) → Int32 → Bool → (Nat → Int32) → Int32 → (Nat → Int32) → (Nat → Int32) → (Nat → Int32) → Int32 → Int32 → Int32 → Int32 → Int32 → Int32 → Int32 → Bool → Int32 → Int32 → Int32 → Int32 → (Nat → Int32) → (Nat → Int32) → (Nat → Int32) → (Nat → Int32) → (Nat → Int32) → (Nat → Int32) → (Nat → Int64) → (Nat → Int32) → (Nat → Int32) → (Nat → Int32) → (Nat → Int32) → (Nat → Int32) → (Nat → Int32) → (Nat → Int32) → (Nat → Int32) → (Nat → Int64) → Option Bool
  | 0, _, _, _, _, _, _, _, _, _, _, _, _, _, _, _, _, _, _, _, _, _, _, _, _, _, _, _, _, _, _, _, _, _, _, _, _, _, _, _, _, _, _, _, _, _, _, _, _, _, _, _, _ => none
  | n + 1, x4, done, brd, tup, tdn, askd, answ, tlen, tpl, tsg, rlen, rsz, rsg, psz, pcd, pld, pct, lpr, lful, ljn, fsz, fkd, ffr, fto, e_thrown, e_signs, e_rows, e_parts, e_done, e_barred, e_pairs, e_full, e_up, e_down, e_proofs, e_asked, e_text, e_read, e_begins, e_tried, e_partCode, e_partLand, e_partCents, e_joined, e_proofKind, e_proofFrom, e_proofTo, e_told, e_live, e_any, e_all, uout =>
    if ((Int32.ofNat L) - 5) < x4 then (
    some true)
    else (
    ixg x4 L (
    if ((xs x4.toNatClampNeg) &&& 15) = 0 then (
    ixg (x4 + 1) L (
    bd3 (m_Or_sign (xs (x4 + 1).toNatClampNeg) tlen tsg) (fun r_123 tlen_123 tsg_123 =>
    ixg (x4 + 1) L (
    bd4 (m_Md_sign (xs (x4 + 1).toNatClampNeg) e_thrown e_signs e_text) (fun r_133 e_thrown_133 e_signs_133 e_text_133 =>
    if (bI r_123) = (bI r_133) then (
    k_law_23 L xs n (x4 + 5) done brd tup tdn askd answ tlen_123 tpl tsg_123 rlen rsz rsg psz pcd pld pct lpr lful ljn fsz fkd ffr fto e_thrown_133 e_signs_133 e_rows e_parts e_done e_barred e_pairs e_full e_up e_down e_proofs e_asked e_text_133 e_read e_begins e_tried e_partCode e_partLand e_partCents e_joined e_proofKind e_proofFrom e_proofTo e_told e_live e_any e_all uout)
    else (
    some false))))))
    else if ((xs x4.toNatClampNeg) &&& 15) = 1 then (
    bd6 (m_Or_read tsg tlen tpl rlen rsz rsg) (fun r_142 tlen_142 tpl_142 rlen_142 rsz_142 rsg_142 =>
    bd7 (m_Md_read e_text e_thrown e_signs e_rows e_read e_begins e_tried) (fun r_146 e_thrown_146 e_signs_146 e_rows_146 e_read_146 e_begins_146 e_tried_146 =>
    if r_142 = r_146 then (
    k_law_23 L xs n (x4 + 5) done brd tup tdn askd answ tlen_142 tpl_142 tsg rlen_142 rsz_142 rsg_142 psz pcd pld pct lpr lful ljn fsz fkd ffr fto e_thrown_146 e_signs_146 e_rows_146 e_parts e_done e_barred e_pairs e_full e_up e_down e_proofs e_asked e_text e_read_146 e_begins_146 e_tried_146 e_partCode e_partLand e_partCents e_joined e_proofKind e_proofFrom e_proofTo e_told e_live e_any e_all uout)
    else (
    some false))))
    else if ((xs x4.toNatClampNeg) &&& 15) = 2 then (
    ixg (x4 + 1) L (
    ixg (x4 + 2) L (
    ixg (x4 + 3) L (
    ixg (x4 + 4) L (
    bd6 (m_Law_part (xs (x4 + 1).toNatClampNeg) (xs (x4 + 2).toNatClampNeg) ((((xs (x4 + 3).toNatClampNeg).toInt64) <<< (((32 : Int32)).toInt64 &&& 63)) ||| (((xs (x4 + 4).toNatClampNeg).toInt64) &&& 4294967295)) psz pcd pld pct uout) (fun r_190 psz_190 pcd_190 pld_190 pct_190 uout_190 =>
    ixg (x4 + 1) L (
    ixg (x4 + 2) L (
    ixg (x4 + 3) L (
    ixg (x4 + 4) L (
    bd6 (m_Md_part (xs (x4 + 1).toNatClampNeg) (xs (x4 + 2).toNatClampNeg) ((((xs (x4 + 3).toNatClampNeg).toInt64) <<< (((32 : Int32)).toInt64 &&& 63)) ||| (((xs (x4 + 4).toNatClampNeg).toInt64) &&& 4294967295)) e_thrown e_parts e_partCode e_partLand e_partCents) (fun r_230 e_thrown_230 e_parts_230 e_partCode_230 e_partLand_230 e_partCents_230 =>
    bd1 (m_Md_thrown e_thrown_230) (fun r_236 =>
    if r_236 = r_190 then (
    if r_190 = 0 then (
    ixg 0 1 (
    if (lg_cmp (uout_190 (0 : Int32).toNatClampNeg) ((r_230).toInt64)) = 0 then (
    k_law_23 L xs n (x4 + 5) done brd tup tdn askd answ tlen tpl tsg rlen rsz rsg psz_190 pcd_190 pld_190 pct_190 lpr lful ljn fsz fkd ffr fto e_thrown_230 e_signs e_rows e_parts_230 e_done e_barred e_pairs e_full e_up e_down e_proofs e_asked e_text e_read e_begins e_tried e_partCode_230 e_partLand_230 e_partCents_230 e_joined e_proofKind e_proofFrom e_proofTo e_told e_live e_any e_all uout_190)
    else (
    some false)))
    else (
    k_law_23 L xs n (x4 + 5) done brd tup tdn askd answ tlen tpl tsg rlen rsz rsg psz_190 pcd_190 pld_190 pct_190 lpr lful ljn fsz fkd ffr fto e_thrown_230 e_signs e_rows e_parts_230 e_done e_barred e_pairs e_full e_up e_down e_proofs e_asked e_text e_read e_begins e_tried e_partCode_230 e_partLand_230 e_partCents_230 e_joined e_proofKind e_proofFrom e_proofTo e_told e_live e_any e_all uout_190))
    else (
    some false)))))))))))))
    else if ((xs x4.toNatClampNeg) &&& 15) = 3 then (
    bd3 (m_Or_clear done psz) (fun r_267 done_267 psz_267 =>
    bd4 (m_Md_clear e_thrown e_parts e_done) (fun r_271 e_thrown_271 e_parts_271 e_done_271 =>
    if r_267 = r_271 then (
    k_law_23 L xs n (x4 + 5) done_267 brd tup tdn askd answ tlen tpl tsg rlen rsz rsg psz_267 pcd pld pct lpr lful ljn fsz fkd ffr fto e_thrown_271 e_signs e_rows e_parts_271 e_done_271 e_barred e_pairs e_full e_up e_down e_proofs e_asked e_text e_read e_begins e_tried e_partCode e_partLand e_partCents e_joined e_proofKind e_proofFrom e_proofTo e_told e_live e_any e_all uout)
    else (
    some false))))
    else if ((xs x4.toNatClampNeg) &&& 15) = 4 then (
    ixg (x4 + 1) L (
    bd2 (m_Or_process (xs (x4 + 1).toNatClampNeg) done) (fun r_286 done_286 =>
    ixg (x4 + 1) L (
    bd3 (m_Md_process (xs (x4 + 1).toNatClampNeg) e_thrown e_done) (fun r_296 e_thrown_296 e_done_296 =>
    if (bI r_286) = (bI r_296) then (
    k_law_23 L xs n (x4 + 5) done_286 brd tup tdn askd answ tlen tpl tsg rlen rsz rsg psz pcd pld pct lpr lful ljn fsz fkd ffr fto e_thrown_296 e_signs e_rows e_parts e_done_296 e_barred e_pairs e_full e_up e_down e_proofs e_asked e_text e_read e_begins e_tried e_partCode e_partLand e_partCents e_joined e_proofKind e_proofFrom e_proofTo e_told e_live e_any e_all uout)
    else (
    some false))))))
    else if ((xs x4.toNatClampNeg) &&& 15) = 5 then (
    ixg (x4 + 1) L (
    ixg (x4 + 2) L (
    if (xs (x4 + 2).toNatClampNeg) = 0 then (
    bd2 (m_Or_bar (xs (x4 + 1).toNatClampNeg) false brd) (fun r_325 brd_325 =>
    ixg (x4 + 1) L (
    ixg (x4 + 2) L (
    if (xs (x4 + 2).toNatClampNeg) = 0 then (
    bd3 (m_Md_bar (xs (x4 + 1).toNatClampNeg) false e_thrown e_barred) (fun r_349 e_thrown_349 e_barred_349 =>
    if (bI r_325) = (bI r_349) then (
    k_law_23 L xs n (x4 + 5) done brd_325 tup tdn askd answ tlen tpl tsg rlen rsz rsg psz pcd pld pct lpr lful ljn fsz fkd ffr fto e_thrown_349 e_signs e_rows e_parts e_done e_barred_349 e_pairs e_full e_up e_down e_proofs e_asked e_text e_read e_begins e_tried e_partCode e_partLand e_partCents e_joined e_proofKind e_proofFrom e_proofTo e_told e_live e_any e_all uout)
    else (
    some false)))
    else (
    bd3 (m_Md_bar (xs (x4 + 1).toNatClampNeg) true e_thrown e_barred) (fun r_349 e_thrown_349 e_barred_349 =>
    if (bI r_325) = (bI r_349) then (
    k_law_23 L xs n (x4 + 5) done brd_325 tup tdn askd answ tlen tpl tsg rlen rsz rsg psz pcd pld pct lpr lful ljn fsz fkd ffr fto e_thrown_349 e_signs e_rows e_parts e_done e_barred_349 e_pairs e_full e_up e_down e_proofs e_asked e_text e_read e_begins e_tried e_partCode e_partLand e_partCents e_joined e_proofKind e_proofFrom e_proofTo e_told e_live e_any e_all uout)
    else (
    some false)))))))
    else (
    bd2 (m_Or_bar (xs (x4 + 1).toNatClampNeg) true brd) (fun r_325 brd_325 =>
    ixg (x4 + 1) L (
    ixg (x4 + 2) L (
    if (xs (x4 + 2).toNatClampNeg) = 0 then (
    bd3 (m_Md_bar (xs (x4 + 1).toNatClampNeg) false e_thrown e_barred) (fun r_349 e_thrown_349 e_barred_349 =>
    if (bI r_325) = (bI r_349) then (
    k_law_23 L xs n (x4 + 5) done brd_325 tup tdn askd answ tlen tpl tsg rlen rsz rsg psz pcd pld pct lpr lful ljn fsz fkd ffr fto e_thrown_349 e_signs e_rows e_parts e_done e_barred_349 e_pairs e_full e_up e_down e_proofs e_asked e_text e_read e_begins e_tried e_partCode e_partLand e_partCents e_joined e_proofKind e_proofFrom e_proofTo e_told e_live e_any e_all uout)
    else (
    some false)))
    else (
    bd3 (m_Md_bar (xs (x4 + 1).toNatClampNeg) true e_thrown e_barred) (fun r_349 e_thrown_349 e_barred_349 =>
    if (bI r_325) = (bI r_349) then (
    k_law_23 L xs n (x4 + 5) done brd_325 tup tdn askd answ tlen tpl tsg rlen rsz rsg psz pcd pld pct lpr lful ljn fsz fkd ffr fto e_thrown_349 e_signs e_rows e_parts e_done e_barred_349 e_pairs e_full e_up e_down e_proofs e_asked e_text e_read e_begins e_tried e_partCode e_partLand e_partCents e_joined e_proofKind e_proofFrom e_proofTo e_told e_live e_any e_all uout)
    else (
    some false))))))))))
    else if ((xs x4.toNatClampNeg) &&& 15) = 6 then (
    ixg (x4 + 1) L (
    ixg (x4 + 2) L (
    bd4 (m_Law_join (xs (x4 + 1).toNatClampNeg) (xs (x4 + 2).toNatClampNeg) lpr ljn uout) (fun r_371 lpr_371 ljn_371 uout_371 =>
    ixg (x4 + 1) L (
    ixg (x4 + 2) L (
    bd4 (m_Md_join (xs (x4 + 1).toNatClampNeg) (xs (x4 + 2).toNatClampNeg) e_thrown e_pairs e_joined) (fun r_389 e_thrown_389 e_pairs_389 e_joined_389 =>
    bd1 (m_Md_thrown e_thrown_389) (fun r_395 =>
    if r_395 = r_371 then (
    if r_371 = 0 then (
    ixg 0 1 (
    if (lg_cmp (uout_371 (0 : Int32).toNatClampNeg) ((r_389).toInt64)) = 0 then (
    k_law_23 L xs n (x4 + 5) done brd tup tdn askd answ tlen tpl tsg rlen rsz rsg psz pcd pld pct lpr_371 lful ljn_371 fsz fkd ffr fto e_thrown_389 e_signs e_rows e_parts e_done e_barred e_pairs_389 e_full e_up e_down e_proofs e_asked e_text e_read e_begins e_tried e_partCode e_partLand e_partCents e_joined_389 e_proofKind e_proofFrom e_proofTo e_told e_live e_any e_all uout_371)
    else (
    some false)))
    else (
    k_law_23 L xs n (x4 + 5) done brd tup tdn askd answ tlen tpl tsg rlen rsz rsg psz pcd pld pct lpr_371 lful ljn_371 fsz fkd ffr fto e_thrown_389 e_signs e_rows e_parts e_done e_barred e_pairs_389 e_full e_up e_down e_proofs e_asked e_text e_read e_begins e_tried e_partCode e_partLand e_partCents e_joined_389 e_proofKind e_proofFrom e_proofTo e_told e_live e_any e_all uout_371))
    else (
    some false)))))))))
    else if ((xs x4.toNatClampNeg) &&& 15) = 7 then (
    ixg (x4 + 1) L (
    if (xs (x4 + 1).toNatClampNeg) = 0 then (
    bd2 (m_Or_full false lful) (fun r_440 lful_440 =>
    ixg (x4 + 1) L (
    if (xs (x4 + 1).toNatClampNeg) = 0 then (
    bd3 (m_Md_full false e_thrown e_full) (fun r_458 e_thrown_458 e_full_458 =>
    if (bI r_440) = (bI r_458) then (
    k_law_23 L xs n (x4 + 5) done brd tup tdn askd answ tlen tpl tsg rlen rsz rsg psz pcd pld pct lpr lful_440 ljn fsz fkd ffr fto e_thrown_458 e_signs e_rows e_parts e_done e_barred e_pairs e_full_458 e_up e_down e_proofs e_asked e_text e_read e_begins e_tried e_partCode e_partLand e_partCents e_joined e_proofKind e_proofFrom e_proofTo e_told e_live e_any e_all uout)
    else (
    some false)))
    else (
    bd3 (m_Md_full true e_thrown e_full) (fun r_458 e_thrown_458 e_full_458 =>
    if (bI r_440) = (bI r_458) then (
    k_law_23 L xs n (x4 + 5) done brd tup tdn askd answ tlen tpl tsg rlen rsz rsg psz pcd pld pct lpr lful_440 ljn fsz fkd ffr fto e_thrown_458 e_signs e_rows e_parts e_done e_barred e_pairs e_full_458 e_up e_down e_proofs e_asked e_text e_read e_begins e_tried e_partCode e_partLand e_partCents e_joined e_proofKind e_proofFrom e_proofTo e_told e_live e_any e_all uout)
    else (
    some false))))))
    else (
    bd2 (m_Or_full true lful) (fun r_440 lful_440 =>
    ixg (x4 + 1) L (
    if (xs (x4 + 1).toNatClampNeg) = 0 then (
    bd3 (m_Md_full false e_thrown e_full) (fun r_458 e_thrown_458 e_full_458 =>
    if (bI r_440) = (bI r_458) then (
    k_law_23 L xs n (x4 + 5) done brd tup tdn askd answ tlen tpl tsg rlen rsz rsg psz pcd pld pct lpr lful_440 ljn fsz fkd ffr fto e_thrown_458 e_signs e_rows e_parts e_done e_barred e_pairs e_full_458 e_up e_down e_proofs e_asked e_text e_read e_begins e_tried e_partCode e_partLand e_partCents e_joined e_proofKind e_proofFrom e_proofTo e_told e_live e_any e_all uout)
    else (
    some false)))
    else (
    bd3 (m_Md_full true e_thrown e_full) (fun r_458 e_thrown_458 e_full_458 =>
    if (bI r_440) = (bI r_458) then (
    k_law_23 L xs n (x4 + 5) done brd tup tdn askd answ tlen tpl tsg rlen rsz rsg psz pcd pld pct lpr lful_440 ljn fsz fkd ffr fto e_thrown_458 e_signs e_rows e_parts e_done e_barred e_pairs e_full_458 e_up e_down e_proofs e_asked e_text e_read e_begins e_tried e_partCode e_partLand e_partCents e_joined e_proofKind e_proofFrom e_proofTo e_told e_live e_any e_all uout)
    else (
    some false))))))))
    else if ((xs x4.toNatClampNeg) &&& 15) = 8 then (
    ixg (x4 + 1) L (
    ixg (x4 + 2) L (
    bd3 (m_Or_tolerance (xs (x4 + 1).toNatClampNeg) (xs (x4 + 2).toNatClampNeg) tup tdn) (fun r_479 tup_479 tdn_479 =>
    ixg (x4 + 1) L (
    ixg (x4 + 2) L (
    bd4 (m_Md_tolerance (xs (x4 + 1).toNatClampNeg) (xs (x4 + 2).toNatClampNeg) e_thrown e_up e_down) (fun r_495 e_thrown_495 e_up_495 e_down_495 =>
    if (bI r_479) = (bI r_495) then (
    k_law_23 L xs n (x4 + 5) done brd tup_479 tdn_479 askd answ tlen tpl tsg rlen rsz rsg psz pcd pld pct lpr lful ljn fsz fkd ffr fto e_thrown_495 e_signs e_rows e_parts e_done e_barred e_pairs e_full e_up_495 e_down_495 e_proofs e_asked e_text e_read e_begins e_tried e_partCode e_partLand e_partCents e_joined e_proofKind e_proofFrom e_proofTo e_told e_live e_any e_all uout)
    else (
    some false))))))))
    else if ((xs x4.toNatClampNeg) &&& 15) = 9 then (
    ixg (x4 + 1) L (
    ixg (x4 + 2) L (
    ixg (x4 + 3) L (
    bd4 (m_Law_verdict (xs (x4 + 1).toNatClampNeg) ((((xs (x4 + 2).toNatClampNeg).toInt64) <<< (((32 : Int32)).toInt64 &&& 63)) ||| (((xs (x4 + 3).toNatClampNeg).toInt64) &&& 4294967295)) done brd tup tdn rlen rsg psz pcd pld pct lful ljn askd answ uout) (fun r_533 askd_533 answ_533 uout_533 =>
    ixg (x4 + 1) L (
    ixg (x4 + 2) L (
    ixg (x4 + 3) L (
    bd7 (m_Md_verdict (xs (x4 + 1).toNatClampNeg) ((((xs (x4 + 2).toNatClampNeg).toInt64) <<< (((32 : Int32)).toInt64 &&& 63)) ||| (((xs (x4 + 3).toNatClampNeg).toInt64) &&& 4294967295)) e_rows e_parts e_done e_barred e_full e_up e_down e_read e_begins e_partCode e_partLand e_partCents e_joined e_thrown e_asked e_told e_live e_any e_all) (fun r_567 e_thrown_567 e_asked_567 e_told_567 e_live_567 e_any_567 e_all_567 =>
    bd1 (m_Md_thrown e_thrown_567) (fun r_573 =>
    if r_573 = r_533 then (
    if r_533 = 0 then (
    ixg 0 1 (
    if (lg_cmp (uout_533 (0 : Int32).toNatClampNeg) ((r_567).toInt64)) = 0 then (
    k_law_23 L xs n (x4 + 5) done brd tup tdn askd_533 answ_533 tlen tpl tsg rlen rsz rsg psz pcd pld pct lpr lful ljn fsz fkd ffr fto e_thrown_567 e_signs e_rows e_parts e_done e_barred e_pairs e_full e_up e_down e_proofs e_asked_567 e_text e_read e_begins e_tried e_partCode e_partLand e_partCents e_joined e_proofKind e_proofFrom e_proofTo e_told_567 e_live_567 e_any_567 e_all_567 uout_533)
    else (
    some false)))
    else (
    k_law_23 L xs n (x4 + 5) done brd tup tdn askd_533 answ_533 tlen tpl tsg rlen rsz rsg psz pcd pld pct lpr lful ljn fsz fkd ffr fto e_thrown_567 e_signs e_rows e_parts e_done e_barred e_pairs e_full e_up e_down e_proofs e_asked_567 e_text e_read e_begins e_tried e_partCode e_partLand e_partCents e_joined e_proofKind e_proofFrom e_proofTo e_told_567 e_live_567 e_any_567 e_all_567 uout_533))
    else (
    some false)))))))))))
    else if ((xs x4.toNatClampNeg) &&& 15) = 10 then (
    ixg (x4 + 1) L (
    bd1 (m_Or_why (xs (x4 + 1).toNatClampNeg) askd answ) (fun r_610 =>
    ixg (x4 + 1) L (
    bd2 (m_Md_why (xs (x4 + 1).toNatClampNeg) e_asked e_told e_thrown) (fun r_620 e_thrown_620 =>
    if r_610 = r_620 then (
    k_law_23 L xs n (x4 + 5) done brd tup tdn askd answ tlen tpl tsg rlen rsz rsg psz pcd pld pct lpr lful ljn fsz fkd ffr fto e_thrown_620 e_signs e_rows e_parts e_done e_barred e_pairs e_full e_up e_down e_proofs e_asked e_text e_read e_begins e_tried e_partCode e_partLand e_partCents e_joined e_proofKind e_proofFrom e_proofTo e_told e_live e_any e_all uout)
    else (
    some false))))))
    else if ((xs x4.toNatClampNeg) &&& 15) = 11 then (
    ixg (x4 + 1) L (
    ixg (x4 + 2) L (
    ixg (x4 + 3) L (
    bd2 (m_Law_share ((((xs (x4 + 1).toNatClampNeg).toInt64) <<< (((32 : Int32)).toInt64 &&& 63)) ||| (((xs (x4 + 2).toNatClampNeg).toInt64) &&& 4294967295)) (xs (x4 + 3).toNatClampNeg) psz pld pct lful ljn uout) (fun r_658 uout_658 =>
    ixg (x4 + 1) L (
    ixg (x4 + 2) L (
    ixg (x4 + 3) L (
    bd2 (m_Md_share ((((xs (x4 + 1).toNatClampNeg).toInt64) <<< (((32 : Int32)).toInt64 &&& 63)) ||| (((xs (x4 + 2).toNatClampNeg).toInt64) &&& 4294967295)) (xs (x4 + 3).toNatClampNeg) e_parts e_full e_partLand e_partCents e_joined e_thrown) (fun r_692 e_thrown_692 =>
    bd1 (m_Md_thrown e_thrown_692) (fun r_698 =>
    if r_698 = r_658 then (
    if r_658 = 0 then (
    ixg 0 1 (
    if (lg_cmp (uout_658 (0 : Int32).toNatClampNeg) r_692) = 0 then (
    k_law_23 L xs n (x4 + 5) done brd tup tdn askd answ tlen tpl tsg rlen rsz rsg psz pcd pld pct lpr lful ljn fsz fkd ffr fto e_thrown_692 e_signs e_rows e_parts e_done e_barred e_pairs e_full e_up e_down e_proofs e_asked e_text e_read e_begins e_tried e_partCode e_partLand e_partCents e_joined e_proofKind e_proofFrom e_proofTo e_told e_live e_any e_all uout_658)
    else (
    some false)))
    else (
    k_law_23 L xs n (x4 + 5) done brd tup tdn askd answ tlen tpl tsg rlen rsz rsg psz pcd pld pct lpr lful ljn fsz fkd ffr fto e_thrown_692 e_signs e_rows e_parts e_done e_barred e_pairs e_full e_up e_down e_proofs e_asked e_text e_read e_begins e_tried e_partCode e_partLand e_partCents e_joined e_proofKind e_proofFrom e_proofTo e_told e_live e_any e_all uout_658))
    else (
    some false)))))))))))
    else if ((xs x4.toNatClampNeg) &&& 15) = 12 then (
    ixg (x4 + 1) L (
    ixg (x4 + 2) L (
    ixg (x4 + 3) L (
    bd6 (m_Law_proof (xs (x4 + 1).toNatClampNeg) (xs (x4 + 2).toNatClampNeg) (xs (x4 + 3).toNatClampNeg) fsz fkd ffr fto uout) (fun r_747 fsz_747 fkd_747 ffr_747 fto_747 uout_747 =>
    ixg (x4 + 1) L (
    ixg (x4 + 2) L (
    ixg (x4 + 3) L (
    bd6 (m_Md_proof (xs (x4 + 1).toNatClampNeg) (xs (x4 + 2).toNatClampNeg) (xs (x4 + 3).toNatClampNeg) e_thrown e_proofs e_proofKind e_proofFrom e_proofTo) (fun r_771 e_thrown_771 e_proofs_771 e_proofKind_771 e_proofFrom_771 e_proofTo_771 =>
    bd1 (m_Md_thrown e_thrown_771) (fun r_777 =>
    if r_777 = r_747 then (
    if r_747 = 0 then (
    ixg 0 1 (
    if (lg_cmp (uout_747 (0 : Int32).toNatClampNeg) ((r_771).toInt64)) = 0 then (
    k_law_23 L xs n (x4 + 5) done brd tup tdn askd answ tlen tpl tsg rlen rsz rsg psz pcd pld pct lpr lful ljn fsz_747 fkd_747 ffr_747 fto_747 e_thrown_771 e_signs e_rows e_parts e_done e_barred e_pairs e_full e_up e_down e_proofs_771 e_asked e_text e_read e_begins e_tried e_partCode e_partLand e_partCents e_joined e_proofKind_771 e_proofFrom_771 e_proofTo_771 e_told e_live e_any e_all uout_747)
    else (
    some false)))
    else (
    k_law_23 L xs n (x4 + 5) done brd tup tdn askd answ tlen tpl tsg rlen rsz rsg psz pcd pld pct lpr lful ljn fsz_747 fkd_747 ffr_747 fto_747 e_thrown_771 e_signs e_rows e_parts e_done e_barred e_pairs e_full e_up e_down e_proofs_771 e_asked e_text e_read e_begins e_tried e_partCode e_partLand e_partCents e_joined e_proofKind_771 e_proofFrom_771 e_proofTo_771 e_told e_live e_any e_all uout_747))
    else (
    some false)))))))))))
    else if ((xs x4.toNatClampNeg) &&& 15) = 13 then (
    ixg (x4 + 1) L (
    ixg (x4 + 2) L (
    ixg (x4 + 3) L (
    ixg (x4 + 4) L (
    bd2 (m_Law_good (xs (x4 + 1).toNatClampNeg) ((((xs (x4 + 2).toNatClampNeg).toInt64) <<< (((32 : Int32)).toInt64 &&& 63)) ||| (((xs (x4 + 3).toNatClampNeg).toInt64) &&& 4294967295)) (xs (x4 + 4).toNatClampNeg) fsz fkd ffr fto uout) (fun r_843 uout_843 =>
    ixg (x4 + 1) L (
    ixg (x4 + 2) L (
    ixg (x4 + 3) L (
    ixg (x4 + 4) L (
    bd2 (m_Md_good (xs (x4 + 1).toNatClampNeg) ((((xs (x4 + 2).toNatClampNeg).toInt64) <<< (((32 : Int32)).toInt64 &&& 63)) ||| (((xs (x4 + 3).toNatClampNeg).toInt64) &&& 4294967295)) (xs (x4 + 4).toNatClampNeg) e_proofs e_proofKind e_proofFrom e_proofTo e_thrown) (fun r_883 e_thrown_883 =>
    bd1 (m_Md_thrown e_thrown_883) (fun r_889 =>
    if r_889 = r_843 then (
    if r_843 = 0 then (
    ixg 0 1 (
    if (bI r_883) = 0 then (
    if (lg_cmp (uout_843 (0 : Int32).toNatClampNeg) 0) = 0 then (
    k_law_23 L xs n (x4 + 5) done brd tup tdn askd answ tlen tpl tsg rlen rsz rsg psz pcd pld pct lpr lful ljn fsz fkd ffr fto e_thrown_883 e_signs e_rows e_parts e_done e_barred e_pairs e_full e_up e_down e_proofs e_asked e_text e_read e_begins e_tried e_partCode e_partLand e_partCents e_joined e_proofKind e_proofFrom e_proofTo e_told e_live e_any e_all uout_843)
    else (
    some false))
    else (
    if (lg_cmp (uout_843 (0 : Int32).toNatClampNeg) 1) = 0 then (
    k_law_23 L xs n (x4 + 5) done brd tup tdn askd answ tlen tpl tsg rlen rsz rsg psz pcd pld pct lpr lful ljn fsz fkd ffr fto e_thrown_883 e_signs e_rows e_parts e_done e_barred e_pairs e_full e_up e_down e_proofs e_asked e_text e_read e_begins e_tried e_partCode e_partLand e_partCents e_joined e_proofKind e_proofFrom e_proofTo e_told e_live e_any e_all uout_843)
    else (
    some false))))
    else (
    k_law_23 L xs n (x4 + 5) done brd tup tdn askd answ tlen tpl tsg rlen rsz rsg psz pcd pld pct lpr lful ljn fsz fkd ffr fto e_thrown_883 e_signs e_rows e_parts e_done e_barred e_pairs e_full e_up e_down e_proofs e_asked e_text e_read e_begins e_tried e_partCode e_partLand e_partCents e_joined e_proofKind e_proofFrom e_proofTo e_told e_live e_any e_all uout_843))
    else (
    some false)))))))))))))
    else if ((xs x4.toNatClampNeg) &&& 15) = 14 then (
    ixg (x4 + 1) L (
    bd2 (m_Law_own (xs (x4 + 1).toNatClampNeg) lful ljn uout) (fun r_934 uout_934 =>
    ixg (x4 + 1) L (
    bd2 (m_Md_own (xs (x4 + 1).toNatClampNeg) e_full e_joined e_thrown) (fun r_946 e_thrown_946 =>
    bd1 (m_Md_thrown e_thrown_946) (fun r_952 =>
    if r_952 = r_934 then (
    if r_934 = 0 then (
    ixg 0 1 (
    if (bI r_946) = 0 then (
    if (lg_cmp (uout_934 (0 : Int32).toNatClampNeg) 0) = 0 then (
    k_law_23 L xs n (x4 + 5) done brd tup tdn askd answ tlen tpl tsg rlen rsz rsg psz pcd pld pct lpr lful ljn fsz fkd ffr fto e_thrown_946 e_signs e_rows e_parts e_done e_barred e_pairs e_full e_up e_down e_proofs e_asked e_text e_read e_begins e_tried e_partCode e_partLand e_partCents e_joined e_proofKind e_proofFrom e_proofTo e_told e_live e_any e_all uout_934)
    else (
    some false))
    else (
    if (lg_cmp (uout_934 (0 : Int32).toNatClampNeg) 1) = 0 then (
    k_law_23 L xs n (x4 + 5) done brd tup tdn askd answ tlen tpl tsg rlen rsz rsg psz pcd pld pct lpr lful ljn fsz fkd ffr fto e_thrown_946 e_signs e_rows e_parts e_done e_barred e_pairs e_full e_up e_down e_proofs e_asked e_text e_read e_begins e_tried e_partCode e_partLand e_partCents e_joined e_proofKind e_proofFrom e_proofTo e_told e_live e_any e_all uout_934)
    else (
    some false))))
    else (
    k_law_23 L xs n (x4 + 5) done brd tup tdn askd answ tlen tpl tsg rlen rsz rsg psz pcd pld pct lpr lful ljn fsz fkd ffr fto e_thrown_946 e_signs e_rows e_parts e_done e_barred e_pairs e_full e_up e_down e_proofs e_asked e_text e_read e_begins e_tried e_partCode e_partLand e_partCents e_joined e_proofKind e_proofFrom e_proofTo e_told e_live e_any e_all uout_934))
    else (
    some false)))))))
    else if ((xs x4.toNatClampNeg) &&& 15) = 15 then (
    ixg (x4 + 1) L (
    bd1 (m_Or_count (xs (x4 + 1).toNatClampNeg) done askd tlen rsz psz pld lpr lful ljn fsz) (fun r_996 =>
    ixg (x4 + 1) L (
    bd2 (m_Md_count (xs (x4 + 1).toNatClampNeg) e_signs e_rows e_parts e_done e_pairs e_full e_proofs e_asked e_partLand e_joined e_thrown) (fun r_1006 e_thrown_1006 =>
    if r_996 = r_1006 then (
    k_law_23 L xs n (x4 + 5) done brd tup tdn askd answ tlen tpl tsg rlen rsz rsg psz pcd pld pct lpr lful ljn fsz fkd ffr fto e_thrown_1006 e_signs e_rows e_parts e_done e_barred e_pairs e_full e_up e_down e_proofs e_asked e_text e_read e_begins e_tried e_partCode e_partLand e_partCents e_joined e_proofKind e_proofFrom e_proofTo e_told e_live e_any e_all uout)
    else (
    some false))))))
    else (
    k_law_23 L xs n (x4 + 5) done brd tup tdn askd answ tlen tpl tsg rlen rsz rsg psz pcd pld pct lpr lful ljn fsz fkd ffr fto e_thrown e_signs e_rows e_parts e_done e_barred e_pairs e_full e_up e_down e_proofs e_asked e_text e_read e_begins e_tried e_partCode e_partLand e_partCents e_joined e_proofKind e_proofFrom e_proofTo e_told e_live e_any e_all uout)))
theorem k_law_23_s (L : Nat) (xs : Nat → Int32) (n : Nat) (x4 : Int32) (done : Int32) (brd : Int32) (tup : Int32) (tdn : Int32) (askd : Int32) (answ : Nat → Int32) (tlen : Int32) (tpl : Int32) (tsg : Nat → Int32) (rlen : Int32) (rsz : Int32) (rsg : Nat → Int32) (psz : Int32) (pcd : Nat → Int32) (pld : Nat → Int32) (pct : Nat → Int64) (lpr : Int32) (lful : Bool) (ljn : Nat → Int32) (fsz : Int32) (fkd : Nat → Int32) (ffr : Nat → Int32) (fto : Nat → Int32) (e_thrown : Int32) (e_signs : Int32) (e_rows : Int32) (e_parts : Int32) (e_done : Int32) (e_barred : Int32) (e_pairs : Int32) (e_full : Bool) (e_up : Int32) (e_down : Int32) (e_proofs : Int32) (e_asked : Int32) (e_text : Nat → Int32) (e_read : Nat → Int32) (e_begins : Nat → Int32) (e_tried : Nat → Int32) (e_partCode : Nat → Int32) (e_partLand : Nat → Int32) (e_partCents : Nat → Int64) (e_joined : Nat → Int32) (e_proofKind : Nat → Int32) (e_proofFrom : Nat → Int32) (e_proofTo : Nat → Int32) (e_told : Nat → Int32) (e_live : Nat → Int32) (e_any : Nat → Int32) (e_all : Nat → Int32) (uout : Nat → Int64) : k_law_23 L xs (n + 1) x4 done brd tup tdn askd answ tlen tpl tsg rlen rsz rsg psz pcd pld pct lpr lful ljn fsz fkd ffr fto e_thrown e_signs e_rows e_parts e_done e_barred e_pairs e_full e_up e_down e_proofs e_asked e_text e_read e_begins e_tried e_partCode e_partLand e_partCents e_joined e_proofKind e_proofFrom e_proofTo e_told e_live e_any e_all uout = (
    if ((Int32.ofNat L) - 5) < x4 then (
    some true)
    else (
    ixg x4 L (
    if ((xs x4.toNatClampNeg) &&& 15) = 0 then (
    ixg (x4 + 1) L (
    bd3 (m_Or_sign (xs (x4 + 1).toNatClampNeg) tlen tsg) (fun r_123 tlen_123 tsg_123 =>
    ixg (x4 + 1) L (
    bd4 (m_Md_sign (xs (x4 + 1).toNatClampNeg) e_thrown e_signs e_text) (fun r_133 e_thrown_133 e_signs_133 e_text_133 =>
    if (bI r_123) = (bI r_133) then (
    k_law_23 L xs n (x4 + 5) done brd tup tdn askd answ tlen_123 tpl tsg_123 rlen rsz rsg psz pcd pld pct lpr lful ljn fsz fkd ffr fto e_thrown_133 e_signs_133 e_rows e_parts e_done e_barred e_pairs e_full e_up e_down e_proofs e_asked e_text_133 e_read e_begins e_tried e_partCode e_partLand e_partCents e_joined e_proofKind e_proofFrom e_proofTo e_told e_live e_any e_all uout)
    else (
    some false))))))
    else if ((xs x4.toNatClampNeg) &&& 15) = 1 then (
    bd6 (m_Or_read tsg tlen tpl rlen rsz rsg) (fun r_142 tlen_142 tpl_142 rlen_142 rsz_142 rsg_142 =>
    bd7 (m_Md_read e_text e_thrown e_signs e_rows e_read e_begins e_tried) (fun r_146 e_thrown_146 e_signs_146 e_rows_146 e_read_146 e_begins_146 e_tried_146 =>
    if r_142 = r_146 then (
    k_law_23 L xs n (x4 + 5) done brd tup tdn askd answ tlen_142 tpl_142 tsg rlen_142 rsz_142 rsg_142 psz pcd pld pct lpr lful ljn fsz fkd ffr fto e_thrown_146 e_signs_146 e_rows_146 e_parts e_done e_barred e_pairs e_full e_up e_down e_proofs e_asked e_text e_read_146 e_begins_146 e_tried_146 e_partCode e_partLand e_partCents e_joined e_proofKind e_proofFrom e_proofTo e_told e_live e_any e_all uout)
    else (
    some false))))
    else if ((xs x4.toNatClampNeg) &&& 15) = 2 then (
    ixg (x4 + 1) L (
    ixg (x4 + 2) L (
    ixg (x4 + 3) L (
    ixg (x4 + 4) L (
    bd6 (m_Law_part (xs (x4 + 1).toNatClampNeg) (xs (x4 + 2).toNatClampNeg) ((((xs (x4 + 3).toNatClampNeg).toInt64) <<< (((32 : Int32)).toInt64 &&& 63)) ||| (((xs (x4 + 4).toNatClampNeg).toInt64) &&& 4294967295)) psz pcd pld pct uout) (fun r_190 psz_190 pcd_190 pld_190 pct_190 uout_190 =>
    ixg (x4 + 1) L (
    ixg (x4 + 2) L (
    ixg (x4 + 3) L (
    ixg (x4 + 4) L (
    bd6 (m_Md_part (xs (x4 + 1).toNatClampNeg) (xs (x4 + 2).toNatClampNeg) ((((xs (x4 + 3).toNatClampNeg).toInt64) <<< (((32 : Int32)).toInt64 &&& 63)) ||| (((xs (x4 + 4).toNatClampNeg).toInt64) &&& 4294967295)) e_thrown e_parts e_partCode e_partLand e_partCents) (fun r_230 e_thrown_230 e_parts_230 e_partCode_230 e_partLand_230 e_partCents_230 =>
    bd1 (m_Md_thrown e_thrown_230) (fun r_236 =>
    if r_236 = r_190 then (
    if r_190 = 0 then (
    ixg 0 1 (
    if (lg_cmp (uout_190 (0 : Int32).toNatClampNeg) ((r_230).toInt64)) = 0 then (
    k_law_23 L xs n (x4 + 5) done brd tup tdn askd answ tlen tpl tsg rlen rsz rsg psz_190 pcd_190 pld_190 pct_190 lpr lful ljn fsz fkd ffr fto e_thrown_230 e_signs e_rows e_parts_230 e_done e_barred e_pairs e_full e_up e_down e_proofs e_asked e_text e_read e_begins e_tried e_partCode_230 e_partLand_230 e_partCents_230 e_joined e_proofKind e_proofFrom e_proofTo e_told e_live e_any e_all uout_190)
    else (
    some false)))
    else (
    k_law_23 L xs n (x4 + 5) done brd tup tdn askd answ tlen tpl tsg rlen rsz rsg psz_190 pcd_190 pld_190 pct_190 lpr lful ljn fsz fkd ffr fto e_thrown_230 e_signs e_rows e_parts_230 e_done e_barred e_pairs e_full e_up e_down e_proofs e_asked e_text e_read e_begins e_tried e_partCode_230 e_partLand_230 e_partCents_230 e_joined e_proofKind e_proofFrom e_proofTo e_told e_live e_any e_all uout_190))
    else (
    some false)))))))))))))
    else if ((xs x4.toNatClampNeg) &&& 15) = 3 then (
    bd3 (m_Or_clear done psz) (fun r_267 done_267 psz_267 =>
    bd4 (m_Md_clear e_thrown e_parts e_done) (fun r_271 e_thrown_271 e_parts_271 e_done_271 =>
    if r_267 = r_271 then (
    k_law_23 L xs n (x4 + 5) done_267 brd tup tdn askd answ tlen tpl tsg rlen rsz rsg psz_267 pcd pld pct lpr lful ljn fsz fkd ffr fto e_thrown_271 e_signs e_rows e_parts_271 e_done_271 e_barred e_pairs e_full e_up e_down e_proofs e_asked e_text e_read e_begins e_tried e_partCode e_partLand e_partCents e_joined e_proofKind e_proofFrom e_proofTo e_told e_live e_any e_all uout)
    else (
    some false))))
    else if ((xs x4.toNatClampNeg) &&& 15) = 4 then (
    ixg (x4 + 1) L (
    bd2 (m_Or_process (xs (x4 + 1).toNatClampNeg) done) (fun r_286 done_286 =>
    ixg (x4 + 1) L (
    bd3 (m_Md_process (xs (x4 + 1).toNatClampNeg) e_thrown e_done) (fun r_296 e_thrown_296 e_done_296 =>
    if (bI r_286) = (bI r_296) then (
    k_law_23 L xs n (x4 + 5) done_286 brd tup tdn askd answ tlen tpl tsg rlen rsz rsg psz pcd pld pct lpr lful ljn fsz fkd ffr fto e_thrown_296 e_signs e_rows e_parts e_done_296 e_barred e_pairs e_full e_up e_down e_proofs e_asked e_text e_read e_begins e_tried e_partCode e_partLand e_partCents e_joined e_proofKind e_proofFrom e_proofTo e_told e_live e_any e_all uout)
    else (
    some false))))))
    else if ((xs x4.toNatClampNeg) &&& 15) = 5 then (
    ixg (x4 + 1) L (
    ixg (x4 + 2) L (
    if (xs (x4 + 2).toNatClampNeg) = 0 then (
    bd2 (m_Or_bar (xs (x4 + 1).toNatClampNeg) false brd) (fun r_325 brd_325 =>
    ixg (x4 + 1) L (
    ixg (x4 + 2) L (
    if (xs (x4 + 2).toNatClampNeg) = 0 then (
    bd3 (m_Md_bar (xs (x4 + 1).toNatClampNeg) false e_thrown e_barred) (fun r_349 e_thrown_349 e_barred_349 =>
    if (bI r_325) = (bI r_349) then (
    k_law_23 L xs n (x4 + 5) done brd_325 tup tdn askd answ tlen tpl tsg rlen rsz rsg psz pcd pld pct lpr lful ljn fsz fkd ffr fto e_thrown_349 e_signs e_rows e_parts e_done e_barred_349 e_pairs e_full e_up e_down e_proofs e_asked e_text e_read e_begins e_tried e_partCode e_partLand e_partCents e_joined e_proofKind e_proofFrom e_proofTo e_told e_live e_any e_all uout)
    else (
    some false)))
    else (
    bd3 (m_Md_bar (xs (x4 + 1).toNatClampNeg) true e_thrown e_barred) (fun r_349 e_thrown_349 e_barred_349 =>
    if (bI r_325) = (bI r_349) then (
    k_law_23 L xs n (x4 + 5) done brd_325 tup tdn askd answ tlen tpl tsg rlen rsz rsg psz pcd pld pct lpr lful ljn fsz fkd ffr fto e_thrown_349 e_signs e_rows e_parts e_done e_barred_349 e_pairs e_full e_up e_down e_proofs e_asked e_text e_read e_begins e_tried e_partCode e_partLand e_partCents e_joined e_proofKind e_proofFrom e_proofTo e_told e_live e_any e_all uout)
    else (
    some false)))))))
    else (
    bd2 (m_Or_bar (xs (x4 + 1).toNatClampNeg) true brd) (fun r_325 brd_325 =>
    ixg (x4 + 1) L (
    ixg (x4 + 2) L (
    if (xs (x4 + 2).toNatClampNeg) = 0 then (
    bd3 (m_Md_bar (xs (x4 + 1).toNatClampNeg) false e_thrown e_barred) (fun r_349 e_thrown_349 e_barred_349 =>
    if (bI r_325) = (bI r_349) then (
    k_law_23 L xs n (x4 + 5) done brd_325 tup tdn askd answ tlen tpl tsg rlen rsz rsg psz pcd pld pct lpr lful ljn fsz fkd ffr fto e_thrown_349 e_signs e_rows e_parts e_done e_barred_349 e_pairs e_full e_up e_down e_proofs e_asked e_text e_read e_begins e_tried e_partCode e_partLand e_partCents e_joined e_proofKind e_proofFrom e_proofTo e_told e_live e_any e_all uout)
    else (
    some false)))
    else (
    bd3 (m_Md_bar (xs (x4 + 1).toNatClampNeg) true e_thrown e_barred) (fun r_349 e_thrown_349 e_barred_349 =>
    if (bI r_325) = (bI r_349) then (
    k_law_23 L xs n (x4 + 5) done brd_325 tup tdn askd answ tlen tpl tsg rlen rsz rsg psz pcd pld pct lpr lful ljn fsz fkd ffr fto e_thrown_349 e_signs e_rows e_parts e_done e_barred_349 e_pairs e_full e_up e_down e_proofs e_asked e_text e_read e_begins e_tried e_partCode e_partLand e_partCents e_joined e_proofKind e_proofFrom e_proofTo e_told e_live e_any e_all uout)
    else (
    some false))))))))))
    else if ((xs x4.toNatClampNeg) &&& 15) = 6 then (
    ixg (x4 + 1) L (
    ixg (x4 + 2) L (
    bd4 (m_Law_join (xs (x4 + 1).toNatClampNeg) (xs (x4 + 2).toNatClampNeg) lpr ljn uout) (fun r_371 lpr_371 ljn_371 uout_371 =>
    ixg (x4 + 1) L (
    ixg (x4 + 2) L (
    bd4 (m_Md_join (xs (x4 + 1).toNatClampNeg) (xs (x4 + 2).toNatClampNeg) e_thrown e_pairs e_joined) (fun r_389 e_thrown_389 e_pairs_389 e_joined_389 =>
    bd1 (m_Md_thrown e_thrown_389) (fun r_395 =>
    if r_395 = r_371 then (
    if r_371 = 0 then (
    ixg 0 1 (
    if (lg_cmp (uout_371 (0 : Int32).toNatClampNeg) ((r_389).toInt64)) = 0 then (
    k_law_23 L xs n (x4 + 5) done brd tup tdn askd answ tlen tpl tsg rlen rsz rsg psz pcd pld pct lpr_371 lful ljn_371 fsz fkd ffr fto e_thrown_389 e_signs e_rows e_parts e_done e_barred e_pairs_389 e_full e_up e_down e_proofs e_asked e_text e_read e_begins e_tried e_partCode e_partLand e_partCents e_joined_389 e_proofKind e_proofFrom e_proofTo e_told e_live e_any e_all uout_371)
    else (
    some false)))
    else (
    k_law_23 L xs n (x4 + 5) done brd tup tdn askd answ tlen tpl tsg rlen rsz rsg psz pcd pld pct lpr_371 lful ljn_371 fsz fkd ffr fto e_thrown_389 e_signs e_rows e_parts e_done e_barred e_pairs_389 e_full e_up e_down e_proofs e_asked e_text e_read e_begins e_tried e_partCode e_partLand e_partCents e_joined_389 e_proofKind e_proofFrom e_proofTo e_told e_live e_any e_all uout_371))
    else (
    some false)))))))))
    else if ((xs x4.toNatClampNeg) &&& 15) = 7 then (
    ixg (x4 + 1) L (
    if (xs (x4 + 1).toNatClampNeg) = 0 then (
    bd2 (m_Or_full false lful) (fun r_440 lful_440 =>
    ixg (x4 + 1) L (
    if (xs (x4 + 1).toNatClampNeg) = 0 then (
    bd3 (m_Md_full false e_thrown e_full) (fun r_458 e_thrown_458 e_full_458 =>
    if (bI r_440) = (bI r_458) then (
    k_law_23 L xs n (x4 + 5) done brd tup tdn askd answ tlen tpl tsg rlen rsz rsg psz pcd pld pct lpr lful_440 ljn fsz fkd ffr fto e_thrown_458 e_signs e_rows e_parts e_done e_barred e_pairs e_full_458 e_up e_down e_proofs e_asked e_text e_read e_begins e_tried e_partCode e_partLand e_partCents e_joined e_proofKind e_proofFrom e_proofTo e_told e_live e_any e_all uout)
    else (
    some false)))
    else (
    bd3 (m_Md_full true e_thrown e_full) (fun r_458 e_thrown_458 e_full_458 =>
    if (bI r_440) = (bI r_458) then (
    k_law_23 L xs n (x4 + 5) done brd tup tdn askd answ tlen tpl tsg rlen rsz rsg psz pcd pld pct lpr lful_440 ljn fsz fkd ffr fto e_thrown_458 e_signs e_rows e_parts e_done e_barred e_pairs e_full_458 e_up e_down e_proofs e_asked e_text e_read e_begins e_tried e_partCode e_partLand e_partCents e_joined e_proofKind e_proofFrom e_proofTo e_told e_live e_any e_all uout)
    else (
    some false))))))
    else (
    bd2 (m_Or_full true lful) (fun r_440 lful_440 =>
    ixg (x4 + 1) L (
    if (xs (x4 + 1).toNatClampNeg) = 0 then (
    bd3 (m_Md_full false e_thrown e_full) (fun r_458 e_thrown_458 e_full_458 =>
    if (bI r_440) = (bI r_458) then (
    k_law_23 L xs n (x4 + 5) done brd tup tdn askd answ tlen tpl tsg rlen rsz rsg psz pcd pld pct lpr lful_440 ljn fsz fkd ffr fto e_thrown_458 e_signs e_rows e_parts e_done e_barred e_pairs e_full_458 e_up e_down e_proofs e_asked e_text e_read e_begins e_tried e_partCode e_partLand e_partCents e_joined e_proofKind e_proofFrom e_proofTo e_told e_live e_any e_all uout)
    else (
    some false)))
    else (
    bd3 (m_Md_full true e_thrown e_full) (fun r_458 e_thrown_458 e_full_458 =>
    if (bI r_440) = (bI r_458) then (
    k_law_23 L xs n (x4 + 5) done brd tup tdn askd answ tlen tpl tsg rlen rsz rsg psz pcd pld pct lpr lful_440 ljn fsz fkd ffr fto e_thrown_458 e_signs e_rows e_parts e_done e_barred e_pairs e_full_458 e_up e_down e_proofs e_asked e_text e_read e_begins e_tried e_partCode e_partLand e_partCents e_joined e_proofKind e_proofFrom e_proofTo e_told e_live e_any e_all uout)
    else (
    some false))))))))
    else if ((xs x4.toNatClampNeg) &&& 15) = 8 then (
    ixg (x4 + 1) L (
    ixg (x4 + 2) L (
    bd3 (m_Or_tolerance (xs (x4 + 1).toNatClampNeg) (xs (x4 + 2).toNatClampNeg) tup tdn) (fun r_479 tup_479 tdn_479 =>
    ixg (x4 + 1) L (
    ixg (x4 + 2) L (
    bd4 (m_Md_tolerance (xs (x4 + 1).toNatClampNeg) (xs (x4 + 2).toNatClampNeg) e_thrown e_up e_down) (fun r_495 e_thrown_495 e_up_495 e_down_495 =>
    if (bI r_479) = (bI r_495) then (
    k_law_23 L xs n (x4 + 5) done brd tup_479 tdn_479 askd answ tlen tpl tsg rlen rsz rsg psz pcd pld pct lpr lful ljn fsz fkd ffr fto e_thrown_495 e_signs e_rows e_parts e_done e_barred e_pairs e_full e_up_495 e_down_495 e_proofs e_asked e_text e_read e_begins e_tried e_partCode e_partLand e_partCents e_joined e_proofKind e_proofFrom e_proofTo e_told e_live e_any e_all uout)
    else (
    some false))))))))
    else if ((xs x4.toNatClampNeg) &&& 15) = 9 then (
    ixg (x4 + 1) L (
    ixg (x4 + 2) L (
    ixg (x4 + 3) L (
    bd4 (m_Law_verdict (xs (x4 + 1).toNatClampNeg) ((((xs (x4 + 2).toNatClampNeg).toInt64) <<< (((32 : Int32)).toInt64 &&& 63)) ||| (((xs (x4 + 3).toNatClampNeg).toInt64) &&& 4294967295)) done brd tup tdn rlen rsg psz pcd pld pct lful ljn askd answ uout) (fun r_533 askd_533 answ_533 uout_533 =>
    ixg (x4 + 1) L (
    ixg (x4 + 2) L (
    ixg (x4 + 3) L (
    bd7 (m_Md_verdict (xs (x4 + 1).toNatClampNeg) ((((xs (x4 + 2).toNatClampNeg).toInt64) <<< (((32 : Int32)).toInt64 &&& 63)) ||| (((xs (x4 + 3).toNatClampNeg).toInt64) &&& 4294967295)) e_rows e_parts e_done e_barred e_full e_up e_down e_read e_begins e_partCode e_partLand e_partCents e_joined e_thrown e_asked e_told e_live e_any e_all) (fun r_567 e_thrown_567 e_asked_567 e_told_567 e_live_567 e_any_567 e_all_567 =>
    bd1 (m_Md_thrown e_thrown_567) (fun r_573 =>
    if r_573 = r_533 then (
    if r_533 = 0 then (
    ixg 0 1 (
    if (lg_cmp (uout_533 (0 : Int32).toNatClampNeg) ((r_567).toInt64)) = 0 then (
    k_law_23 L xs n (x4 + 5) done brd tup tdn askd_533 answ_533 tlen tpl tsg rlen rsz rsg psz pcd pld pct lpr lful ljn fsz fkd ffr fto e_thrown_567 e_signs e_rows e_parts e_done e_barred e_pairs e_full e_up e_down e_proofs e_asked_567 e_text e_read e_begins e_tried e_partCode e_partLand e_partCents e_joined e_proofKind e_proofFrom e_proofTo e_told_567 e_live_567 e_any_567 e_all_567 uout_533)
    else (
    some false)))
    else (
    k_law_23 L xs n (x4 + 5) done brd tup tdn askd_533 answ_533 tlen tpl tsg rlen rsz rsg psz pcd pld pct lpr lful ljn fsz fkd ffr fto e_thrown_567 e_signs e_rows e_parts e_done e_barred e_pairs e_full e_up e_down e_proofs e_asked_567 e_text e_read e_begins e_tried e_partCode e_partLand e_partCents e_joined e_proofKind e_proofFrom e_proofTo e_told_567 e_live_567 e_any_567 e_all_567 uout_533))
    else (
    some false)))))))))))
    else if ((xs x4.toNatClampNeg) &&& 15) = 10 then (
    ixg (x4 + 1) L (
    bd1 (m_Or_why (xs (x4 + 1).toNatClampNeg) askd answ) (fun r_610 =>
    ixg (x4 + 1) L (
    bd2 (m_Md_why (xs (x4 + 1).toNatClampNeg) e_asked e_told e_thrown) (fun r_620 e_thrown_620 =>
    if r_610 = r_620 then (
    k_law_23 L xs n (x4 + 5) done brd tup tdn askd answ tlen tpl tsg rlen rsz rsg psz pcd pld pct lpr lful ljn fsz fkd ffr fto e_thrown_620 e_signs e_rows e_parts e_done e_barred e_pairs e_full e_up e_down e_proofs e_asked e_text e_read e_begins e_tried e_partCode e_partLand e_partCents e_joined e_proofKind e_proofFrom e_proofTo e_told e_live e_any e_all uout)
    else (
    some false))))))
    else if ((xs x4.toNatClampNeg) &&& 15) = 11 then (
    ixg (x4 + 1) L (
    ixg (x4 + 2) L (
    ixg (x4 + 3) L (
    bd2 (m_Law_share ((((xs (x4 + 1).toNatClampNeg).toInt64) <<< (((32 : Int32)).toInt64 &&& 63)) ||| (((xs (x4 + 2).toNatClampNeg).toInt64) &&& 4294967295)) (xs (x4 + 3).toNatClampNeg) psz pld pct lful ljn uout) (fun r_658 uout_658 =>
    ixg (x4 + 1) L (
    ixg (x4 + 2) L (
    ixg (x4 + 3) L (
    bd2 (m_Md_share ((((xs (x4 + 1).toNatClampNeg).toInt64) <<< (((32 : Int32)).toInt64 &&& 63)) ||| (((xs (x4 + 2).toNatClampNeg).toInt64) &&& 4294967295)) (xs (x4 + 3).toNatClampNeg) e_parts e_full e_partLand e_partCents e_joined e_thrown) (fun r_692 e_thrown_692 =>
    bd1 (m_Md_thrown e_thrown_692) (fun r_698 =>
    if r_698 = r_658 then (
    if r_658 = 0 then (
    ixg 0 1 (
    if (lg_cmp (uout_658 (0 : Int32).toNatClampNeg) r_692) = 0 then (
    k_law_23 L xs n (x4 + 5) done brd tup tdn askd answ tlen tpl tsg rlen rsz rsg psz pcd pld pct lpr lful ljn fsz fkd ffr fto e_thrown_692 e_signs e_rows e_parts e_done e_barred e_pairs e_full e_up e_down e_proofs e_asked e_text e_read e_begins e_tried e_partCode e_partLand e_partCents e_joined e_proofKind e_proofFrom e_proofTo e_told e_live e_any e_all uout_658)
    else (
    some false)))
    else (
    k_law_23 L xs n (x4 + 5) done brd tup tdn askd answ tlen tpl tsg rlen rsz rsg psz pcd pld pct lpr lful ljn fsz fkd ffr fto e_thrown_692 e_signs e_rows e_parts e_done e_barred e_pairs e_full e_up e_down e_proofs e_asked e_text e_read e_begins e_tried e_partCode e_partLand e_partCents e_joined e_proofKind e_proofFrom e_proofTo e_told e_live e_any e_all uout_658))
    else (
    some false)))))))))))
    else if ((xs x4.toNatClampNeg) &&& 15) = 12 then (
    ixg (x4 + 1) L (
    ixg (x4 + 2) L (
    ixg (x4 + 3) L (
    bd6 (m_Law_proof (xs (x4 + 1).toNatClampNeg) (xs (x4 + 2).toNatClampNeg) (xs (x4 + 3).toNatClampNeg) fsz fkd ffr fto uout) (fun r_747 fsz_747 fkd_747 ffr_747 fto_747 uout_747 =>
    ixg (x4 + 1) L (
    ixg (x4 + 2) L (
    ixg (x4 + 3) L (
    bd6 (m_Md_proof (xs (x4 + 1).toNatClampNeg) (xs (x4 + 2).toNatClampNeg) (xs (x4 + 3).toNatClampNeg) e_thrown e_proofs e_proofKind e_proofFrom e_proofTo) (fun r_771 e_thrown_771 e_proofs_771 e_proofKind_771 e_proofFrom_771 e_proofTo_771 =>
    bd1 (m_Md_thrown e_thrown_771) (fun r_777 =>
    if r_777 = r_747 then (
    if r_747 = 0 then (
    ixg 0 1 (
    if (lg_cmp (uout_747 (0 : Int32).toNatClampNeg) ((r_771).toInt64)) = 0 then (
    k_law_23 L xs n (x4 + 5) done brd tup tdn askd answ tlen tpl tsg rlen rsz rsg psz pcd pld pct lpr lful ljn fsz_747 fkd_747 ffr_747 fto_747 e_thrown_771 e_signs e_rows e_parts e_done e_barred e_pairs e_full e_up e_down e_proofs_771 e_asked e_text e_read e_begins e_tried e_partCode e_partLand e_partCents e_joined e_proofKind_771 e_proofFrom_771 e_proofTo_771 e_told e_live e_any e_all uout_747)
    else (
    some false)))
    else (
    k_law_23 L xs n (x4 + 5) done brd tup tdn askd answ tlen tpl tsg rlen rsz rsg psz pcd pld pct lpr lful ljn fsz_747 fkd_747 ffr_747 fto_747 e_thrown_771 e_signs e_rows e_parts e_done e_barred e_pairs e_full e_up e_down e_proofs_771 e_asked e_text e_read e_begins e_tried e_partCode e_partLand e_partCents e_joined e_proofKind_771 e_proofFrom_771 e_proofTo_771 e_told e_live e_any e_all uout_747))
    else (
    some false)))))))))))
    else if ((xs x4.toNatClampNeg) &&& 15) = 13 then (
    ixg (x4 + 1) L (
    ixg (x4 + 2) L (
    ixg (x4 + 3) L (
    ixg (x4 + 4) L (
    bd2 (m_Law_good (xs (x4 + 1).toNatClampNeg) ((((xs (x4 + 2).toNatClampNeg).toInt64) <<< (((32 : Int32)).toInt64 &&& 63)) ||| (((xs (x4 + 3).toNatClampNeg).toInt64) &&& 4294967295)) (xs (x4 + 4).toNatClampNeg) fsz fkd ffr fto uout) (fun r_843 uout_843 =>
    ixg (x4 + 1) L (
    ixg (x4 + 2) L (
    ixg (x4 + 3) L (
    ixg (x4 + 4) L (
    bd2 (m_Md_good (xs (x4 + 1).toNatClampNeg) ((((xs (x4 + 2).toNatClampNeg).toInt64) <<< (((32 : Int32)).toInt64 &&& 63)) ||| (((xs (x4 + 3).toNatClampNeg).toInt64) &&& 4294967295)) (xs (x4 + 4).toNatClampNeg) e_proofs e_proofKind e_proofFrom e_proofTo e_thrown) (fun r_883 e_thrown_883 =>
    bd1 (m_Md_thrown e_thrown_883) (fun r_889 =>
    if r_889 = r_843 then (
    if r_843 = 0 then (
    ixg 0 1 (
    if (bI r_883) = 0 then (
    if (lg_cmp (uout_843 (0 : Int32).toNatClampNeg) 0) = 0 then (
    k_law_23 L xs n (x4 + 5) done brd tup tdn askd answ tlen tpl tsg rlen rsz rsg psz pcd pld pct lpr lful ljn fsz fkd ffr fto e_thrown_883 e_signs e_rows e_parts e_done e_barred e_pairs e_full e_up e_down e_proofs e_asked e_text e_read e_begins e_tried e_partCode e_partLand e_partCents e_joined e_proofKind e_proofFrom e_proofTo e_told e_live e_any e_all uout_843)
    else (
    some false))
    else (
    if (lg_cmp (uout_843 (0 : Int32).toNatClampNeg) 1) = 0 then (
    k_law_23 L xs n (x4 + 5) done brd tup tdn askd answ tlen tpl tsg rlen rsz rsg psz pcd pld pct lpr lful ljn fsz fkd ffr fto e_thrown_883 e_signs e_rows e_parts e_done e_barred e_pairs e_full e_up e_down e_proofs e_asked e_text e_read e_begins e_tried e_partCode e_partLand e_partCents e_joined e_proofKind e_proofFrom e_proofTo e_told e_live e_any e_all uout_843)
    else (
    some false))))
    else (
    k_law_23 L xs n (x4 + 5) done brd tup tdn askd answ tlen tpl tsg rlen rsz rsg psz pcd pld pct lpr lful ljn fsz fkd ffr fto e_thrown_883 e_signs e_rows e_parts e_done e_barred e_pairs e_full e_up e_down e_proofs e_asked e_text e_read e_begins e_tried e_partCode e_partLand e_partCents e_joined e_proofKind e_proofFrom e_proofTo e_told e_live e_any e_all uout_843))
    else (
    some false)))))))))))))
    else if ((xs x4.toNatClampNeg) &&& 15) = 14 then (
    ixg (x4 + 1) L (
    bd2 (m_Law_own (xs (x4 + 1).toNatClampNeg) lful ljn uout) (fun r_934 uout_934 =>
    ixg (x4 + 1) L (
    bd2 (m_Md_own (xs (x4 + 1).toNatClampNeg) e_full e_joined e_thrown) (fun r_946 e_thrown_946 =>
    bd1 (m_Md_thrown e_thrown_946) (fun r_952 =>
    if r_952 = r_934 then (
    if r_934 = 0 then (
    ixg 0 1 (
    if (bI r_946) = 0 then (
    if (lg_cmp (uout_934 (0 : Int32).toNatClampNeg) 0) = 0 then (
    k_law_23 L xs n (x4 + 5) done brd tup tdn askd answ tlen tpl tsg rlen rsz rsg psz pcd pld pct lpr lful ljn fsz fkd ffr fto e_thrown_946 e_signs e_rows e_parts e_done e_barred e_pairs e_full e_up e_down e_proofs e_asked e_text e_read e_begins e_tried e_partCode e_partLand e_partCents e_joined e_proofKind e_proofFrom e_proofTo e_told e_live e_any e_all uout_934)
    else (
    some false))
    else (
    if (lg_cmp (uout_934 (0 : Int32).toNatClampNeg) 1) = 0 then (
    k_law_23 L xs n (x4 + 5) done brd tup tdn askd answ tlen tpl tsg rlen rsz rsg psz pcd pld pct lpr lful ljn fsz fkd ffr fto e_thrown_946 e_signs e_rows e_parts e_done e_barred e_pairs e_full e_up e_down e_proofs e_asked e_text e_read e_begins e_tried e_partCode e_partLand e_partCents e_joined e_proofKind e_proofFrom e_proofTo e_told e_live e_any e_all uout_934)
    else (
    some false))))
    else (
    k_law_23 L xs n (x4 + 5) done brd tup tdn askd answ tlen tpl tsg rlen rsz rsg psz pcd pld pct lpr lful ljn fsz fkd ffr fto e_thrown_946 e_signs e_rows e_parts e_done e_barred e_pairs e_full e_up e_down e_proofs e_asked e_text e_read e_begins e_tried e_partCode e_partLand e_partCents e_joined e_proofKind e_proofFrom e_proofTo e_told e_live e_any e_all uout_934))
    else (
    some false)))))))
    else if ((xs x4.toNatClampNeg) &&& 15) = 15 then (
    ixg (x4 + 1) L (
    bd1 (m_Or_count (xs (x4 + 1).toNatClampNeg) done askd tlen rsz psz pld lpr lful ljn fsz) (fun r_996 =>
    ixg (x4 + 1) L (
    bd2 (m_Md_count (xs (x4 + 1).toNatClampNeg) e_signs e_rows e_parts e_done e_pairs e_full e_proofs e_asked e_partLand e_joined e_thrown) (fun r_1006 e_thrown_1006 =>
    if r_996 = r_1006 then (
    k_law_23 L xs n (x4 + 5) done brd tup tdn askd answ tlen tpl tsg rlen rsz rsg psz pcd pld pct lpr lful ljn fsz fkd ffr fto e_thrown_1006 e_signs e_rows e_parts e_done e_barred e_pairs e_full e_up e_down e_proofs e_asked e_text e_read e_begins e_tried e_partCode e_partLand e_partCents e_joined e_proofKind e_proofFrom e_proofTo e_told e_live e_any e_all uout)
    else (
    some false))))))
    else (
    k_law_23 L xs n (x4 + 5) done brd tup tdn askd answ tlen tpl tsg rlen rsz rsg psz pcd pld pct lpr lful ljn fsz fkd ffr fto e_thrown e_signs e_rows e_parts e_done e_barred e_pairs e_full e_up e_down e_proofs e_asked e_text e_read e_begins e_tried e_partCode e_partLand e_partCents e_joined e_proofKind e_proofFrom e_proofTo e_told e_live e_any e_all uout)))) := rfl
theorem k_law_23_z (L : Nat) (xs : Nat → Int32) (x4 : Int32) (done : Int32) (brd : Int32) (tup : Int32) (tdn : Int32) (askd : Int32) (answ : Nat → Int32) (tlen : Int32) (tpl : Int32) (tsg : Nat → Int32) (rlen : Int32) (rsz : Int32) (rsg : Nat → Int32) (psz : Int32) (pcd : Nat → Int32) (pld : Nat → Int32) (pct : Nat → Int64) (lpr : Int32) (lful : Bool) (ljn : Nat → Int32) (fsz : Int32) (fkd : Nat → Int32) (ffr : Nat → Int32) (fto : Nat → Int32) (e_thrown : Int32) (e_signs : Int32) (e_rows : Int32) (e_parts : Int32) (e_done : Int32) (e_barred : Int32) (e_pairs : Int32) (e_full : Bool) (e_up : Int32) (e_down : Int32) (e_proofs : Int32) (e_asked : Int32) (e_text : Nat → Int32) (e_read : Nat → Int32) (e_begins : Nat → Int32) (e_tried : Nat → Int32) (e_partCode : Nat → Int32) (e_partLand : Nat → Int32) (e_partCents : Nat → Int64) (e_joined : Nat → Int32) (e_proofKind : Nat → Int32) (e_proofFrom : Nat → Int32) (e_proofTo : Nat → Int32) (e_told : Nat → Int32) (e_live : Nat → Int32) (e_any : Nat → Int32) (e_all : Nat → Int32) (uout : Nat → Int64) : k_law_23 L xs 0 x4 done brd tup tdn askd answ tlen tpl tsg rlen rsz rsg psz pcd pld pct lpr lful ljn fsz fkd ffr fto e_thrown e_signs e_rows e_parts e_done e_barred e_pairs e_full e_up e_down e_proofs e_asked e_text e_read e_begins e_tried e_partCode e_partLand e_partCents e_joined e_proofKind e_proofFrom e_proofTo e_told e_live e_any e_all uout = none := rfl
set_option maxHeartbeats 16000000 in
set_option maxRecDepth 100000 in
theorem law_loop {p : Program} {l : Launch} {e : Env} {s : State} {m : MethodId} {below : List Frame} {meth : Method} {c : Code} {D : va_G} {cT : Nat → ClassId} {b L : Nat} {xs : Nat → Int32} (hl0 : l.stackTraces = false) (C0 : lw_At p s m meth c b L xs) (hE : EN D cT s) (hTE : TE (fun q : Nat => s.heap.size ≤ q) s) (hNc : NC s) {qO : Nat} {qOa : Nat} {qT : Nat} {qTs : Nat} {qR : Nat} {qRs : Nat} {qP : Nat} {qPc : Nat} {qPl : Nat} {qPv : Nat} {qL : Nat} {qLj : Nat} {qF : Nat} {qFk : Nat} {qFf : Nat} {qFl : Nat} {qM : Nat} {qMtext : Nat} {qMread : Nat} {qMbegins : Nat} {qMtried : Nat} {qMpartCode : Nat} {qMpartLand : Nat} {qMpartCents : Nat} {qMjoined : Nat} {qMproofKind : Nat} {qMproofFrom : Nat} {qMproofTo : Nat} {qMtold : Nat} {qMlive : Nat} {qMany : Nat} {qMall : Nat} {qU : Nat} :
    ∀ (n : Nat), n ≤ 1000 → ∀ (x4 : Int32) (done : Int32) (brd : Int32) (tup : Int32) (tdn : Int32) (askd : Int32) (answ : Nat → Int32) (tlen : Int32) (tpl : Int32) (tsg : Nat → Int32) (rlen : Int32) (rsz : Int32) (rsg : Nat → Int32) (psz : Int32) (pcd : Nat → Int32) (pld : Nat → Int32) (pct : Nat → Int64) (lpr : Int32) (lful : Bool) (ljn : Nat → Int32) (fsz : Int32) (fkd : Nat → Int32) (ffr : Nat → Int32) (fto : Nat → Int32) (e_thrown : Int32) (e_signs : Int32) (e_rows : Int32) (e_parts : Int32) (e_done : Int32) (e_barred : Int32) (e_pairs : Int32) (e_full : Bool) (e_up : Int32) (e_down : Int32) (e_proofs : Int32) (e_asked : Int32) (e_text : Nat → Int32) (e_read : Nat → Int32) (e_begins : Nat → Int32) (e_tried : Nat → Int32) (e_partCode : Nat → Int32) (e_partLand : Nat → Int32) (e_partCents : Nat → Int64) (e_joined : Nat → Int32) (e_proofKind : Nat → Int32) (e_proofFrom : Nat → Int32) (e_proofTo : Nat → Int32) (e_told : Nat → Int32) (e_live : Nat → Int32) (e_any : Nat → Int32) (e_all : Nat → Int32) (uout : Nat → Int64), k_law_23 L xs n x4 done brd tup tdn askd answ tlen tpl tsg rlen rsz rsg psz pcd pld pct lpr lful ljn fsz fkd ffr fto e_thrown e_signs e_rows e_parts e_done e_barred e_pairs e_full e_up e_down e_proofs e_asked e_text e_read e_begins e_tried e_partCode e_partLand e_partCents e_joined e_proofKind e_proofFrom e_proofTo e_told e_live e_any e_all uout = some true → ∀ (H : Heap) (locs : List Loc) (ls : Array Slot), va_P D classes [(qO, .inr (0, [.ref qT, .ref qR, .ref qP, .ref qL, .ref qF, .int done, .int brd, .int tup, .int tdn, .ref qOa, .int askd])), (qOa, .inl (cT 0, 149, .inl answ)), (qT, .inr (1, [.ref qTs, .int tlen, .int tpl])), (qTs, .inl (cT 2, 300, .inl tsg)), (qR, .inr (2, [.ref qRs, .int rlen, .int rsz])), (qRs, .inl (cT 2, 300, .inl rsg)), (qP, .inr (3, [.ref qPc, .ref qPl, .ref qPv, .int psz])), (qPc, .inl (cT 0, 12, .inl pcd)), (qPl, .inl (cT 0, 12, .inl pld)), (qPv, .inl (cT 1, 12, .inr (.inl pct))), (qL, .inr (4, [.ref qLj, .int lpr, .int (bI lful)])), (qLj, .inl (cT 0, 10, .inl ljn)), (qF, .inr (5, [.ref qFk, .ref qFf, .ref qFl, .int fsz])), (qFk, .inl (cT 0, 20, .inl fkd)), (qFf, .inl (cT 0, 20, .inl ffr)), (qFl, .inl (cT 0, 20, .inl fto)), (qM, .inr (6, [.int e_thrown, .ref qMtext, .int e_signs, .ref qMread, .ref qMbegins, .int e_rows, .ref qMtried, .int e_parts, .ref qMpartCode, .ref qMpartLand, .ref qMpartCents, .int e_done, .int e_barred, .ref qMjoined, .int e_pairs, .int (bI e_full), .int e_up, .int e_down, .int e_proofs, .ref qMproofKind, .ref qMproofFrom, .ref qMproofTo, .int e_asked, .ref qMtold, .ref qMlive, .ref qMany, .ref qMall])), (qMtext, .inl (cT 0, 300, .inl e_text)), (qMread, .inl (cT 0, 300, .inl e_read)), (qMbegins, .inl (cT 0, 21, .inl e_begins)), (qMtried, .inl (cT 0, 21, .inl e_tried)), (qMpartCode, .inl (cT 0, 12, .inl e_partCode)), (qMpartLand, .inl (cT 0, 12, .inl e_partLand)), (qMpartCents, .inl (cT 1, 12, .inr (.inl e_partCents))), (qMjoined, .inl (cT 3, 100, .inl e_joined)), (qMproofKind, .inl (cT 0, 20, .inl e_proofKind)), (qMproofFrom, .inl (cT 0, 20, .inl e_proofFrom)), (qMproofTo, .inl (cT 0, 20, .inl e_proofTo)), (qMtold, .inl (cT 0, 300, .inl e_told)), (qMlive, .inl (cT 3, 9, .inl e_live)), (qMany, .inl (cT 3, 9, .inl e_any)), (qMall, .inl (cT 3, 9, .inl e_all)), (qU, .inl (cT 1, 1, .inr (.inl uout)))] H → va_D (fun q : Nat => s.heap.size ≤ q) [(qO, .inr (0, [.ref qT, .ref qR, .ref qP, .ref qL, .ref qF, .int done, .int brd, .int tup, .int tdn, .ref qOa, .int askd])), (qOa, .inl (cT 0, 149, .inl answ)), (qT, .inr (1, [.ref qTs, .int tlen, .int tpl])), (qTs, .inl (cT 2, 300, .inl tsg)), (qR, .inr (2, [.ref qRs, .int rlen, .int rsz])), (qRs, .inl (cT 2, 300, .inl rsg)), (qP, .inr (3, [.ref qPc, .ref qPl, .ref qPv, .int psz])), (qPc, .inl (cT 0, 12, .inl pcd)), (qPl, .inl (cT 0, 12, .inl pld)), (qPv, .inl (cT 1, 12, .inr (.inl pct))), (qL, .inr (4, [.ref qLj, .int lpr, .int (bI lful)])), (qLj, .inl (cT 0, 10, .inl ljn)), (qF, .inr (5, [.ref qFk, .ref qFf, .ref qFl, .int fsz])), (qFk, .inl (cT 0, 20, .inl fkd)), (qFf, .inl (cT 0, 20, .inl ffr)), (qFl, .inl (cT 0, 20, .inl fto)), (qM, .inr (6, [.int e_thrown, .ref qMtext, .int e_signs, .ref qMread, .ref qMbegins, .int e_rows, .ref qMtried, .int e_parts, .ref qMpartCode, .ref qMpartLand, .ref qMpartCents, .int e_done, .int e_barred, .ref qMjoined, .int e_pairs, .int (bI e_full), .int e_up, .int e_down, .int e_proofs, .ref qMproofKind, .ref qMproofFrom, .ref qMproofTo, .int e_asked, .ref qMtold, .ref qMlive, .ref qMany, .ref qMall])), (qMtext, .inl (cT 0, 300, .inl e_text)), (qMread, .inl (cT 0, 300, .inl e_read)), (qMbegins, .inl (cT 0, 21, .inl e_begins)), (qMtried, .inl (cT 0, 21, .inl e_tried)), (qMpartCode, .inl (cT 0, 12, .inl e_partCode)), (qMpartLand, .inl (cT 0, 12, .inl e_partLand)), (qMpartCents, .inl (cT 1, 12, .inr (.inl e_partCents))), (qMjoined, .inl (cT 3, 100, .inl e_joined)), (qMproofKind, .inl (cT 0, 20, .inl e_proofKind)), (qMproofFrom, .inl (cT 0, 20, .inl e_proofFrom)), (qMproofTo, .inl (cT 0, 20, .inl e_proofTo)), (qMtold, .inl (cT 0, 300, .inl e_told)), (qMlive, .inl (cT 3, 9, .inl e_live)), (qMany, .inl (cT 3, 9, .inl e_any)), (qMall, .inl (cT 3, 9, .inl e_all)), (qU, .inl (cT 1, 1, .inr (.inl uout)))] → va_S (fun q : Nat => s.heap.size ≤ q) s.heap H locs → lv_has ls 8 [(0, .ref b), (1, .ref qO), (2, .ref qM), (3, .ref qU), (4, .int x4)] → W p l e room_1 s m #[Value.ref b] below meth c H locs (1067 - n) (10328 - 6 * n) (lw_Z below #[Value.ref b] s) (F0 m 23 ls []) := by
  obtain ⟨hx, hb, hr, hml, hown0, hts0, hX, hbl, hlocks, hgv⟩ := C0
  have hown : s.vm.findClass R_Law = some m.cls := hown0
  have hts : ∀ w ∈ TB, w.before #[Value.ref b] s = true := fun w h => hts0 w (List.mem_filter.mp h).1
  have S : CallFix p m c code 8 s #[Value.ref b] TB R_Law := ⟨hx, hb, hml, hown, hts⟩
  have hA : ∀ q : Nat, s.heap.size ≤ q → (fun q : Nat => s.heap.size ≤ q) q := fun _ h => h
  have hbA : ¬ (fun q : Nat => s.heap.size ≤ q) b := Nat.not_le.mpr hbl
  have hK := hE.1
  have hN := hE.2
  generalize hAe : (fun q : Nat => s.heap.size ≤ q) = A at hTE hA hbA ⊢
  intro n
  induction n with
  | zero =>
    intro _ x4 done brd tup tdn askd answ tlen tpl tsg rlen rsz rsg psz pcd pld pct lpr lful ljn fsz fkd ffr fto e_thrown e_signs e_rows e_parts e_done e_barred e_pairs e_full e_up e_down e_proofs e_asked e_text e_read e_begins e_tried e_partCode e_partLand e_partCents e_joined e_proofKind e_proofFrom e_proofTo e_told e_live e_any e_all uout hM
    rw [k_law_23_z] at hM
    cases hM
  | succ n ih =>
    intro hn1 x4 done brd tup tdn askd answ tlen tpl tsg rlen rsz rsg psz pcd pld pct lpr lful ljn fsz fkd ffr fto e_thrown e_signs e_rows e_parts e_done e_barred e_pairs e_full e_up e_down e_proofs e_asked e_text e_read e_begins e_tried e_partCode e_partLand e_partCents e_joined e_proofKind e_proofFrom e_proofTo e_told e_live e_any e_all uout hM H locs ls hP hD hS hl
    have hc0 : 1067 - (n + 1) + 0 ≤ room_1.cells := by show _ ≤ 1067; omega
    have hs0 : 10328 - 6 * (n + 1) + 0 ≤ room_1.slots := by show _ ≤ 10328; omega
    have hc1 : 1067 - (n + 1) + 1 ≤ room_1.cells := by show _ ≤ 1067; omega
    have hs1 : 10328 - 6 * (n + 1) + 6 ≤ room_1.slots := by show _ ≤ 10328; omega
    rw [k_law_23_s] at hM
    refine lv_iload hx hb d_law_23 (lv_at hl 4 rfl) ?_
    refine lv_aload_n hx hb d_law_25 rfl (lv_at hl 0 rfl) ?_
    refine va_slen hx hb hX hbl hbA hS d_law_26 ?_
    refine lv_iconst (v := 5) hx hb d_law_27 (by decide) ?_
    refine lv_isub hx hb d_law_28 ?_
    refine lv_icmp_gt (tgt := 1020) hx hb d_law_29 (by decide) (fun c_29 => ?_) (fun c_29 => ?_)
    · have hM := itT hM c_29
      refine lv_iconst (v := 1) hx hb d_law_1020 (by decide) ?_
      refine va_forget (fun q hq => by have h9 := hS.2.2 q hq; rw [← hAe] at h9; exact h9) ?_
      refine W.widen (k := 1067) (n := 10328) (by omega) (by omega) ?_
      exact lw_ret hx hb hr hlocks d_law_1021
    · have hM := itF hM c_29
      refine lv_aload_n hx hb d_law_32 rfl (lv_at hl 0 rfl) ?_
      refine lv_iload hx hb d_law_33 (lv_at hl 4 rfl) ?_
      obtain ⟨hin_35, hM⟩ := ixT hM
      refine va_sld hx hb hX hbl hbA hS hin_35 d_law_35 ?_
      refine lv_bipush (v := 15) hx hb d_law_36 (by decide) ?_
      refine lv_iand hx hb d_law_38 ?_
      by_cases c_39_0 : ((xs x4.toNatClampNeg) &&& 15) = 0
      · have hM := itT hM c_39_0
        refine lv_tableIn (tgt := 116) hx hb d_law_39 (by rw [c_39_0]; decide) (by rw [c_39_0]; decide) (by rw [c_39_0]; rfl) (by decide) ?_
        refine lv_aload_n hx hb d_law_116 rfl (lv_at hl 1 rfl) ?_
        refine lv_aload_n hx hb d_law_117 rfl (lv_at hl 0 rfl) ?_
        refine lv_iload hx hb d_law_118 (lv_at hl 4 rfl) ?_
        refine lv_iconst (v := 1) hx hb d_law_120 (by decide) ?_
        refine lv_iadd hx hb d_law_121 ?_
        obtain ⟨hin_122, hM⟩ := ixT hM
        refine va_sld hx hb hX hbl hbA hS hin_122 d_law_122 ?_
        obtain ⟨r_123, tlen_123, tsg_123, hc_123, hM⟩ := bd3T hM
        refine ca_V (As := [.int (xs (x4 + 1).toNatClampNeg)]) (rest := []) (wr := [(qM, .inr (6, [.int e_thrown, .ref qMtext, .int e_signs, .ref qMread, .ref qMbegins, .int e_rows, .ref qMtried, .int e_parts, .ref qMpartCode, .ref qMpartLand, .ref qMpartCents, .int e_done, .int e_barred, .ref qMjoined, .int e_pairs, .int (bI e_full), .int e_up, .int e_down, .int e_proofs, .ref qMproofKind, .ref qMproofFrom, .ref qMproofTo, .int e_asked, .ref qMtold, .ref qMlive, .ref qMany, .ref qMall])), (qMtext, .inl (cT 0, 300, .inl e_text)), (qMread, .inl (cT 0, 300, .inl e_read)), (qMbegins, .inl (cT 0, 21, .inl e_begins)), (qMtried, .inl (cT 0, 21, .inl e_tried)), (qMpartCode, .inl (cT 0, 12, .inl e_partCode)), (qMpartLand, .inl (cT 0, 12, .inl e_partLand)), (qMpartCents, .inl (cT 1, 12, .inr (.inl e_partCents))), (qMjoined, .inl (cT 3, 100, .inl e_joined)), (qMproofKind, .inl (cT 0, 20, .inl e_proofKind)), (qMproofFrom, .inl (cT 0, 20, .inl e_proofFrom)), (qMproofTo, .inl (cT 0, 20, .inl e_proofTo)), (qMtold, .inl (cT 0, 300, .inl e_told)), (qMlive, .inl (cT 3, 9, .inl e_live)), (qMany, .inl (cT 3, 9, .inl e_any)), (qMall, .inl (cT 3, 9, .inl e_all)), (qU, .inl (cT 1, 1, .inr (.inl uout)))]) (w2 := [(qO, .inr (0, [.ref qT, .ref qR, .ref qP, .ref qL, .ref qF, .int done, .int brd, .int tup, .int tdn, .ref qOa, .int askd])), (qOa, .inl (cT 0, 149, .inl answ)), (qT, .inr (1, [.ref qTs, .int tlen_123, .int tpl])), (qTs, .inl (cT 2, 300, .inl tsg_123)), (qR, .inr (2, [.ref qRs, .int rlen, .int rsz])), (qRs, .inl (cT 2, 300, .inl rsg)), (qP, .inr (3, [.ref qPc, .ref qPl, .ref qPv, .int psz])), (qPc, .inl (cT 0, 12, .inl pcd)), (qPl, .inl (cT 0, 12, .inl pld)), (qPv, .inl (cT 1, 12, .inr (.inl pct))), (qL, .inr (4, [.ref qLj, .int lpr, .int (bI lful)])), (qLj, .inl (cT 0, 10, .inl ljn)), (qF, .inr (5, [.ref qFk, .ref qFf, .ref qFl, .int fsz])), (qFk, .inl (cT 0, 20, .inl fkd)), (qFf, .inl (cT 0, 20, .inl ffr)), (qFl, .inl (cT 0, 20, .inl fto)), (qM, .inr (6, [.int e_thrown, .ref qMtext, .int e_signs, .ref qMread, .ref qMbegins, .int e_rows, .ref qMtried, .int e_parts, .ref qMpartCode, .ref qMpartLand, .ref qMpartCents, .int e_done, .int e_barred, .ref qMjoined, .int e_pairs, .int (bI e_full), .int e_up, .int e_down, .int e_proofs, .ref qMproofKind, .ref qMproofFrom, .ref qMproofTo, .int e_asked, .ref qMtold, .ref qMlive, .ref qMany, .ref qMall])), (qMtext, .inl (cT 0, 300, .inl e_text)), (qMread, .inl (cT 0, 300, .inl e_read)), (qMbegins, .inl (cT 0, 21, .inl e_begins)), (qMtried, .inl (cT 0, 21, .inl e_tried)), (qMpartCode, .inl (cT 0, 12, .inl e_partCode)), (qMpartLand, .inl (cT 0, 12, .inl e_partLand)), (qMpartCents, .inl (cT 1, 12, .inr (.inl e_partCents))), (qMjoined, .inl (cT 3, 100, .inl e_joined)), (qMproofKind, .inl (cT 0, 20, .inl e_proofKind)), (qMproofFrom, .inl (cT 0, 20, .inl e_proofFrom)), (qMproofTo, .inl (cT 0, 20, .inl e_proofTo)), (qMtold, .inl (cT 0, 300, .inl e_told)), (qMlive, .inl (cT 3, 9, .inl e_live)), (qMany, .inl (cT 3, 9, .inl e_any)), (qMall, .inl (cT 3, 9, .inl e_all)), (qU, .inl (cT 1, 1, .inr (.inl uout)))]) S hE (c_Or_sign l D cT qO qOa qT qTs qR qRs qP qPc qPl qPv qL qLj qF qFk qFf qFl done brd tup tdn askd answ tlen tpl tsg rlen rsz rsg psz pcd pld pct lpr lful ljn fsz fkd ffr fto (xs (x4 + 1).toNatClampNeg) hc_123) gw_a37e6fb6 rfl rfl ⟨Nat.le_of_ble_eq_true rfl, Nat.le_of_ble_eq_true rfl⟩ (ci := 0) rfl rfl (k0 := 0) rfl rfl hl.1 rfl (Nat.le_of_ble_eq_true rfl) d_law_123 ⟨hc0, hs0⟩ hP hD hS hA [0, 1, 2, 3, 4, 5, 6, 7, 8, 9, 10, 11, 12, 13, 14, 15] [16, 17, 18, 19, 20, 21, 22, 23, 24, 25, 26, 27, 28, 29, 30, 31, 32] [17, 18, 19, 20, 21, 22, 23, 24, 25, 26, 27, 28, 29, 30, 31, 32, 0, 1, 2, 3, 4, 5, 6, 7, 8, 9, 10, 11, 12, 13, 14, 15, 16] rfl rfl (by decide) (by decide) rfl (by decide) (by decide) (fun H locs hP hD hS => ?_)
        refine lv_aload_n hx hb d_law_126 rfl (lv_at hl 2 rfl) ?_
        refine lv_aload_n hx hb d_law_127 rfl (lv_at hl 0 rfl) ?_
        refine lv_iload hx hb d_law_128 (lv_at hl 4 rfl) ?_
        refine lv_iconst (v := 1) hx hb d_law_130 (by decide) ?_
        refine lv_iadd hx hb d_law_131 ?_
        obtain ⟨hin_132, hM⟩ := ixT hM
        refine va_sld hx hb hX hbl hbA hS hin_132 d_law_132 ?_
        obtain ⟨r_133, e_thrown_133, e_signs_133, e_text_133, hc_133, hM⟩ := bd4T hM
        refine ca_V (As := [.int (xs (x4 + 1).toNatClampNeg)]) (rest := [.int (bI r_123)]) (wr := [(qO, .inr (0, [.ref qT, .ref qR, .ref qP, .ref qL, .ref qF, .int done, .int brd, .int tup, .int tdn, .ref qOa, .int askd])), (qOa, .inl (cT 0, 149, .inl answ)), (qT, .inr (1, [.ref qTs, .int tlen_123, .int tpl])), (qTs, .inl (cT 2, 300, .inl tsg_123)), (qR, .inr (2, [.ref qRs, .int rlen, .int rsz])), (qRs, .inl (cT 2, 300, .inl rsg)), (qP, .inr (3, [.ref qPc, .ref qPl, .ref qPv, .int psz])), (qPc, .inl (cT 0, 12, .inl pcd)), (qPl, .inl (cT 0, 12, .inl pld)), (qPv, .inl (cT 1, 12, .inr (.inl pct))), (qL, .inr (4, [.ref qLj, .int lpr, .int (bI lful)])), (qLj, .inl (cT 0, 10, .inl ljn)), (qF, .inr (5, [.ref qFk, .ref qFf, .ref qFl, .int fsz])), (qFk, .inl (cT 0, 20, .inl fkd)), (qFf, .inl (cT 0, 20, .inl ffr)), (qFl, .inl (cT 0, 20, .inl fto)), (qU, .inl (cT 1, 1, .inr (.inl uout)))]) (w2 := [(qO, .inr (0, [.ref qT, .ref qR, .ref qP, .ref qL, .ref qF, .int done, .int brd, .int tup, .int tdn, .ref qOa, .int askd])), (qOa, .inl (cT 0, 149, .inl answ)), (qT, .inr (1, [.ref qTs, .int tlen_123, .int tpl])), (qTs, .inl (cT 2, 300, .inl tsg_123)), (qR, .inr (2, [.ref qRs, .int rlen, .int rsz])), (qRs, .inl (cT 2, 300, .inl rsg)), (qP, .inr (3, [.ref qPc, .ref qPl, .ref qPv, .int psz])), (qPc, .inl (cT 0, 12, .inl pcd)), (qPl, .inl (cT 0, 12, .inl pld)), (qPv, .inl (cT 1, 12, .inr (.inl pct))), (qL, .inr (4, [.ref qLj, .int lpr, .int (bI lful)])), (qLj, .inl (cT 0, 10, .inl ljn)), (qF, .inr (5, [.ref qFk, .ref qFf, .ref qFl, .int fsz])), (qFk, .inl (cT 0, 20, .inl fkd)), (qFf, .inl (cT 0, 20, .inl ffr)), (qFl, .inl (cT 0, 20, .inl fto)), (qM, .inr (6, [.int e_thrown_133, .ref qMtext, .int e_signs_133, .ref qMread, .ref qMbegins, .int e_rows, .ref qMtried, .int e_parts, .ref qMpartCode, .ref qMpartLand, .ref qMpartCents, .int e_done, .int e_barred, .ref qMjoined, .int e_pairs, .int (bI e_full), .int e_up, .int e_down, .int e_proofs, .ref qMproofKind, .ref qMproofFrom, .ref qMproofTo, .int e_asked, .ref qMtold, .ref qMlive, .ref qMany, .ref qMall])), (qMtext, .inl (cT 0, 300, .inl e_text_133)), (qMread, .inl (cT 0, 300, .inl e_read)), (qMbegins, .inl (cT 0, 21, .inl e_begins)), (qMtried, .inl (cT 0, 21, .inl e_tried)), (qMpartCode, .inl (cT 0, 12, .inl e_partCode)), (qMpartLand, .inl (cT 0, 12, .inl e_partLand)), (qMpartCents, .inl (cT 1, 12, .inr (.inl e_partCents))), (qMjoined, .inl (cT 3, 100, .inl e_joined)), (qMproofKind, .inl (cT 0, 20, .inl e_proofKind)), (qMproofFrom, .inl (cT 0, 20, .inl e_proofFrom)), (qMproofTo, .inl (cT 0, 20, .inl e_proofTo)), (qMtold, .inl (cT 0, 300, .inl e_told)), (qMlive, .inl (cT 3, 9, .inl e_live)), (qMany, .inl (cT 3, 9, .inl e_any)), (qMall, .inl (cT 3, 9, .inl e_all)), (qU, .inl (cT 1, 1, .inr (.inl uout)))]) S hE (c_Md_sign l D cT qM qMtext qMread qMbegins qMtried qMpartCode qMpartLand qMpartCents qMjoined qMproofKind qMproofFrom qMproofTo qMtold qMlive qMany qMall e_thrown e_signs e_rows e_parts e_done e_barred e_pairs e_full e_up e_down e_proofs e_asked e_text e_read e_begins e_tried e_partCode e_partLand e_partCents e_joined e_proofKind e_proofFrom e_proofTo e_told e_live e_any e_all (xs (x4 + 1).toNatClampNeg) hc_133) gw_a7661ba4 rfl rfl ⟨Nat.le_of_ble_eq_true rfl, Nat.le_of_ble_eq_true rfl⟩ (ci := 6) rfl rfl (k0 := 0) rfl rfl hl.1 rfl (Nat.le_of_ble_eq_true rfl) d_law_133 ⟨hc0, hs0⟩ hP hD hS hA [16, 17, 18, 19, 20, 21, 22, 23, 24, 25, 26, 27, 28, 29, 30, 31] [0, 1, 2, 3, 4, 5, 6, 7, 8, 9, 10, 11, 12, 13, 14, 15, 32] [0, 1, 2, 3, 4, 5, 6, 7, 8, 9, 10, 11, 12, 13, 14, 15, 17, 18, 19, 20, 21, 22, 23, 24, 25, 26, 27, 28, 29, 30, 31, 32, 16] rfl rfl (by decide) (by decide) rfl (by decide) (by decide) (fun H locs hP hD hS => ?_)
        refine lv_icmp_eq (tgt := 1014) hx hb d_law_136 (by decide) (fun c_136 => ?_) (fun c_136 => ?_)
        · have hM := itT hM c_136
          refine lv_iinc (v := x4 + 5) (lv' := [(4, .int (x4 + 5)), (0, .ref b), (1, .ref qO), (2, .ref qM), (3, .ref qU)]) hx hb d_law_1014 hl (k := 4) rfl rfl (by decide) rfl (fun ls hl => ?_)
          refine lv_goto (tgt := 23) hx hb d_law_1017 (by decide) ?_
          refine W.widen (k := 1067 - n) (n := 10328 - 6 * n) (by omega) (by omega) ?_
          exact ih (by omega) (x4 + 5) done brd tup tdn askd answ tlen_123 tpl tsg_123 rlen rsz rsg psz pcd pld pct lpr lful ljn fsz fkd ffr fto e_thrown_133 e_signs_133 e_rows e_parts e_done e_barred e_pairs e_full e_up e_down e_proofs e_asked e_text_133 e_read e_begins e_tried e_partCode e_partLand e_partCents e_joined e_proofKind e_proofFrom e_proofTo e_told e_live e_any e_all uout hM _ _ _ hP hD hS (lv_sub hl [1, 2, 3, 4, 0] rfl)
        · have hM := itF hM c_136
          refine lv_iconst (v := 0) hx hb d_law_139 (by decide) ?_
          exact absurd hM (by simp)
      · have hM := itF hM c_39_0
        by_cases c_39_1 : ((xs x4.toNatClampNeg) &&& 15) = 1
        · have hM := itT hM c_39_1
          refine lv_tableIn (tgt := 141) hx hb d_law_39 (by rw [c_39_1]; decide) (by rw [c_39_1]; decide) (by rw [c_39_1]; rfl) (by decide) ?_
          refine lv_aload_n hx hb d_law_141 rfl (lv_at hl 1 rfl) ?_
          obtain ⟨r_142, tlen_142, tpl_142, rlen_142, rsz_142, rsg_142, hc_142, hM⟩ := bd6T hM
          refine ca_V (As := []) (rest := []) (wr := [(qM, .inr (6, [.int e_thrown, .ref qMtext, .int e_signs, .ref qMread, .ref qMbegins, .int e_rows, .ref qMtried, .int e_parts, .ref qMpartCode, .ref qMpartLand, .ref qMpartCents, .int e_done, .int e_barred, .ref qMjoined, .int e_pairs, .int (bI e_full), .int e_up, .int e_down, .int e_proofs, .ref qMproofKind, .ref qMproofFrom, .ref qMproofTo, .int e_asked, .ref qMtold, .ref qMlive, .ref qMany, .ref qMall])), (qMtext, .inl (cT 0, 300, .inl e_text)), (qMread, .inl (cT 0, 300, .inl e_read)), (qMbegins, .inl (cT 0, 21, .inl e_begins)), (qMtried, .inl (cT 0, 21, .inl e_tried)), (qMpartCode, .inl (cT 0, 12, .inl e_partCode)), (qMpartLand, .inl (cT 0, 12, .inl e_partLand)), (qMpartCents, .inl (cT 1, 12, .inr (.inl e_partCents))), (qMjoined, .inl (cT 3, 100, .inl e_joined)), (qMproofKind, .inl (cT 0, 20, .inl e_proofKind)), (qMproofFrom, .inl (cT 0, 20, .inl e_proofFrom)), (qMproofTo, .inl (cT 0, 20, .inl e_proofTo)), (qMtold, .inl (cT 0, 300, .inl e_told)), (qMlive, .inl (cT 3, 9, .inl e_live)), (qMany, .inl (cT 3, 9, .inl e_any)), (qMall, .inl (cT 3, 9, .inl e_all)), (qU, .inl (cT 1, 1, .inr (.inl uout)))]) (w2 := [(qO, .inr (0, [.ref qT, .ref qR, .ref qP, .ref qL, .ref qF, .int done, .int brd, .int tup, .int tdn, .ref qOa, .int askd])), (qOa, .inl (cT 0, 149, .inl answ)), (qT, .inr (1, [.ref qTs, .int tlen_142, .int tpl_142])), (qTs, .inl (cT 2, 300, .inl tsg)), (qR, .inr (2, [.ref qRs, .int rlen_142, .int rsz_142])), (qRs, .inl (cT 2, 300, .inl rsg_142)), (qP, .inr (3, [.ref qPc, .ref qPl, .ref qPv, .int psz])), (qPc, .inl (cT 0, 12, .inl pcd)), (qPl, .inl (cT 0, 12, .inl pld)), (qPv, .inl (cT 1, 12, .inr (.inl pct))), (qL, .inr (4, [.ref qLj, .int lpr, .int (bI lful)])), (qLj, .inl (cT 0, 10, .inl ljn)), (qF, .inr (5, [.ref qFk, .ref qFf, .ref qFl, .int fsz])), (qFk, .inl (cT 0, 20, .inl fkd)), (qFf, .inl (cT 0, 20, .inl ffr)), (qFl, .inl (cT 0, 20, .inl fto)), (qM, .inr (6, [.int e_thrown, .ref qMtext, .int e_signs, .ref qMread, .ref qMbegins, .int e_rows, .ref qMtried, .int e_parts, .ref qMpartCode, .ref qMpartLand, .ref qMpartCents, .int e_done, .int e_barred, .ref qMjoined, .int e_pairs, .int (bI e_full), .int e_up, .int e_down, .int e_proofs, .ref qMproofKind, .ref qMproofFrom, .ref qMproofTo, .int e_asked, .ref qMtold, .ref qMlive, .ref qMany, .ref qMall])), (qMtext, .inl (cT 0, 300, .inl e_text)), (qMread, .inl (cT 0, 300, .inl e_read)), (qMbegins, .inl (cT 0, 21, .inl e_begins)), (qMtried, .inl (cT 0, 21, .inl e_tried)), (qMpartCode, .inl (cT 0, 12, .inl e_partCode)), (qMpartLand, .inl (cT 0, 12, .inl e_partLand)), (qMpartCents, .inl (cT 1, 12, .inr (.inl e_partCents))), (qMjoined, .inl (cT 3, 100, .inl e_joined)), (qMproofKind, .inl (cT 0, 20, .inl e_proofKind)), (qMproofFrom, .inl (cT 0, 20, .inl e_proofFrom)), (qMproofTo, .inl (cT 0, 20, .inl e_proofTo)), (qMtold, .inl (cT 0, 300, .inl e_told)), (qMlive, .inl (cT 3, 9, .inl e_live)), (qMany, .inl (cT 3, 9, .inl e_any)), (qMall, .inl (cT 3, 9, .inl e_all)), (qU, .inl (cT 1, 1, .inr (.inl uout)))]) S hE (c_Or_read l D cT qO qOa qT qTs qR qRs qP qPc qPl qPv qL qLj qF qFk qFf qFl done brd tup tdn askd answ tlen tpl tsg rlen rsz rsg psz pcd pld pct lpr lful ljn fsz fkd ffr fto hc_142) gw_e84ab4d9 rfl rfl ⟨Nat.le_of_ble_eq_true rfl, Nat.le_of_ble_eq_true rfl⟩ (ci := 0) rfl rfl (k0 := 0) rfl rfl hl.1 rfl (Nat.le_of_ble_eq_true rfl) d_law_142 ⟨hc0, hs0⟩ hP hD hS hA [0, 1, 2, 3, 4, 5, 6, 7, 8, 9, 10, 11, 12, 13, 14, 15] [16, 17, 18, 19, 20, 21, 22, 23, 24, 25, 26, 27, 28, 29, 30, 31, 32] [17, 18, 19, 20, 21, 22, 23, 24, 25, 26, 27, 28, 29, 30, 31, 32, 0, 1, 2, 3, 4, 5, 6, 7, 8, 9, 10, 11, 12, 13, 14, 15, 16] rfl rfl (by decide) (by decide) rfl (by decide) (by decide) (fun H locs hP hD hS => ?_)
          refine lv_aload_n hx hb d_law_145 rfl (lv_at hl 2 rfl) ?_
          obtain ⟨r_146, e_thrown_146, e_signs_146, e_rows_146, e_read_146, e_begins_146, e_tried_146, hc_146, hM⟩ := bd7T hM
          refine ca_V (As := []) (rest := [.int r_142]) (wr := [(qO, .inr (0, [.ref qT, .ref qR, .ref qP, .ref qL, .ref qF, .int done, .int brd, .int tup, .int tdn, .ref qOa, .int askd])), (qOa, .inl (cT 0, 149, .inl answ)), (qT, .inr (1, [.ref qTs, .int tlen_142, .int tpl_142])), (qTs, .inl (cT 2, 300, .inl tsg)), (qR, .inr (2, [.ref qRs, .int rlen_142, .int rsz_142])), (qRs, .inl (cT 2, 300, .inl rsg_142)), (qP, .inr (3, [.ref qPc, .ref qPl, .ref qPv, .int psz])), (qPc, .inl (cT 0, 12, .inl pcd)), (qPl, .inl (cT 0, 12, .inl pld)), (qPv, .inl (cT 1, 12, .inr (.inl pct))), (qL, .inr (4, [.ref qLj, .int lpr, .int (bI lful)])), (qLj, .inl (cT 0, 10, .inl ljn)), (qF, .inr (5, [.ref qFk, .ref qFf, .ref qFl, .int fsz])), (qFk, .inl (cT 0, 20, .inl fkd)), (qFf, .inl (cT 0, 20, .inl ffr)), (qFl, .inl (cT 0, 20, .inl fto)), (qU, .inl (cT 1, 1, .inr (.inl uout)))]) (w2 := [(qO, .inr (0, [.ref qT, .ref qR, .ref qP, .ref qL, .ref qF, .int done, .int brd, .int tup, .int tdn, .ref qOa, .int askd])), (qOa, .inl (cT 0, 149, .inl answ)), (qT, .inr (1, [.ref qTs, .int tlen_142, .int tpl_142])), (qTs, .inl (cT 2, 300, .inl tsg)), (qR, .inr (2, [.ref qRs, .int rlen_142, .int rsz_142])), (qRs, .inl (cT 2, 300, .inl rsg_142)), (qP, .inr (3, [.ref qPc, .ref qPl, .ref qPv, .int psz])), (qPc, .inl (cT 0, 12, .inl pcd)), (qPl, .inl (cT 0, 12, .inl pld)), (qPv, .inl (cT 1, 12, .inr (.inl pct))), (qL, .inr (4, [.ref qLj, .int lpr, .int (bI lful)])), (qLj, .inl (cT 0, 10, .inl ljn)), (qF, .inr (5, [.ref qFk, .ref qFf, .ref qFl, .int fsz])), (qFk, .inl (cT 0, 20, .inl fkd)), (qFf, .inl (cT 0, 20, .inl ffr)), (qFl, .inl (cT 0, 20, .inl fto)), (qM, .inr (6, [.int e_thrown_146, .ref qMtext, .int e_signs_146, .ref qMread, .ref qMbegins, .int e_rows_146, .ref qMtried, .int e_parts, .ref qMpartCode, .ref qMpartLand, .ref qMpartCents, .int e_done, .int e_barred, .ref qMjoined, .int e_pairs, .int (bI e_full), .int e_up, .int e_down, .int e_proofs, .ref qMproofKind, .ref qMproofFrom, .ref qMproofTo, .int e_asked, .ref qMtold, .ref qMlive, .ref qMany, .ref qMall])), (qMtext, .inl (cT 0, 300, .inl e_text)), (qMread, .inl (cT 0, 300, .inl e_read_146)), (qMbegins, .inl (cT 0, 21, .inl e_begins_146)), (qMtried, .inl (cT 0, 21, .inl e_tried_146)), (qMpartCode, .inl (cT 0, 12, .inl e_partCode)), (qMpartLand, .inl (cT 0, 12, .inl e_partLand)), (qMpartCents, .inl (cT 1, 12, .inr (.inl e_partCents))), (qMjoined, .inl (cT 3, 100, .inl e_joined)), (qMproofKind, .inl (cT 0, 20, .inl e_proofKind)), (qMproofFrom, .inl (cT 0, 20, .inl e_proofFrom)), (qMproofTo, .inl (cT 0, 20, .inl e_proofTo)), (qMtold, .inl (cT 0, 300, .inl e_told)), (qMlive, .inl (cT 3, 9, .inl e_live)), (qMany, .inl (cT 3, 9, .inl e_any)), (qMall, .inl (cT 3, 9, .inl e_all)), (qU, .inl (cT 1, 1, .inr (.inl uout)))]) S hE (c_Md_read l D cT qM qMtext qMread qMbegins qMtried qMpartCode qMpartLand qMpartCents qMjoined qMproofKind qMproofFrom qMproofTo qMtold qMlive qMany qMall e_thrown e_signs e_rows e_parts e_done e_barred e_pairs e_full e_up e_down e_proofs e_asked e_text e_read e_begins e_tried e_partCode e_partLand e_partCents e_joined e_proofKind e_proofFrom e_proofTo e_told e_live e_any e_all hc_146) gw_1b921a89 rfl rfl ⟨Nat.le_of_ble_eq_true rfl, Nat.le_of_ble_eq_true rfl⟩ (ci := 6) rfl rfl (k0 := 0) rfl rfl hl.1 rfl (Nat.le_of_ble_eq_true rfl) d_law_146 ⟨hc0, hs0⟩ hP hD hS hA [16, 17, 18, 19, 20, 21, 22, 23, 24, 25, 26, 27, 28, 29, 30, 31] [0, 1, 2, 3, 4, 5, 6, 7, 8, 9, 10, 11, 12, 13, 14, 15, 32] [0, 1, 2, 3, 4, 5, 6, 7, 8, 9, 10, 11, 12, 13, 14, 15, 17, 18, 19, 20, 21, 22, 23, 24, 25, 26, 27, 28, 29, 30, 31, 32, 16] rfl rfl (by decide) (by decide) rfl (by decide) (by decide) (fun H locs hP hD hS => ?_)
          refine lv_icmp_eq (tgt := 1014) hx hb d_law_149 (by decide) (fun c_149 => ?_) (fun c_149 => ?_)
          · have hM := itT hM c_149
            refine lv_iinc (v := x4 + 5) (lv' := [(4, .int (x4 + 5)), (0, .ref b), (1, .ref qO), (2, .ref qM), (3, .ref qU)]) hx hb d_law_1014 hl (k := 4) rfl rfl (by decide) rfl (fun ls hl => ?_)
            refine lv_goto (tgt := 23) hx hb d_law_1017 (by decide) ?_
            refine W.widen (k := 1067 - n) (n := 10328 - 6 * n) (by omega) (by omega) ?_
            exact ih (by omega) (x4 + 5) done brd tup tdn askd answ tlen_142 tpl_142 tsg rlen_142 rsz_142 rsg_142 psz pcd pld pct lpr lful ljn fsz fkd ffr fto e_thrown_146 e_signs_146 e_rows_146 e_parts e_done e_barred e_pairs e_full e_up e_down e_proofs e_asked e_text e_read_146 e_begins_146 e_tried_146 e_partCode e_partLand e_partCents e_joined e_proofKind e_proofFrom e_proofTo e_told e_live e_any e_all uout hM _ _ _ hP hD hS (lv_sub hl [1, 2, 3, 4, 0] rfl)
          · have hM := itF hM c_149
            refine lv_iconst (v := 0) hx hb d_law_152 (by decide) ?_
            exact absurd hM (by simp)
        · have hM := itF hM c_39_1
          by_cases c_39_2 : ((xs x4.toNatClampNeg) &&& 15) = 2
          · have hM := itT hM c_39_2
            refine lv_tableIn (tgt := 154) hx hb d_law_39 (by rw [c_39_2]; decide) (by rw [c_39_2]; decide) (by rw [c_39_2]; rfl) (by decide) ?_
            refine lv_aload_n hx hb d_law_154 rfl (lv_at hl 1 rfl) ?_
            refine lv_aload_n hx hb d_law_155 rfl (lv_at hl 0 rfl) ?_
            refine lv_iload hx hb d_law_156 (lv_at hl 4 rfl) ?_
            refine lv_iconst (v := 1) hx hb d_law_158 (by decide) ?_
            refine lv_iadd hx hb d_law_159 ?_
            obtain ⟨hin_160, hM⟩ := ixT hM
            refine va_sld hx hb hX hbl hbA hS hin_160 d_law_160 ?_
            refine lv_aload_n hx hb d_law_161 rfl (lv_at hl 0 rfl) ?_
            refine lv_iload hx hb d_law_162 (lv_at hl 4 rfl) ?_
            refine lv_iconst (v := 2) hx hb d_law_164 (by decide) ?_
            refine lv_iadd hx hb d_law_165 ?_
            obtain ⟨hin_166, hM⟩ := ixT hM
            refine va_sld hx hb hX hbl hbA hS hin_166 d_law_166 ?_
            refine lv_aload_n hx hb d_law_167 rfl (lv_at hl 0 rfl) ?_
            refine lv_iload hx hb d_law_168 (lv_at hl 4 rfl) ?_
            refine lv_iconst (v := 3) hx hb d_law_170 (by decide) ?_
            refine lv_iadd hx hb d_law_171 ?_
            obtain ⟨hin_172, hM⟩ := ixT hM
            refine va_sld hx hb hX hbl hbA hS hin_172 d_law_172 ?_
            refine lv_i2l hx hb d_law_173 rfl ?_
            refine lv_bipush (v := 32) hx hb d_law_174 (by decide) ?_
            refine lv_lshl hx hb d_law_176 rfl ?_
            refine lv_aload_n hx hb d_law_177 rfl (lv_at hl 0 rfl) ?_
            refine lv_iload hx hb d_law_178 (lv_at hl 4 rfl) ?_
            refine lv_iconst (v := 4) hx hb d_law_180 (by decide) ?_
            refine lv_iadd hx hb d_law_181 ?_
            obtain ⟨hin_182, hM⟩ := ixT hM
            refine va_sld hx hb hX hbl hbA hS hin_182 d_law_182 ?_
            refine lv_i2l hx hb d_law_183 rfl ?_
            refine lv_ldc2 (v := 4294967295) hx hb hown (hts _ iw_14dbc7c5) d_law_184 ?_
            refine lv_land hx hb d_law_187 ?_
            refine lv_lor hx hb d_law_188 ?_
            refine lv_aload_n hx hb d_law_189 rfl (lv_at hl 3 rfl) ?_
            obtain ⟨r_190, psz_190, pcd_190, pld_190, pct_190, uout_190, hc_190, hM⟩ := bd6T hM
            refine cl_H (As := [.ref qO, .int (xs (x4 + 1).toNatClampNeg), .int (xs (x4 + 2).toNatClampNeg), .long ((((xs (x4 + 3).toNatClampNeg).toInt64) <<< (((32 : Int32)).toInt64 &&& 63)) ||| (((xs (x4 + 4).toNatClampNeg).toInt64) &&& 4294967295)), .ref qU]) (rest := []) (wr := [(qM, .inr (6, [.int e_thrown, .ref qMtext, .int e_signs, .ref qMread, .ref qMbegins, .int e_rows, .ref qMtried, .int e_parts, .ref qMpartCode, .ref qMpartLand, .ref qMpartCents, .int e_done, .int e_barred, .ref qMjoined, .int e_pairs, .int (bI e_full), .int e_up, .int e_down, .int e_proofs, .ref qMproofKind, .ref qMproofFrom, .ref qMproofTo, .int e_asked, .ref qMtold, .ref qMlive, .ref qMany, .ref qMall])), (qMtext, .inl (cT 0, 300, .inl e_text)), (qMread, .inl (cT 0, 300, .inl e_read)), (qMbegins, .inl (cT 0, 21, .inl e_begins)), (qMtried, .inl (cT 0, 21, .inl e_tried)), (qMpartCode, .inl (cT 0, 12, .inl e_partCode)), (qMpartLand, .inl (cT 0, 12, .inl e_partLand)), (qMpartCents, .inl (cT 1, 12, .inr (.inl e_partCents))), (qMjoined, .inl (cT 3, 100, .inl e_joined)), (qMproofKind, .inl (cT 0, 20, .inl e_proofKind)), (qMproofFrom, .inl (cT 0, 20, .inl e_proofFrom)), (qMproofTo, .inl (cT 0, 20, .inl e_proofTo)), (qMtold, .inl (cT 0, 300, .inl e_told)), (qMlive, .inl (cT 3, 9, .inl e_live)), (qMany, .inl (cT 3, 9, .inl e_any)), (qMall, .inl (cT 3, 9, .inl e_all))]) (w2 := [(qO, .inr (0, [.ref qT, .ref qR, .ref qP, .ref qL, .ref qF, .int done, .int brd, .int tup, .int tdn, .ref qOa, .int askd])), (qOa, .inl (cT 0, 149, .inl answ)), (qT, .inr (1, [.ref qTs, .int tlen, .int tpl])), (qTs, .inl (cT 2, 300, .inl tsg)), (qR, .inr (2, [.ref qRs, .int rlen, .int rsz])), (qRs, .inl (cT 2, 300, .inl rsg)), (qP, .inr (3, [.ref qPc, .ref qPl, .ref qPv, .int psz_190])), (qPc, .inl (cT 0, 12, .inl pcd_190)), (qPl, .inl (cT 0, 12, .inl pld_190)), (qPv, .inl (cT 1, 12, .inr (.inl pct_190))), (qL, .inr (4, [.ref qLj, .int lpr, .int (bI lful)])), (qLj, .inl (cT 0, 10, .inl ljn)), (qF, .inr (5, [.ref qFk, .ref qFf, .ref qFl, .int fsz])), (qFk, .inl (cT 0, 20, .inl fkd)), (qFf, .inl (cT 0, 20, .inl ffr)), (qFl, .inl (cT 0, 20, .inl fto)), (qM, .inr (6, [.int e_thrown, .ref qMtext, .int e_signs, .ref qMread, .ref qMbegins, .int e_rows, .ref qMtried, .int e_parts, .ref qMpartCode, .ref qMpartLand, .ref qMpartCents, .int e_done, .int e_barred, .ref qMjoined, .int e_pairs, .int (bI e_full), .int e_up, .int e_down, .int e_proofs, .ref qMproofKind, .ref qMproofFrom, .ref qMproofTo, .int e_asked, .ref qMtold, .ref qMlive, .ref qMany, .ref qMall])), (qMtext, .inl (cT 0, 300, .inl e_text)), (qMread, .inl (cT 0, 300, .inl e_read)), (qMbegins, .inl (cT 0, 21, .inl e_begins)), (qMtried, .inl (cT 0, 21, .inl e_tried)), (qMpartCode, .inl (cT 0, 12, .inl e_partCode)), (qMpartLand, .inl (cT 0, 12, .inl e_partLand)), (qMpartCents, .inl (cT 1, 12, .inr (.inl e_partCents))), (qMjoined, .inl (cT 3, 100, .inl e_joined)), (qMproofKind, .inl (cT 0, 20, .inl e_proofKind)), (qMproofFrom, .inl (cT 0, 20, .inl e_proofFrom)), (qMproofTo, .inl (cT 0, 20, .inl e_proofTo)), (qMtold, .inl (cT 0, 300, .inl e_told)), (qMlive, .inl (cT 3, 9, .inl e_live)), (qMany, .inl (cT 3, 9, .inl e_any)), (qMall, .inl (cT 3, 9, .inl e_all)), (qU, .inl (cT 1, 1, .inr (.inl uout_190)))]) S hE hTE hNc (c_Law_part l hl0 D cT qO qOa qT qTs qR qRs qP qPc qPl qPv qL qLj qF qFk qFf qFl qU done brd tup tdn askd answ tlen tpl tsg rlen rsz rsg psz pcd pld pct lpr lful ljn fsz fkd ffr fto uout (xs (x4 + 1).toNatClampNeg) (xs (x4 + 2).toNatClampNeg) ((((xs (x4 + 3).toNatClampNeg).toInt64) <<< (((32 : Int32)).toInt64 &&& 63)) ||| (((xs (x4 + 4).toNatClampNeg).toInt64) &&& 4294967295)) hc_190) gw_b3bf2a8e rfl rfl ⟨Nat.le_of_ble_eq_true rfl, Nat.le_of_ble_eq_true rfl⟩ rfl hl.1 rfl (Nat.le_of_ble_eq_true rfl) d_law_190 ⟨hc1, hs1⟩ hP hD hS hA [0, 1, 2, 3, 4, 5, 6, 7, 8, 9, 10, 11, 12, 13, 14, 15, 32] [16, 17, 18, 19, 20, 21, 22, 23, 24, 25, 26, 27, 28, 29, 30, 31] [16, 17, 18, 19, 20, 21, 22, 23, 24, 25, 26, 27, 28, 29, 30, 31, 0, 1, 2, 3, 4, 5, 6, 7, 8, 9, 10, 11, 12, 13, 14, 15, 32] rfl rfl (by decide) (by decide) rfl (by decide) (by decide) (fun H locs hP hD hS => ?_)
            refine lv_istore (lv' := [(5, .int r_190), (0, .ref b), (1, .ref qO), (2, .ref qM), (3, .ref qU), (4, .int x4)]) hx hb d_law_193 hl (by decide) rfl (fun ls hl => ?_)
            refine lv_aload_n hx hb d_law_195 rfl (lv_at hl 3 rfl) ?_
            refine lv_aload_n hx hb d_law_196 rfl (lv_at hl 1 rfl) ?_
            refine lv_iload hx hb d_law_197 (lv_at hl 5 rfl) ?_
            refine lv_iconst (v := 1) hx hb d_law_199 (by decide) ?_
            refine lv_iadd hx hb d_law_200 ?_
            obtain ⟨hin_201, hM⟩ := ixT hM
            refine va_sld hx hb hX hbl hbA hS hin_201 d_law_201 ?_
            refine lv_aload_n hx hb d_law_202 rfl (lv_at hl 1 rfl) ?_
            refine lv_iload hx hb d_law_203 (lv_at hl 5 rfl) ?_
            refine lv_iconst (v := 2) hx hb d_law_205 (by decide) ?_
            refine lv_iadd hx hb d_law_206 ?_
            obtain ⟨hin_207, hM⟩ := ixT hM
            refine va_sld hx hb hX hbl hbA hS hin_207 d_law_207 ?_
            refine lv_aload_n hx hb d_law_208 rfl (lv_at hl 1 rfl) ?_
            refine lv_iload hx hb d_law_209 (lv_at hl 5 rfl) ?_
            refine lv_iconst (v := 3) hx hb d_law_211 (by decide) ?_
            refine lv_iadd hx hb d_law_212 ?_
            obtain ⟨hin_213, hM⟩ := ixT hM
            refine va_sld hx hb hX hbl hbA hS hin_213 d_law_213 ?_
            refine lv_i2l hx hb d_law_214 rfl ?_
            refine lv_bipush (v := 32) hx hb d_law_215 (by decide) ?_
            refine lv_lshl hx hb d_law_217 rfl ?_
            refine lv_aload_n hx hb d_law_218 rfl (lv_at hl 1 rfl) ?_
            refine lv_iload hx hb d_law_219 (lv_at hl 5 rfl) ?_
            refine lv_iconst (v := 4) hx hb d_law_221 (by decide) ?_
            refine lv_iadd hx hb d_law_222 ?_
            obtain ⟨hin_223, hM⟩ := ixT hM
            refine va_sld hx hb hX hbl hbA hS hin_223 d_law_223 ?_
            refine lv_i2l hx hb d_law_224 rfl ?_
            refine lv_ldc2 (v := 4294967295) hx hb hown (hts _ iw_14dbc7c5) d_law_225 ?_
            refine lv_land hx hb d_law_228 ?_
            refine lv_lor hx hb d_law_229 ?_
            obtain ⟨r_230, e_thrown_230, e_parts_230, e_partCode_230, e_partLand_230, e_partCents_230, hc_230, hM⟩ := bd6T hM
            refine ca_V (As := [.int (xs (x4 + 1).toNatClampNeg), .int (xs (x4 + 2).toNatClampNeg), .long ((((xs (x4 + 3).toNatClampNeg).toInt64) <<< (((32 : Int32)).toInt64 &&& 63)) ||| (((xs (x4 + 4).toNatClampNeg).toInt64) &&& 4294967295))]) (rest := []) (wr := [(qO, .inr (0, [.ref qT, .ref qR, .ref qP, .ref qL, .ref qF, .int done, .int brd, .int tup, .int tdn, .ref qOa, .int askd])), (qOa, .inl (cT 0, 149, .inl answ)), (qT, .inr (1, [.ref qTs, .int tlen, .int tpl])), (qTs, .inl (cT 2, 300, .inl tsg)), (qR, .inr (2, [.ref qRs, .int rlen, .int rsz])), (qRs, .inl (cT 2, 300, .inl rsg)), (qP, .inr (3, [.ref qPc, .ref qPl, .ref qPv, .int psz_190])), (qPc, .inl (cT 0, 12, .inl pcd_190)), (qPl, .inl (cT 0, 12, .inl pld_190)), (qPv, .inl (cT 1, 12, .inr (.inl pct_190))), (qL, .inr (4, [.ref qLj, .int lpr, .int (bI lful)])), (qLj, .inl (cT 0, 10, .inl ljn)), (qF, .inr (5, [.ref qFk, .ref qFf, .ref qFl, .int fsz])), (qFk, .inl (cT 0, 20, .inl fkd)), (qFf, .inl (cT 0, 20, .inl ffr)), (qFl, .inl (cT 0, 20, .inl fto)), (qU, .inl (cT 1, 1, .inr (.inl uout_190)))]) (w2 := [(qO, .inr (0, [.ref qT, .ref qR, .ref qP, .ref qL, .ref qF, .int done, .int brd, .int tup, .int tdn, .ref qOa, .int askd])), (qOa, .inl (cT 0, 149, .inl answ)), (qT, .inr (1, [.ref qTs, .int tlen, .int tpl])), (qTs, .inl (cT 2, 300, .inl tsg)), (qR, .inr (2, [.ref qRs, .int rlen, .int rsz])), (qRs, .inl (cT 2, 300, .inl rsg)), (qP, .inr (3, [.ref qPc, .ref qPl, .ref qPv, .int psz_190])), (qPc, .inl (cT 0, 12, .inl pcd_190)), (qPl, .inl (cT 0, 12, .inl pld_190)), (qPv, .inl (cT 1, 12, .inr (.inl pct_190))), (qL, .inr (4, [.ref qLj, .int lpr, .int (bI lful)])), (qLj, .inl (cT 0, 10, .inl ljn)), (qF, .inr (5, [.ref qFk, .ref qFf, .ref qFl, .int fsz])), (qFk, .inl (cT 0, 20, .inl fkd)), (qFf, .inl (cT 0, 20, .inl ffr)), (qFl, .inl (cT 0, 20, .inl fto)), (qM, .inr (6, [.int e_thrown_230, .ref qMtext, .int e_signs, .ref qMread, .ref qMbegins, .int e_rows, .ref qMtried, .int e_parts_230, .ref qMpartCode, .ref qMpartLand, .ref qMpartCents, .int e_done, .int e_barred, .ref qMjoined, .int e_pairs, .int (bI e_full), .int e_up, .int e_down, .int e_proofs, .ref qMproofKind, .ref qMproofFrom, .ref qMproofTo, .int e_asked, .ref qMtold, .ref qMlive, .ref qMany, .ref qMall])), (qMtext, .inl (cT 0, 300, .inl e_text)), (qMread, .inl (cT 0, 300, .inl e_read)), (qMbegins, .inl (cT 0, 21, .inl e_begins)), (qMtried, .inl (cT 0, 21, .inl e_tried)), (qMpartCode, .inl (cT 0, 12, .inl e_partCode_230)), (qMpartLand, .inl (cT 0, 12, .inl e_partLand_230)), (qMpartCents, .inl (cT 1, 12, .inr (.inl e_partCents_230))), (qMjoined, .inl (cT 3, 100, .inl e_joined)), (qMproofKind, .inl (cT 0, 20, .inl e_proofKind)), (qMproofFrom, .inl (cT 0, 20, .inl e_proofFrom)), (qMproofTo, .inl (cT 0, 20, .inl e_proofTo)), (qMtold, .inl (cT 0, 300, .inl e_told)), (qMlive, .inl (cT 3, 9, .inl e_live)), (qMany, .inl (cT 3, 9, .inl e_any)), (qMall, .inl (cT 3, 9, .inl e_all)), (qU, .inl (cT 1, 1, .inr (.inl uout_190)))]) S hE (c_Md_part l D cT qM qMtext qMread qMbegins qMtried qMpartCode qMpartLand qMpartCents qMjoined qMproofKind qMproofFrom qMproofTo qMtold qMlive qMany qMall e_thrown e_signs e_rows e_parts e_done e_barred e_pairs e_full e_up e_down e_proofs e_asked e_text e_read e_begins e_tried e_partCode e_partLand e_partCents e_joined e_proofKind e_proofFrom e_proofTo e_told e_live e_any e_all (xs (x4 + 1).toNatClampNeg) (xs (x4 + 2).toNatClampNeg) ((((xs (x4 + 3).toNatClampNeg).toInt64) <<< (((32 : Int32)).toInt64 &&& 63)) ||| (((xs (x4 + 4).toNatClampNeg).toInt64) &&& 4294967295)) hc_230) gw_646ef691 rfl rfl ⟨Nat.le_of_ble_eq_true rfl, Nat.le_of_ble_eq_true rfl⟩ (ci := 6) rfl rfl (k0 := 0) rfl rfl hl.1 rfl (Nat.le_of_ble_eq_true rfl) d_law_230 ⟨hc1, hs1⟩ hP hD hS hA [16, 17, 18, 19, 20, 21, 22, 23, 24, 25, 26, 27, 28, 29, 30, 31] [0, 1, 2, 3, 4, 5, 6, 7, 8, 9, 10, 11, 12, 13, 14, 15, 32] [0, 1, 2, 3, 4, 5, 6, 7, 8, 9, 10, 11, 12, 13, 14, 15, 17, 18, 19, 20, 21, 22, 23, 24, 25, 26, 27, 28, 29, 30, 31, 32, 16] rfl rfl (by decide) (by decide) rfl (by decide) (by decide) (fun H locs hP hD hS => ?_)
            refine lv_istore (lv' := [(6, .int r_230), (5, .int r_190), (0, .ref b), (1, .ref qO), (2, .ref qM), (3, .ref qU), (4, .int x4)]) hx hb d_law_233 hl (by decide) rfl (fun ls hl => ?_)
            refine lv_aload_n hx hb d_law_235 rfl (lv_at hl 4 rfl) ?_
            obtain ⟨r_236, hc_236, hM⟩ := bd1T hM
            refine ca_V (As := []) (rest := []) (wr := [(qO, .inr (0, [.ref qT, .ref qR, .ref qP, .ref qL, .ref qF, .int done, .int brd, .int tup, .int tdn, .ref qOa, .int askd])), (qOa, .inl (cT 0, 149, .inl answ)), (qT, .inr (1, [.ref qTs, .int tlen, .int tpl])), (qTs, .inl (cT 2, 300, .inl tsg)), (qR, .inr (2, [.ref qRs, .int rlen, .int rsz])), (qRs, .inl (cT 2, 300, .inl rsg)), (qP, .inr (3, [.ref qPc, .ref qPl, .ref qPv, .int psz_190])), (qPc, .inl (cT 0, 12, .inl pcd_190)), (qPl, .inl (cT 0, 12, .inl pld_190)), (qPv, .inl (cT 1, 12, .inr (.inl pct_190))), (qL, .inr (4, [.ref qLj, .int lpr, .int (bI lful)])), (qLj, .inl (cT 0, 10, .inl ljn)), (qF, .inr (5, [.ref qFk, .ref qFf, .ref qFl, .int fsz])), (qFk, .inl (cT 0, 20, .inl fkd)), (qFf, .inl (cT 0, 20, .inl ffr)), (qFl, .inl (cT 0, 20, .inl fto)), (qU, .inl (cT 1, 1, .inr (.inl uout_190)))]) (w2 := [(qO, .inr (0, [.ref qT, .ref qR, .ref qP, .ref qL, .ref qF, .int done, .int brd, .int tup, .int tdn, .ref qOa, .int askd])), (qOa, .inl (cT 0, 149, .inl answ)), (qT, .inr (1, [.ref qTs, .int tlen, .int tpl])), (qTs, .inl (cT 2, 300, .inl tsg)), (qR, .inr (2, [.ref qRs, .int rlen, .int rsz])), (qRs, .inl (cT 2, 300, .inl rsg)), (qP, .inr (3, [.ref qPc, .ref qPl, .ref qPv, .int psz_190])), (qPc, .inl (cT 0, 12, .inl pcd_190)), (qPl, .inl (cT 0, 12, .inl pld_190)), (qPv, .inl (cT 1, 12, .inr (.inl pct_190))), (qL, .inr (4, [.ref qLj, .int lpr, .int (bI lful)])), (qLj, .inl (cT 0, 10, .inl ljn)), (qF, .inr (5, [.ref qFk, .ref qFf, .ref qFl, .int fsz])), (qFk, .inl (cT 0, 20, .inl fkd)), (qFf, .inl (cT 0, 20, .inl ffr)), (qFl, .inl (cT 0, 20, .inl fto)), (qM, .inr (6, [.int e_thrown_230, .ref qMtext, .int e_signs, .ref qMread, .ref qMbegins, .int e_rows, .ref qMtried, .int e_parts_230, .ref qMpartCode, .ref qMpartLand, .ref qMpartCents, .int e_done, .int e_barred, .ref qMjoined, .int e_pairs, .int (bI e_full), .int e_up, .int e_down, .int e_proofs, .ref qMproofKind, .ref qMproofFrom, .ref qMproofTo, .int e_asked, .ref qMtold, .ref qMlive, .ref qMany, .ref qMall])), (qMtext, .inl (cT 0, 300, .inl e_text)), (qMread, .inl (cT 0, 300, .inl e_read)), (qMbegins, .inl (cT 0, 21, .inl e_begins)), (qMtried, .inl (cT 0, 21, .inl e_tried)), (qMpartCode, .inl (cT 0, 12, .inl e_partCode_230)), (qMpartLand, .inl (cT 0, 12, .inl e_partLand_230)), (qMpartCents, .inl (cT 1, 12, .inr (.inl e_partCents_230))), (qMjoined, .inl (cT 3, 100, .inl e_joined)), (qMproofKind, .inl (cT 0, 20, .inl e_proofKind)), (qMproofFrom, .inl (cT 0, 20, .inl e_proofFrom)), (qMproofTo, .inl (cT 0, 20, .inl e_proofTo)), (qMtold, .inl (cT 0, 300, .inl e_told)), (qMlive, .inl (cT 3, 9, .inl e_live)), (qMany, .inl (cT 3, 9, .inl e_any)), (qMall, .inl (cT 3, 9, .inl e_all)), (qU, .inl (cT 1, 1, .inr (.inl uout_190)))]) S hE (c_Md_thrown l D cT qM qMtext qMread qMbegins qMtried qMpartCode qMpartLand qMpartCents qMjoined qMproofKind qMproofFrom qMproofTo qMtold qMlive qMany qMall e_thrown_230 e_signs e_rows e_parts_230 e_done e_barred e_pairs e_full e_up e_down e_proofs e_asked e_text e_read e_begins e_tried e_partCode_230 e_partLand_230 e_partCents_230 e_joined e_proofKind e_proofFrom e_proofTo e_told e_live e_any e_all hc_236) gw_ba35c1bc rfl rfl ⟨Nat.le_of_ble_eq_true rfl, Nat.le_of_ble_eq_true rfl⟩ (ci := 6) rfl rfl (k0 := 0) rfl rfl hl.1 rfl (Nat.le_of_ble_eq_true rfl) d_law_236 ⟨hc1, hs1⟩ hP hD hS hA [16, 17, 18, 19, 20, 21, 22, 23, 24, 25, 26, 27, 28, 29, 30, 31] [0, 1, 2, 3, 4, 5, 6, 7, 8, 9, 10, 11, 12, 13, 14, 15, 32] [0, 1, 2, 3, 4, 5, 6, 7, 8, 9, 10, 11, 12, 13, 14, 15, 17, 18, 19, 20, 21, 22, 23, 24, 25, 26, 27, 28, 29, 30, 31, 32, 16] rfl rfl (by decide) (by decide) rfl (by decide) (by decide) (fun H locs hP hD hS => ?_)
            refine lv_iload hx hb d_law_239 (lv_at hl 1 rfl) ?_
            refine lv_icmp_eq (tgt := 246) hx hb d_law_241 (by decide) (fun c_241 => ?_) (fun c_241 => ?_)
            · have hM := itT hM c_241
              refine lv_iload hx hb d_law_246 (lv_at hl 1 rfl) ?_
              refine lv_if_ne (tgt := 263) hx hb d_law_248 (by decide) (fun c_248 => ?_) (fun c_248 => ?_)
              · have hM := itF hM c_248
                refine lv_goto (tgt := 1014) hx hb d_law_263 (by decide) ?_
                refine lv_iinc (v := x4 + 5) (lv' := [(4, .int (x4 + 5)), (6, .int r_230), (5, .int r_190), (0, .ref b), (1, .ref qO), (2, .ref qM), (3, .ref qU)]) hx hb d_law_1014 hl (k := 6) rfl rfl (by decide) rfl (fun ls hl => ?_)
                refine lv_goto (tgt := 23) hx hb d_law_1017 (by decide) ?_
                refine W.widen (k := 1067 - n) (n := 10328 - 6 * n) (by omega) (by omega) ?_
                exact ih (by omega) (x4 + 5) done brd tup tdn askd answ tlen tpl tsg rlen rsz rsg psz_190 pcd_190 pld_190 pct_190 lpr lful ljn fsz fkd ffr fto e_thrown_230 e_signs e_rows e_parts_230 e_done e_barred e_pairs e_full e_up e_down e_proofs e_asked e_text e_read e_begins e_tried e_partCode_230 e_partLand_230 e_partCents_230 e_joined e_proofKind e_proofFrom e_proofTo e_told e_live e_any e_all uout_190 hM _ _ _ hP hD hS (lv_sub hl [3, 4, 5, 6, 0] rfl)
              · have hM := itT hM c_248
                refine lv_aload_n hx hb d_law_251 rfl (lv_at hl 5 rfl) ?_
                refine lv_iconst (v := 0) hx hb d_law_252 (by decide) ?_
                obtain ⟨hin_253, hM⟩ := ixT hM
                refine va_lald hx hb hK hP 32 1 rfl rfl hin_253 d_law_253 ?_
                refine lv_iload hx hb d_law_254 (lv_at hl 0 rfl) ?_
                refine lv_i2l hx hb d_law_256 rfl ?_
                refine W.lcmp hx hb d_law_257 ?_
                refine lv_if_eq (tgt := 263) hx hb d_law_258 (by decide) (fun c_258 => ?_) (fun c_258 => ?_)
                · have hM := itT hM c_258
                  refine lv_goto (tgt := 1014) hx hb d_law_263 (by decide) ?_
                  refine lv_iinc (v := x4 + 5) (lv' := [(4, .int (x4 + 5)), (6, .int r_230), (5, .int r_190), (0, .ref b), (1, .ref qO), (2, .ref qM), (3, .ref qU)]) hx hb d_law_1014 hl (k := 6) rfl rfl (by decide) rfl (fun ls hl => ?_)
                  refine lv_goto (tgt := 23) hx hb d_law_1017 (by decide) ?_
                  refine W.widen (k := 1067 - n) (n := 10328 - 6 * n) (by omega) (by omega) ?_
                  exact ih (by omega) (x4 + 5) done brd tup tdn askd answ tlen tpl tsg rlen rsz rsg psz_190 pcd_190 pld_190 pct_190 lpr lful ljn fsz fkd ffr fto e_thrown_230 e_signs e_rows e_parts_230 e_done e_barred e_pairs e_full e_up e_down e_proofs e_asked e_text e_read e_begins e_tried e_partCode_230 e_partLand_230 e_partCents_230 e_joined e_proofKind e_proofFrom e_proofTo e_told e_live e_any e_all uout_190 hM _ _ _ hP hD hS (lv_sub hl [3, 4, 5, 6, 0] rfl)
                · have hM := itF hM c_258
                  refine lv_iconst (v := 0) hx hb d_law_261 (by decide) ?_
                  exact absurd hM (by simp)
            · have hM := itF hM c_241
              refine lv_iconst (v := 0) hx hb d_law_244 (by decide) ?_
              exact absurd hM (by simp)
          · have hM := itF hM c_39_2
            by_cases c_39_3 : ((xs x4.toNatClampNeg) &&& 15) = 3
            · have hM := itT hM c_39_3
              refine lv_tableIn (tgt := 266) hx hb d_law_39 (by rw [c_39_3]; decide) (by rw [c_39_3]; decide) (by rw [c_39_3]; rfl) (by decide) ?_
              refine lv_aload_n hx hb d_law_266 rfl (lv_at hl 1 rfl) ?_
              obtain ⟨r_267, done_267, psz_267, hc_267, hM⟩ := bd3T hM
              refine ca_V (As := []) (rest := []) (wr := [(qM, .inr (6, [.int e_thrown, .ref qMtext, .int e_signs, .ref qMread, .ref qMbegins, .int e_rows, .ref qMtried, .int e_parts, .ref qMpartCode, .ref qMpartLand, .ref qMpartCents, .int e_done, .int e_barred, .ref qMjoined, .int e_pairs, .int (bI e_full), .int e_up, .int e_down, .int e_proofs, .ref qMproofKind, .ref qMproofFrom, .ref qMproofTo, .int e_asked, .ref qMtold, .ref qMlive, .ref qMany, .ref qMall])), (qMtext, .inl (cT 0, 300, .inl e_text)), (qMread, .inl (cT 0, 300, .inl e_read)), (qMbegins, .inl (cT 0, 21, .inl e_begins)), (qMtried, .inl (cT 0, 21, .inl e_tried)), (qMpartCode, .inl (cT 0, 12, .inl e_partCode)), (qMpartLand, .inl (cT 0, 12, .inl e_partLand)), (qMpartCents, .inl (cT 1, 12, .inr (.inl e_partCents))), (qMjoined, .inl (cT 3, 100, .inl e_joined)), (qMproofKind, .inl (cT 0, 20, .inl e_proofKind)), (qMproofFrom, .inl (cT 0, 20, .inl e_proofFrom)), (qMproofTo, .inl (cT 0, 20, .inl e_proofTo)), (qMtold, .inl (cT 0, 300, .inl e_told)), (qMlive, .inl (cT 3, 9, .inl e_live)), (qMany, .inl (cT 3, 9, .inl e_any)), (qMall, .inl (cT 3, 9, .inl e_all)), (qU, .inl (cT 1, 1, .inr (.inl uout)))]) (w2 := [(qO, .inr (0, [.ref qT, .ref qR, .ref qP, .ref qL, .ref qF, .int done_267, .int brd, .int tup, .int tdn, .ref qOa, .int askd])), (qOa, .inl (cT 0, 149, .inl answ)), (qT, .inr (1, [.ref qTs, .int tlen, .int tpl])), (qTs, .inl (cT 2, 300, .inl tsg)), (qR, .inr (2, [.ref qRs, .int rlen, .int rsz])), (qRs, .inl (cT 2, 300, .inl rsg)), (qP, .inr (3, [.ref qPc, .ref qPl, .ref qPv, .int psz_267])), (qPc, .inl (cT 0, 12, .inl pcd)), (qPl, .inl (cT 0, 12, .inl pld)), (qPv, .inl (cT 1, 12, .inr (.inl pct))), (qL, .inr (4, [.ref qLj, .int lpr, .int (bI lful)])), (qLj, .inl (cT 0, 10, .inl ljn)), (qF, .inr (5, [.ref qFk, .ref qFf, .ref qFl, .int fsz])), (qFk, .inl (cT 0, 20, .inl fkd)), (qFf, .inl (cT 0, 20, .inl ffr)), (qFl, .inl (cT 0, 20, .inl fto)), (qM, .inr (6, [.int e_thrown, .ref qMtext, .int e_signs, .ref qMread, .ref qMbegins, .int e_rows, .ref qMtried, .int e_parts, .ref qMpartCode, .ref qMpartLand, .ref qMpartCents, .int e_done, .int e_barred, .ref qMjoined, .int e_pairs, .int (bI e_full), .int e_up, .int e_down, .int e_proofs, .ref qMproofKind, .ref qMproofFrom, .ref qMproofTo, .int e_asked, .ref qMtold, .ref qMlive, .ref qMany, .ref qMall])), (qMtext, .inl (cT 0, 300, .inl e_text)), (qMread, .inl (cT 0, 300, .inl e_read)), (qMbegins, .inl (cT 0, 21, .inl e_begins)), (qMtried, .inl (cT 0, 21, .inl e_tried)), (qMpartCode, .inl (cT 0, 12, .inl e_partCode)), (qMpartLand, .inl (cT 0, 12, .inl e_partLand)), (qMpartCents, .inl (cT 1, 12, .inr (.inl e_partCents))), (qMjoined, .inl (cT 3, 100, .inl e_joined)), (qMproofKind, .inl (cT 0, 20, .inl e_proofKind)), (qMproofFrom, .inl (cT 0, 20, .inl e_proofFrom)), (qMproofTo, .inl (cT 0, 20, .inl e_proofTo)), (qMtold, .inl (cT 0, 300, .inl e_told)), (qMlive, .inl (cT 3, 9, .inl e_live)), (qMany, .inl (cT 3, 9, .inl e_any)), (qMall, .inl (cT 3, 9, .inl e_all)), (qU, .inl (cT 1, 1, .inr (.inl uout)))]) S hE (c_Or_clear l D cT qO qOa qT qTs qR qRs qP qPc qPl qPv qL qLj qF qFk qFf qFl done brd tup tdn askd answ tlen tpl tsg rlen rsz rsg psz pcd pld pct lpr lful ljn fsz fkd ffr fto hc_267) gw_592a332a rfl rfl ⟨Nat.le_of_ble_eq_true rfl, Nat.le_of_ble_eq_true rfl⟩ (ci := 0) rfl rfl (k0 := 0) rfl rfl hl.1 rfl (Nat.le_of_ble_eq_true rfl) d_law_267 ⟨hc0, hs0⟩ hP hD hS hA [0, 1, 2, 3, 4, 5, 6, 7, 8, 9, 10, 11, 12, 13, 14, 15] [16, 17, 18, 19, 20, 21, 22, 23, 24, 25, 26, 27, 28, 29, 30, 31, 32] [17, 18, 19, 20, 21, 22, 23, 24, 25, 26, 27, 28, 29, 30, 31, 32, 0, 1, 2, 3, 4, 5, 6, 7, 8, 9, 10, 11, 12, 13, 14, 15, 16] rfl rfl (by decide) (by decide) rfl (by decide) (by decide) (fun H locs hP hD hS => ?_)
              refine lv_aload_n hx hb d_law_270 rfl (lv_at hl 2 rfl) ?_
              obtain ⟨r_271, e_thrown_271, e_parts_271, e_done_271, hc_271, hM⟩ := bd4T hM
              refine ca_V (As := []) (rest := [.int r_267]) (wr := [(qO, .inr (0, [.ref qT, .ref qR, .ref qP, .ref qL, .ref qF, .int done_267, .int brd, .int tup, .int tdn, .ref qOa, .int askd])), (qOa, .inl (cT 0, 149, .inl answ)), (qT, .inr (1, [.ref qTs, .int tlen, .int tpl])), (qTs, .inl (cT 2, 300, .inl tsg)), (qR, .inr (2, [.ref qRs, .int rlen, .int rsz])), (qRs, .inl (cT 2, 300, .inl rsg)), (qP, .inr (3, [.ref qPc, .ref qPl, .ref qPv, .int psz_267])), (qPc, .inl (cT 0, 12, .inl pcd)), (qPl, .inl (cT 0, 12, .inl pld)), (qPv, .inl (cT 1, 12, .inr (.inl pct))), (qL, .inr (4, [.ref qLj, .int lpr, .int (bI lful)])), (qLj, .inl (cT 0, 10, .inl ljn)), (qF, .inr (5, [.ref qFk, .ref qFf, .ref qFl, .int fsz])), (qFk, .inl (cT 0, 20, .inl fkd)), (qFf, .inl (cT 0, 20, .inl ffr)), (qFl, .inl (cT 0, 20, .inl fto)), (qU, .inl (cT 1, 1, .inr (.inl uout)))]) (w2 := [(qO, .inr (0, [.ref qT, .ref qR, .ref qP, .ref qL, .ref qF, .int done_267, .int brd, .int tup, .int tdn, .ref qOa, .int askd])), (qOa, .inl (cT 0, 149, .inl answ)), (qT, .inr (1, [.ref qTs, .int tlen, .int tpl])), (qTs, .inl (cT 2, 300, .inl tsg)), (qR, .inr (2, [.ref qRs, .int rlen, .int rsz])), (qRs, .inl (cT 2, 300, .inl rsg)), (qP, .inr (3, [.ref qPc, .ref qPl, .ref qPv, .int psz_267])), (qPc, .inl (cT 0, 12, .inl pcd)), (qPl, .inl (cT 0, 12, .inl pld)), (qPv, .inl (cT 1, 12, .inr (.inl pct))), (qL, .inr (4, [.ref qLj, .int lpr, .int (bI lful)])), (qLj, .inl (cT 0, 10, .inl ljn)), (qF, .inr (5, [.ref qFk, .ref qFf, .ref qFl, .int fsz])), (qFk, .inl (cT 0, 20, .inl fkd)), (qFf, .inl (cT 0, 20, .inl ffr)), (qFl, .inl (cT 0, 20, .inl fto)), (qM, .inr (6, [.int e_thrown_271, .ref qMtext, .int e_signs, .ref qMread, .ref qMbegins, .int e_rows, .ref qMtried, .int e_parts_271, .ref qMpartCode, .ref qMpartLand, .ref qMpartCents, .int e_done_271, .int e_barred, .ref qMjoined, .int e_pairs, .int (bI e_full), .int e_up, .int e_down, .int e_proofs, .ref qMproofKind, .ref qMproofFrom, .ref qMproofTo, .int e_asked, .ref qMtold, .ref qMlive, .ref qMany, .ref qMall])), (qMtext, .inl (cT 0, 300, .inl e_text)), (qMread, .inl (cT 0, 300, .inl e_read)), (qMbegins, .inl (cT 0, 21, .inl e_begins)), (qMtried, .inl (cT 0, 21, .inl e_tried)), (qMpartCode, .inl (cT 0, 12, .inl e_partCode)), (qMpartLand, .inl (cT 0, 12, .inl e_partLand)), (qMpartCents, .inl (cT 1, 12, .inr (.inl e_partCents))), (qMjoined, .inl (cT 3, 100, .inl e_joined)), (qMproofKind, .inl (cT 0, 20, .inl e_proofKind)), (qMproofFrom, .inl (cT 0, 20, .inl e_proofFrom)), (qMproofTo, .inl (cT 0, 20, .inl e_proofTo)), (qMtold, .inl (cT 0, 300, .inl e_told)), (qMlive, .inl (cT 3, 9, .inl e_live)), (qMany, .inl (cT 3, 9, .inl e_any)), (qMall, .inl (cT 3, 9, .inl e_all)), (qU, .inl (cT 1, 1, .inr (.inl uout)))]) S hE (c_Md_clear l D cT qM qMtext qMread qMbegins qMtried qMpartCode qMpartLand qMpartCents qMjoined qMproofKind qMproofFrom qMproofTo qMtold qMlive qMany qMall e_thrown e_signs e_rows e_parts e_done e_barred e_pairs e_full e_up e_down e_proofs e_asked e_text e_read e_begins e_tried e_partCode e_partLand e_partCents e_joined e_proofKind e_proofFrom e_proofTo e_told e_live e_any e_all hc_271) gw_ddf4c18a rfl rfl ⟨Nat.le_of_ble_eq_true rfl, Nat.le_of_ble_eq_true rfl⟩ (ci := 6) rfl rfl (k0 := 0) rfl rfl hl.1 rfl (Nat.le_of_ble_eq_true rfl) d_law_271 ⟨hc0, hs0⟩ hP hD hS hA [16, 17, 18, 19, 20, 21, 22, 23, 24, 25, 26, 27, 28, 29, 30, 31] [0, 1, 2, 3, 4, 5, 6, 7, 8, 9, 10, 11, 12, 13, 14, 15, 32] [0, 1, 2, 3, 4, 5, 6, 7, 8, 9, 10, 11, 12, 13, 14, 15, 17, 18, 19, 20, 21, 22, 23, 24, 25, 26, 27, 28, 29, 30, 31, 32, 16] rfl rfl (by decide) (by decide) rfl (by decide) (by decide) (fun H locs hP hD hS => ?_)
              refine lv_icmp_eq (tgt := 1014) hx hb d_law_274 (by decide) (fun c_274 => ?_) (fun c_274 => ?_)
              · have hM := itT hM c_274
                refine lv_iinc (v := x4 + 5) (lv' := [(4, .int (x4 + 5)), (0, .ref b), (1, .ref qO), (2, .ref qM), (3, .ref qU)]) hx hb d_law_1014 hl (k := 4) rfl rfl (by decide) rfl (fun ls hl => ?_)
                refine lv_goto (tgt := 23) hx hb d_law_1017 (by decide) ?_
                refine W.widen (k := 1067 - n) (n := 10328 - 6 * n) (by omega) (by omega) ?_
                exact ih (by omega) (x4 + 5) done_267 brd tup tdn askd answ tlen tpl tsg rlen rsz rsg psz_267 pcd pld pct lpr lful ljn fsz fkd ffr fto e_thrown_271 e_signs e_rows e_parts_271 e_done_271 e_barred e_pairs e_full e_up e_down e_proofs e_asked e_text e_read e_begins e_tried e_partCode e_partLand e_partCents e_joined e_proofKind e_proofFrom e_proofTo e_told e_live e_any e_all uout hM _ _ _ hP hD hS (lv_sub hl [1, 2, 3, 4, 0] rfl)
              · have hM := itF hM c_274
                refine lv_iconst (v := 0) hx hb d_law_277 (by decide) ?_
                exact absurd hM (by simp)
            · have hM := itF hM c_39_3
              by_cases c_39_4 : ((xs x4.toNatClampNeg) &&& 15) = 4
              · have hM := itT hM c_39_4
                refine lv_tableIn (tgt := 279) hx hb d_law_39 (by rw [c_39_4]; decide) (by rw [c_39_4]; decide) (by rw [c_39_4]; rfl) (by decide) ?_
                refine lv_aload_n hx hb d_law_279 rfl (lv_at hl 1 rfl) ?_
                refine lv_aload_n hx hb d_law_280 rfl (lv_at hl 0 rfl) ?_
                refine lv_iload hx hb d_law_281 (lv_at hl 4 rfl) ?_
                refine lv_iconst (v := 1) hx hb d_law_283 (by decide) ?_
                refine lv_iadd hx hb d_law_284 ?_
                obtain ⟨hin_285, hM⟩ := ixT hM
                refine va_sld hx hb hX hbl hbA hS hin_285 d_law_285 ?_
                obtain ⟨r_286, done_286, hc_286, hM⟩ := bd2T hM
                refine ca_V (As := [.int (xs (x4 + 1).toNatClampNeg)]) (rest := []) (wr := [(qM, .inr (6, [.int e_thrown, .ref qMtext, .int e_signs, .ref qMread, .ref qMbegins, .int e_rows, .ref qMtried, .int e_parts, .ref qMpartCode, .ref qMpartLand, .ref qMpartCents, .int e_done, .int e_barred, .ref qMjoined, .int e_pairs, .int (bI e_full), .int e_up, .int e_down, .int e_proofs, .ref qMproofKind, .ref qMproofFrom, .ref qMproofTo, .int e_asked, .ref qMtold, .ref qMlive, .ref qMany, .ref qMall])), (qMtext, .inl (cT 0, 300, .inl e_text)), (qMread, .inl (cT 0, 300, .inl e_read)), (qMbegins, .inl (cT 0, 21, .inl e_begins)), (qMtried, .inl (cT 0, 21, .inl e_tried)), (qMpartCode, .inl (cT 0, 12, .inl e_partCode)), (qMpartLand, .inl (cT 0, 12, .inl e_partLand)), (qMpartCents, .inl (cT 1, 12, .inr (.inl e_partCents))), (qMjoined, .inl (cT 3, 100, .inl e_joined)), (qMproofKind, .inl (cT 0, 20, .inl e_proofKind)), (qMproofFrom, .inl (cT 0, 20, .inl e_proofFrom)), (qMproofTo, .inl (cT 0, 20, .inl e_proofTo)), (qMtold, .inl (cT 0, 300, .inl e_told)), (qMlive, .inl (cT 3, 9, .inl e_live)), (qMany, .inl (cT 3, 9, .inl e_any)), (qMall, .inl (cT 3, 9, .inl e_all)), (qU, .inl (cT 1, 1, .inr (.inl uout)))]) (w2 := [(qO, .inr (0, [.ref qT, .ref qR, .ref qP, .ref qL, .ref qF, .int done_286, .int brd, .int tup, .int tdn, .ref qOa, .int askd])), (qOa, .inl (cT 0, 149, .inl answ)), (qT, .inr (1, [.ref qTs, .int tlen, .int tpl])), (qTs, .inl (cT 2, 300, .inl tsg)), (qR, .inr (2, [.ref qRs, .int rlen, .int rsz])), (qRs, .inl (cT 2, 300, .inl rsg)), (qP, .inr (3, [.ref qPc, .ref qPl, .ref qPv, .int psz])), (qPc, .inl (cT 0, 12, .inl pcd)), (qPl, .inl (cT 0, 12, .inl pld)), (qPv, .inl (cT 1, 12, .inr (.inl pct))), (qL, .inr (4, [.ref qLj, .int lpr, .int (bI lful)])), (qLj, .inl (cT 0, 10, .inl ljn)), (qF, .inr (5, [.ref qFk, .ref qFf, .ref qFl, .int fsz])), (qFk, .inl (cT 0, 20, .inl fkd)), (qFf, .inl (cT 0, 20, .inl ffr)), (qFl, .inl (cT 0, 20, .inl fto)), (qM, .inr (6, [.int e_thrown, .ref qMtext, .int e_signs, .ref qMread, .ref qMbegins, .int e_rows, .ref qMtried, .int e_parts, .ref qMpartCode, .ref qMpartLand, .ref qMpartCents, .int e_done, .int e_barred, .ref qMjoined, .int e_pairs, .int (bI e_full), .int e_up, .int e_down, .int e_proofs, .ref qMproofKind, .ref qMproofFrom, .ref qMproofTo, .int e_asked, .ref qMtold, .ref qMlive, .ref qMany, .ref qMall])), (qMtext, .inl (cT 0, 300, .inl e_text)), (qMread, .inl (cT 0, 300, .inl e_read)), (qMbegins, .inl (cT 0, 21, .inl e_begins)), (qMtried, .inl (cT 0, 21, .inl e_tried)), (qMpartCode, .inl (cT 0, 12, .inl e_partCode)), (qMpartLand, .inl (cT 0, 12, .inl e_partLand)), (qMpartCents, .inl (cT 1, 12, .inr (.inl e_partCents))), (qMjoined, .inl (cT 3, 100, .inl e_joined)), (qMproofKind, .inl (cT 0, 20, .inl e_proofKind)), (qMproofFrom, .inl (cT 0, 20, .inl e_proofFrom)), (qMproofTo, .inl (cT 0, 20, .inl e_proofTo)), (qMtold, .inl (cT 0, 300, .inl e_told)), (qMlive, .inl (cT 3, 9, .inl e_live)), (qMany, .inl (cT 3, 9, .inl e_any)), (qMall, .inl (cT 3, 9, .inl e_all)), (qU, .inl (cT 1, 1, .inr (.inl uout)))]) S hE (c_Or_process l D cT qO qOa qT qTs qR qRs qP qPc qPl qPv qL qLj qF qFk qFf qFl done brd tup tdn askd answ tlen tpl tsg rlen rsz rsg psz pcd pld pct lpr lful ljn fsz fkd ffr fto (xs (x4 + 1).toNatClampNeg) hc_286) gw_ae55ca99 rfl rfl ⟨Nat.le_of_ble_eq_true rfl, Nat.le_of_ble_eq_true rfl⟩ (ci := 0) rfl rfl (k0 := 0) rfl rfl hl.1 rfl (Nat.le_of_ble_eq_true rfl) d_law_286 ⟨hc0, hs0⟩ hP hD hS hA [0, 1, 2, 3, 4, 5, 6, 7, 8, 9, 10, 11, 12, 13, 14, 15] [16, 17, 18, 19, 20, 21, 22, 23, 24, 25, 26, 27, 28, 29, 30, 31, 32] [17, 18, 19, 20, 21, 22, 23, 24, 25, 26, 27, 28, 29, 30, 31, 32, 0, 1, 2, 3, 4, 5, 6, 7, 8, 9, 10, 11, 12, 13, 14, 15, 16] rfl rfl (by decide) (by decide) rfl (by decide) (by decide) (fun H locs hP hD hS => ?_)
                refine lv_aload_n hx hb d_law_289 rfl (lv_at hl 2 rfl) ?_
                refine lv_aload_n hx hb d_law_290 rfl (lv_at hl 0 rfl) ?_
                refine lv_iload hx hb d_law_291 (lv_at hl 4 rfl) ?_
                refine lv_iconst (v := 1) hx hb d_law_293 (by decide) ?_
                refine lv_iadd hx hb d_law_294 ?_
                obtain ⟨hin_295, hM⟩ := ixT hM
                refine va_sld hx hb hX hbl hbA hS hin_295 d_law_295 ?_
                obtain ⟨r_296, e_thrown_296, e_done_296, hc_296, hM⟩ := bd3T hM
                refine ca_V (As := [.int (xs (x4 + 1).toNatClampNeg)]) (rest := [.int (bI r_286)]) (wr := [(qO, .inr (0, [.ref qT, .ref qR, .ref qP, .ref qL, .ref qF, .int done_286, .int brd, .int tup, .int tdn, .ref qOa, .int askd])), (qOa, .inl (cT 0, 149, .inl answ)), (qT, .inr (1, [.ref qTs, .int tlen, .int tpl])), (qTs, .inl (cT 2, 300, .inl tsg)), (qR, .inr (2, [.ref qRs, .int rlen, .int rsz])), (qRs, .inl (cT 2, 300, .inl rsg)), (qP, .inr (3, [.ref qPc, .ref qPl, .ref qPv, .int psz])), (qPc, .inl (cT 0, 12, .inl pcd)), (qPl, .inl (cT 0, 12, .inl pld)), (qPv, .inl (cT 1, 12, .inr (.inl pct))), (qL, .inr (4, [.ref qLj, .int lpr, .int (bI lful)])), (qLj, .inl (cT 0, 10, .inl ljn)), (qF, .inr (5, [.ref qFk, .ref qFf, .ref qFl, .int fsz])), (qFk, .inl (cT 0, 20, .inl fkd)), (qFf, .inl (cT 0, 20, .inl ffr)), (qFl, .inl (cT 0, 20, .inl fto)), (qU, .inl (cT 1, 1, .inr (.inl uout)))]) (w2 := [(qO, .inr (0, [.ref qT, .ref qR, .ref qP, .ref qL, .ref qF, .int done_286, .int brd, .int tup, .int tdn, .ref qOa, .int askd])), (qOa, .inl (cT 0, 149, .inl answ)), (qT, .inr (1, [.ref qTs, .int tlen, .int tpl])), (qTs, .inl (cT 2, 300, .inl tsg)), (qR, .inr (2, [.ref qRs, .int rlen, .int rsz])), (qRs, .inl (cT 2, 300, .inl rsg)), (qP, .inr (3, [.ref qPc, .ref qPl, .ref qPv, .int psz])), (qPc, .inl (cT 0, 12, .inl pcd)), (qPl, .inl (cT 0, 12, .inl pld)), (qPv, .inl (cT 1, 12, .inr (.inl pct))), (qL, .inr (4, [.ref qLj, .int lpr, .int (bI lful)])), (qLj, .inl (cT 0, 10, .inl ljn)), (qF, .inr (5, [.ref qFk, .ref qFf, .ref qFl, .int fsz])), (qFk, .inl (cT 0, 20, .inl fkd)), (qFf, .inl (cT 0, 20, .inl ffr)), (qFl, .inl (cT 0, 20, .inl fto)), (qM, .inr (6, [.int e_thrown_296, .ref qMtext, .int e_signs, .ref qMread, .ref qMbegins, .int e_rows, .ref qMtried, .int e_parts, .ref qMpartCode, .ref qMpartLand, .ref qMpartCents, .int e_done_296, .int e_barred, .ref qMjoined, .int e_pairs, .int (bI e_full), .int e_up, .int e_down, .int e_proofs, .ref qMproofKind, .ref qMproofFrom, .ref qMproofTo, .int e_asked, .ref qMtold, .ref qMlive, .ref qMany, .ref qMall])), (qMtext, .inl (cT 0, 300, .inl e_text)), (qMread, .inl (cT 0, 300, .inl e_read)), (qMbegins, .inl (cT 0, 21, .inl e_begins)), (qMtried, .inl (cT 0, 21, .inl e_tried)), (qMpartCode, .inl (cT 0, 12, .inl e_partCode)), (qMpartLand, .inl (cT 0, 12, .inl e_partLand)), (qMpartCents, .inl (cT 1, 12, .inr (.inl e_partCents))), (qMjoined, .inl (cT 3, 100, .inl e_joined)), (qMproofKind, .inl (cT 0, 20, .inl e_proofKind)), (qMproofFrom, .inl (cT 0, 20, .inl e_proofFrom)), (qMproofTo, .inl (cT 0, 20, .inl e_proofTo)), (qMtold, .inl (cT 0, 300, .inl e_told)), (qMlive, .inl (cT 3, 9, .inl e_live)), (qMany, .inl (cT 3, 9, .inl e_any)), (qMall, .inl (cT 3, 9, .inl e_all)), (qU, .inl (cT 1, 1, .inr (.inl uout)))]) S hE (c_Md_process l D cT qM qMtext qMread qMbegins qMtried qMpartCode qMpartLand qMpartCents qMjoined qMproofKind qMproofFrom qMproofTo qMtold qMlive qMany qMall e_thrown e_signs e_rows e_parts e_done e_barred e_pairs e_full e_up e_down e_proofs e_asked e_text e_read e_begins e_tried e_partCode e_partLand e_partCents e_joined e_proofKind e_proofFrom e_proofTo e_told e_live e_any e_all (xs (x4 + 1).toNatClampNeg) hc_296) gw_f1a19673 rfl rfl ⟨Nat.le_of_ble_eq_true rfl, Nat.le_of_ble_eq_true rfl⟩ (ci := 6) rfl rfl (k0 := 0) rfl rfl hl.1 rfl (Nat.le_of_ble_eq_true rfl) d_law_296 ⟨hc0, hs0⟩ hP hD hS hA [16, 17, 18, 19, 20, 21, 22, 23, 24, 25, 26, 27, 28, 29, 30, 31] [0, 1, 2, 3, 4, 5, 6, 7, 8, 9, 10, 11, 12, 13, 14, 15, 32] [0, 1, 2, 3, 4, 5, 6, 7, 8, 9, 10, 11, 12, 13, 14, 15, 17, 18, 19, 20, 21, 22, 23, 24, 25, 26, 27, 28, 29, 30, 31, 32, 16] rfl rfl (by decide) (by decide) rfl (by decide) (by decide) (fun H locs hP hD hS => ?_)
                refine lv_icmp_eq (tgt := 1014) hx hb d_law_299 (by decide) (fun c_299 => ?_) (fun c_299 => ?_)
                · have hM := itT hM c_299
                  refine lv_iinc (v := x4 + 5) (lv' := [(4, .int (x4 + 5)), (0, .ref b), (1, .ref qO), (2, .ref qM), (3, .ref qU)]) hx hb d_law_1014 hl (k := 4) rfl rfl (by decide) rfl (fun ls hl => ?_)
                  refine lv_goto (tgt := 23) hx hb d_law_1017 (by decide) ?_
                  refine W.widen (k := 1067 - n) (n := 10328 - 6 * n) (by omega) (by omega) ?_
                  exact ih (by omega) (x4 + 5) done_286 brd tup tdn askd answ tlen tpl tsg rlen rsz rsg psz pcd pld pct lpr lful ljn fsz fkd ffr fto e_thrown_296 e_signs e_rows e_parts e_done_296 e_barred e_pairs e_full e_up e_down e_proofs e_asked e_text e_read e_begins e_tried e_partCode e_partLand e_partCents e_joined e_proofKind e_proofFrom e_proofTo e_told e_live e_any e_all uout hM _ _ _ hP hD hS (lv_sub hl [1, 2, 3, 4, 0] rfl)
                · have hM := itF hM c_299
                  refine lv_iconst (v := 0) hx hb d_law_302 (by decide) ?_
                  exact absurd hM (by simp)
              · have hM := itF hM c_39_4
                by_cases c_39_5 : ((xs x4.toNatClampNeg) &&& 15) = 5
                · have hM := itT hM c_39_5
                  refine lv_tableIn (tgt := 304) hx hb d_law_39 (by rw [c_39_5]; decide) (by rw [c_39_5]; decide) (by rw [c_39_5]; rfl) (by decide) ?_
                  refine lv_aload_n hx hb d_law_304 rfl (lv_at hl 1 rfl) ?_
                  refine lv_aload_n hx hb d_law_305 rfl (lv_at hl 0 rfl) ?_
                  refine lv_iload hx hb d_law_306 (lv_at hl 4 rfl) ?_
                  refine lv_iconst (v := 1) hx hb d_law_308 (by decide) ?_
                  refine lv_iadd hx hb d_law_309 ?_
                  obtain ⟨hin_310, hM⟩ := ixT hM
                  refine va_sld hx hb hX hbl hbA hS hin_310 d_law_310 ?_
                  refine lv_aload_n hx hb d_law_311 rfl (lv_at hl 0 rfl) ?_
                  refine lv_iload hx hb d_law_312 (lv_at hl 4 rfl) ?_
                  refine lv_iconst (v := 2) hx hb d_law_314 (by decide) ?_
                  refine lv_iadd hx hb d_law_315 ?_
                  obtain ⟨hin_316, hM⟩ := ixT hM
                  refine va_sld hx hb hX hbl hbA hS hin_316 d_law_316 ?_
                  refine lv_if_eq (tgt := 324) hx hb d_law_317 (by decide) (fun c_317 => ?_) (fun c_317 => ?_)
                  · have hM := itT hM c_317
                    refine lv_iconst (v := 0) hx hb d_law_324 (by decide) ?_
                    obtain ⟨r_325, brd_325, hc_325, hM⟩ := bd2T hM
                    refine ca_V (As := [.int (xs (x4 + 1).toNatClampNeg), .int (bI false)]) (rest := []) (wr := [(qM, .inr (6, [.int e_thrown, .ref qMtext, .int e_signs, .ref qMread, .ref qMbegins, .int e_rows, .ref qMtried, .int e_parts, .ref qMpartCode, .ref qMpartLand, .ref qMpartCents, .int e_done, .int e_barred, .ref qMjoined, .int e_pairs, .int (bI e_full), .int e_up, .int e_down, .int e_proofs, .ref qMproofKind, .ref qMproofFrom, .ref qMproofTo, .int e_asked, .ref qMtold, .ref qMlive, .ref qMany, .ref qMall])), (qMtext, .inl (cT 0, 300, .inl e_text)), (qMread, .inl (cT 0, 300, .inl e_read)), (qMbegins, .inl (cT 0, 21, .inl e_begins)), (qMtried, .inl (cT 0, 21, .inl e_tried)), (qMpartCode, .inl (cT 0, 12, .inl e_partCode)), (qMpartLand, .inl (cT 0, 12, .inl e_partLand)), (qMpartCents, .inl (cT 1, 12, .inr (.inl e_partCents))), (qMjoined, .inl (cT 3, 100, .inl e_joined)), (qMproofKind, .inl (cT 0, 20, .inl e_proofKind)), (qMproofFrom, .inl (cT 0, 20, .inl e_proofFrom)), (qMproofTo, .inl (cT 0, 20, .inl e_proofTo)), (qMtold, .inl (cT 0, 300, .inl e_told)), (qMlive, .inl (cT 3, 9, .inl e_live)), (qMany, .inl (cT 3, 9, .inl e_any)), (qMall, .inl (cT 3, 9, .inl e_all)), (qU, .inl (cT 1, 1, .inr (.inl uout)))]) (w2 := [(qO, .inr (0, [.ref qT, .ref qR, .ref qP, .ref qL, .ref qF, .int done, .int brd_325, .int tup, .int tdn, .ref qOa, .int askd])), (qOa, .inl (cT 0, 149, .inl answ)), (qT, .inr (1, [.ref qTs, .int tlen, .int tpl])), (qTs, .inl (cT 2, 300, .inl tsg)), (qR, .inr (2, [.ref qRs, .int rlen, .int rsz])), (qRs, .inl (cT 2, 300, .inl rsg)), (qP, .inr (3, [.ref qPc, .ref qPl, .ref qPv, .int psz])), (qPc, .inl (cT 0, 12, .inl pcd)), (qPl, .inl (cT 0, 12, .inl pld)), (qPv, .inl (cT 1, 12, .inr (.inl pct))), (qL, .inr (4, [.ref qLj, .int lpr, .int (bI lful)])), (qLj, .inl (cT 0, 10, .inl ljn)), (qF, .inr (5, [.ref qFk, .ref qFf, .ref qFl, .int fsz])), (qFk, .inl (cT 0, 20, .inl fkd)), (qFf, .inl (cT 0, 20, .inl ffr)), (qFl, .inl (cT 0, 20, .inl fto)), (qM, .inr (6, [.int e_thrown, .ref qMtext, .int e_signs, .ref qMread, .ref qMbegins, .int e_rows, .ref qMtried, .int e_parts, .ref qMpartCode, .ref qMpartLand, .ref qMpartCents, .int e_done, .int e_barred, .ref qMjoined, .int e_pairs, .int (bI e_full), .int e_up, .int e_down, .int e_proofs, .ref qMproofKind, .ref qMproofFrom, .ref qMproofTo, .int e_asked, .ref qMtold, .ref qMlive, .ref qMany, .ref qMall])), (qMtext, .inl (cT 0, 300, .inl e_text)), (qMread, .inl (cT 0, 300, .inl e_read)), (qMbegins, .inl (cT 0, 21, .inl e_begins)), (qMtried, .inl (cT 0, 21, .inl e_tried)), (qMpartCode, .inl (cT 0, 12, .inl e_partCode)), (qMpartLand, .inl (cT 0, 12, .inl e_partLand)), (qMpartCents, .inl (cT 1, 12, .inr (.inl e_partCents))), (qMjoined, .inl (cT 3, 100, .inl e_joined)), (qMproofKind, .inl (cT 0, 20, .inl e_proofKind)), (qMproofFrom, .inl (cT 0, 20, .inl e_proofFrom)), (qMproofTo, .inl (cT 0, 20, .inl e_proofTo)), (qMtold, .inl (cT 0, 300, .inl e_told)), (qMlive, .inl (cT 3, 9, .inl e_live)), (qMany, .inl (cT 3, 9, .inl e_any)), (qMall, .inl (cT 3, 9, .inl e_all)), (qU, .inl (cT 1, 1, .inr (.inl uout)))]) S hE (c_Or_bar l D cT qO qOa qT qTs qR qRs qP qPc qPl qPv qL qLj qF qFk qFf qFl done brd tup tdn askd answ tlen tpl tsg rlen rsz rsg psz pcd pld pct lpr lful ljn fsz fkd ffr fto (xs (x4 + 1).toNatClampNeg) false hc_325) gw_4788a7b4 rfl rfl ⟨Nat.le_of_ble_eq_true rfl, Nat.le_of_ble_eq_true rfl⟩ (ci := 0) rfl rfl (k0 := 0) rfl rfl hl.1 rfl (Nat.le_of_ble_eq_true rfl) d_law_325 ⟨hc0, hs0⟩ hP hD hS hA [0, 1, 2, 3, 4, 5, 6, 7, 8, 9, 10, 11, 12, 13, 14, 15] [16, 17, 18, 19, 20, 21, 22, 23, 24, 25, 26, 27, 28, 29, 30, 31, 32] [17, 18, 19, 20, 21, 22, 23, 24, 25, 26, 27, 28, 29, 30, 31, 32, 0, 1, 2, 3, 4, 5, 6, 7, 8, 9, 10, 11, 12, 13, 14, 15, 16] rfl rfl (by decide) (by decide) rfl (by decide) (by decide) (fun H locs hP hD hS => ?_)
                    refine lv_aload_n hx hb d_law_328 rfl (lv_at hl 2 rfl) ?_
                    refine lv_aload_n hx hb d_law_329 rfl (lv_at hl 0 rfl) ?_
                    refine lv_iload hx hb d_law_330 (lv_at hl 4 rfl) ?_
                    refine lv_iconst (v := 1) hx hb d_law_332 (by decide) ?_
                    refine lv_iadd hx hb d_law_333 ?_
                    obtain ⟨hin_334, hM⟩ := ixT hM
                    refine va_sld hx hb hX hbl hbA hS hin_334 d_law_334 ?_
                    refine lv_aload_n hx hb d_law_335 rfl (lv_at hl 0 rfl) ?_
                    refine lv_iload hx hb d_law_336 (lv_at hl 4 rfl) ?_
                    refine lv_iconst (v := 2) hx hb d_law_338 (by decide) ?_
                    refine lv_iadd hx hb d_law_339 ?_
                    obtain ⟨hin_340, hM⟩ := ixT hM
                    refine va_sld hx hb hX hbl hbA hS hin_340 d_law_340 ?_
                    refine lv_if_eq (tgt := 348) hx hb d_law_341 (by decide) (fun c_341 => ?_) (fun c_341 => ?_)
                    · have hM := itT hM c_341
                      refine lv_iconst (v := 0) hx hb d_law_348 (by decide) ?_
                      obtain ⟨r_349, e_thrown_349, e_barred_349, hc_349, hM⟩ := bd3T hM
                      refine ca_V (As := [.int (xs (x4 + 1).toNatClampNeg), .int (bI false)]) (rest := [.int (bI r_325)]) (wr := [(qO, .inr (0, [.ref qT, .ref qR, .ref qP, .ref qL, .ref qF, .int done, .int brd_325, .int tup, .int tdn, .ref qOa, .int askd])), (qOa, .inl (cT 0, 149, .inl answ)), (qT, .inr (1, [.ref qTs, .int tlen, .int tpl])), (qTs, .inl (cT 2, 300, .inl tsg)), (qR, .inr (2, [.ref qRs, .int rlen, .int rsz])), (qRs, .inl (cT 2, 300, .inl rsg)), (qP, .inr (3, [.ref qPc, .ref qPl, .ref qPv, .int psz])), (qPc, .inl (cT 0, 12, .inl pcd)), (qPl, .inl (cT 0, 12, .inl pld)), (qPv, .inl (cT 1, 12, .inr (.inl pct))), (qL, .inr (4, [.ref qLj, .int lpr, .int (bI lful)])), (qLj, .inl (cT 0, 10, .inl ljn)), (qF, .inr (5, [.ref qFk, .ref qFf, .ref qFl, .int fsz])), (qFk, .inl (cT 0, 20, .inl fkd)), (qFf, .inl (cT 0, 20, .inl ffr)), (qFl, .inl (cT 0, 20, .inl fto)), (qU, .inl (cT 1, 1, .inr (.inl uout)))]) (w2 := [(qO, .inr (0, [.ref qT, .ref qR, .ref qP, .ref qL, .ref qF, .int done, .int brd_325, .int tup, .int tdn, .ref qOa, .int askd])), (qOa, .inl (cT 0, 149, .inl answ)), (qT, .inr (1, [.ref qTs, .int tlen, .int tpl])), (qTs, .inl (cT 2, 300, .inl tsg)), (qR, .inr (2, [.ref qRs, .int rlen, .int rsz])), (qRs, .inl (cT 2, 300, .inl rsg)), (qP, .inr (3, [.ref qPc, .ref qPl, .ref qPv, .int psz])), (qPc, .inl (cT 0, 12, .inl pcd)), (qPl, .inl (cT 0, 12, .inl pld)), (qPv, .inl (cT 1, 12, .inr (.inl pct))), (qL, .inr (4, [.ref qLj, .int lpr, .int (bI lful)])), (qLj, .inl (cT 0, 10, .inl ljn)), (qF, .inr (5, [.ref qFk, .ref qFf, .ref qFl, .int fsz])), (qFk, .inl (cT 0, 20, .inl fkd)), (qFf, .inl (cT 0, 20, .inl ffr)), (qFl, .inl (cT 0, 20, .inl fto)), (qM, .inr (6, [.int e_thrown_349, .ref qMtext, .int e_signs, .ref qMread, .ref qMbegins, .int e_rows, .ref qMtried, .int e_parts, .ref qMpartCode, .ref qMpartLand, .ref qMpartCents, .int e_done, .int e_barred_349, .ref qMjoined, .int e_pairs, .int (bI e_full), .int e_up, .int e_down, .int e_proofs, .ref qMproofKind, .ref qMproofFrom, .ref qMproofTo, .int e_asked, .ref qMtold, .ref qMlive, .ref qMany, .ref qMall])), (qMtext, .inl (cT 0, 300, .inl e_text)), (qMread, .inl (cT 0, 300, .inl e_read)), (qMbegins, .inl (cT 0, 21, .inl e_begins)), (qMtried, .inl (cT 0, 21, .inl e_tried)), (qMpartCode, .inl (cT 0, 12, .inl e_partCode)), (qMpartLand, .inl (cT 0, 12, .inl e_partLand)), (qMpartCents, .inl (cT 1, 12, .inr (.inl e_partCents))), (qMjoined, .inl (cT 3, 100, .inl e_joined)), (qMproofKind, .inl (cT 0, 20, .inl e_proofKind)), (qMproofFrom, .inl (cT 0, 20, .inl e_proofFrom)), (qMproofTo, .inl (cT 0, 20, .inl e_proofTo)), (qMtold, .inl (cT 0, 300, .inl e_told)), (qMlive, .inl (cT 3, 9, .inl e_live)), (qMany, .inl (cT 3, 9, .inl e_any)), (qMall, .inl (cT 3, 9, .inl e_all)), (qU, .inl (cT 1, 1, .inr (.inl uout)))]) S hE (c_Md_bar l D cT qM qMtext qMread qMbegins qMtried qMpartCode qMpartLand qMpartCents qMjoined qMproofKind qMproofFrom qMproofTo qMtold qMlive qMany qMall e_thrown e_signs e_rows e_parts e_done e_barred e_pairs e_full e_up e_down e_proofs e_asked e_text e_read e_begins e_tried e_partCode e_partLand e_partCents e_joined e_proofKind e_proofFrom e_proofTo e_told e_live e_any e_all (xs (x4 + 1).toNatClampNeg) false hc_349) gw_0722ebad rfl rfl ⟨Nat.le_of_ble_eq_true rfl, Nat.le_of_ble_eq_true rfl⟩ (ci := 6) rfl rfl (k0 := 0) rfl rfl hl.1 rfl (Nat.le_of_ble_eq_true rfl) d_law_349 ⟨hc0, hs0⟩ hP hD hS hA [16, 17, 18, 19, 20, 21, 22, 23, 24, 25, 26, 27, 28, 29, 30, 31] [0, 1, 2, 3, 4, 5, 6, 7, 8, 9, 10, 11, 12, 13, 14, 15, 32] [0, 1, 2, 3, 4, 5, 6, 7, 8, 9, 10, 11, 12, 13, 14, 15, 17, 18, 19, 20, 21, 22, 23, 24, 25, 26, 27, 28, 29, 30, 31, 32, 16] rfl rfl (by decide) (by decide) rfl (by decide) (by decide) (fun H locs hP hD hS => ?_)
                      refine lv_icmp_eq (tgt := 1014) hx hb d_law_352 (by decide) (fun c_352 => ?_) (fun c_352 => ?_)
                      · have hM := itT hM c_352
                        refine lv_iinc (v := x4 + 5) (lv' := [(4, .int (x4 + 5)), (0, .ref b), (1, .ref qO), (2, .ref qM), (3, .ref qU)]) hx hb d_law_1014 hl (k := 4) rfl rfl (by decide) rfl (fun ls hl => ?_)
                        refine lv_goto (tgt := 23) hx hb d_law_1017 (by decide) ?_
                        refine W.widen (k := 1067 - n) (n := 10328 - 6 * n) (by omega) (by omega) ?_
                        exact ih (by omega) (x4 + 5) done brd_325 tup tdn askd answ tlen tpl tsg rlen rsz rsg psz pcd pld pct lpr lful ljn fsz fkd ffr fto e_thrown_349 e_signs e_rows e_parts e_done e_barred_349 e_pairs e_full e_up e_down e_proofs e_asked e_text e_read e_begins e_tried e_partCode e_partLand e_partCents e_joined e_proofKind e_proofFrom e_proofTo e_told e_live e_any e_all uout hM _ _ _ hP hD hS (lv_sub hl [1, 2, 3, 4, 0] rfl)
                      · have hM := itF hM c_352
                        refine lv_iconst (v := 0) hx hb d_law_355 (by decide) ?_
                        exact absurd hM (by simp)
                    · have hM := itF hM c_341
                      refine lv_iconst (v := 1) hx hb d_law_344 (by decide) ?_
                      refine lv_goto (tgt := 349) hx hb d_law_345 (by decide) ?_
                      obtain ⟨r_349, e_thrown_349, e_barred_349, hc_349, hM⟩ := bd3T hM
                      refine ca_V (As := [.int (xs (x4 + 1).toNatClampNeg), .int (bI true)]) (rest := [.int (bI r_325)]) (wr := [(qO, .inr (0, [.ref qT, .ref qR, .ref qP, .ref qL, .ref qF, .int done, .int brd_325, .int tup, .int tdn, .ref qOa, .int askd])), (qOa, .inl (cT 0, 149, .inl answ)), (qT, .inr (1, [.ref qTs, .int tlen, .int tpl])), (qTs, .inl (cT 2, 300, .inl tsg)), (qR, .inr (2, [.ref qRs, .int rlen, .int rsz])), (qRs, .inl (cT 2, 300, .inl rsg)), (qP, .inr (3, [.ref qPc, .ref qPl, .ref qPv, .int psz])), (qPc, .inl (cT 0, 12, .inl pcd)), (qPl, .inl (cT 0, 12, .inl pld)), (qPv, .inl (cT 1, 12, .inr (.inl pct))), (qL, .inr (4, [.ref qLj, .int lpr, .int (bI lful)])), (qLj, .inl (cT 0, 10, .inl ljn)), (qF, .inr (5, [.ref qFk, .ref qFf, .ref qFl, .int fsz])), (qFk, .inl (cT 0, 20, .inl fkd)), (qFf, .inl (cT 0, 20, .inl ffr)), (qFl, .inl (cT 0, 20, .inl fto)), (qU, .inl (cT 1, 1, .inr (.inl uout)))]) (w2 := [(qO, .inr (0, [.ref qT, .ref qR, .ref qP, .ref qL, .ref qF, .int done, .int brd_325, .int tup, .int tdn, .ref qOa, .int askd])), (qOa, .inl (cT 0, 149, .inl answ)), (qT, .inr (1, [.ref qTs, .int tlen, .int tpl])), (qTs, .inl (cT 2, 300, .inl tsg)), (qR, .inr (2, [.ref qRs, .int rlen, .int rsz])), (qRs, .inl (cT 2, 300, .inl rsg)), (qP, .inr (3, [.ref qPc, .ref qPl, .ref qPv, .int psz])), (qPc, .inl (cT 0, 12, .inl pcd)), (qPl, .inl (cT 0, 12, .inl pld)), (qPv, .inl (cT 1, 12, .inr (.inl pct))), (qL, .inr (4, [.ref qLj, .int lpr, .int (bI lful)])), (qLj, .inl (cT 0, 10, .inl ljn)), (qF, .inr (5, [.ref qFk, .ref qFf, .ref qFl, .int fsz])), (qFk, .inl (cT 0, 20, .inl fkd)), (qFf, .inl (cT 0, 20, .inl ffr)), (qFl, .inl (cT 0, 20, .inl fto)), (qM, .inr (6, [.int e_thrown_349, .ref qMtext, .int e_signs, .ref qMread, .ref qMbegins, .int e_rows, .ref qMtried, .int e_parts, .ref qMpartCode, .ref qMpartLand, .ref qMpartCents, .int e_done, .int e_barred_349, .ref qMjoined, .int e_pairs, .int (bI e_full), .int e_up, .int e_down, .int e_proofs, .ref qMproofKind, .ref qMproofFrom, .ref qMproofTo, .int e_asked, .ref qMtold, .ref qMlive, .ref qMany, .ref qMall])), (qMtext, .inl (cT 0, 300, .inl e_text)), (qMread, .inl (cT 0, 300, .inl e_read)), (qMbegins, .inl (cT 0, 21, .inl e_begins)), (qMtried, .inl (cT 0, 21, .inl e_tried)), (qMpartCode, .inl (cT 0, 12, .inl e_partCode)), (qMpartLand, .inl (cT 0, 12, .inl e_partLand)), (qMpartCents, .inl (cT 1, 12, .inr (.inl e_partCents))), (qMjoined, .inl (cT 3, 100, .inl e_joined)), (qMproofKind, .inl (cT 0, 20, .inl e_proofKind)), (qMproofFrom, .inl (cT 0, 20, .inl e_proofFrom)), (qMproofTo, .inl (cT 0, 20, .inl e_proofTo)), (qMtold, .inl (cT 0, 300, .inl e_told)), (qMlive, .inl (cT 3, 9, .inl e_live)), (qMany, .inl (cT 3, 9, .inl e_any)), (qMall, .inl (cT 3, 9, .inl e_all)), (qU, .inl (cT 1, 1, .inr (.inl uout)))]) S hE (c_Md_bar l D cT qM qMtext qMread qMbegins qMtried qMpartCode qMpartLand qMpartCents qMjoined qMproofKind qMproofFrom qMproofTo qMtold qMlive qMany qMall e_thrown e_signs e_rows e_parts e_done e_barred e_pairs e_full e_up e_down e_proofs e_asked e_text e_read e_begins e_tried e_partCode e_partLand e_partCents e_joined e_proofKind e_proofFrom e_proofTo e_told e_live e_any e_all (xs (x4 + 1).toNatClampNeg) true hc_349) gw_0722ebad rfl rfl ⟨Nat.le_of_ble_eq_true rfl, Nat.le_of_ble_eq_true rfl⟩ (ci := 6) rfl rfl (k0 := 0) rfl rfl hl.1 rfl (Nat.le_of_ble_eq_true rfl) d_law_349 ⟨hc0, hs0⟩ hP hD hS hA [16, 17, 18, 19, 20, 21, 22, 23, 24, 25, 26, 27, 28, 29, 30, 31] [0, 1, 2, 3, 4, 5, 6, 7, 8, 9, 10, 11, 12, 13, 14, 15, 32] [0, 1, 2, 3, 4, 5, 6, 7, 8, 9, 10, 11, 12, 13, 14, 15, 17, 18, 19, 20, 21, 22, 23, 24, 25, 26, 27, 28, 29, 30, 31, 32, 16] rfl rfl (by decide) (by decide) rfl (by decide) (by decide) (fun H locs hP hD hS => ?_)
                      refine lv_icmp_eq (tgt := 1014) hx hb d_law_352 (by decide) (fun c_352 => ?_) (fun c_352 => ?_)
                      · have hM := itT hM c_352
                        refine lv_iinc (v := x4 + 5) (lv' := [(4, .int (x4 + 5)), (0, .ref b), (1, .ref qO), (2, .ref qM), (3, .ref qU)]) hx hb d_law_1014 hl (k := 4) rfl rfl (by decide) rfl (fun ls hl => ?_)
                        refine lv_goto (tgt := 23) hx hb d_law_1017 (by decide) ?_
                        refine W.widen (k := 1067 - n) (n := 10328 - 6 * n) (by omega) (by omega) ?_
                        exact ih (by omega) (x4 + 5) done brd_325 tup tdn askd answ tlen tpl tsg rlen rsz rsg psz pcd pld pct lpr lful ljn fsz fkd ffr fto e_thrown_349 e_signs e_rows e_parts e_done e_barred_349 e_pairs e_full e_up e_down e_proofs e_asked e_text e_read e_begins e_tried e_partCode e_partLand e_partCents e_joined e_proofKind e_proofFrom e_proofTo e_told e_live e_any e_all uout hM _ _ _ hP hD hS (lv_sub hl [1, 2, 3, 4, 0] rfl)
                      · have hM := itF hM c_352
                        refine lv_iconst (v := 0) hx hb d_law_355 (by decide) ?_
                        exact absurd hM (by simp)
                  · have hM := itF hM c_317
                    refine lv_iconst (v := 1) hx hb d_law_320 (by decide) ?_
                    refine lv_goto (tgt := 325) hx hb d_law_321 (by decide) ?_
                    obtain ⟨r_325, brd_325, hc_325, hM⟩ := bd2T hM
                    refine ca_V (As := [.int (xs (x4 + 1).toNatClampNeg), .int (bI true)]) (rest := []) (wr := [(qM, .inr (6, [.int e_thrown, .ref qMtext, .int e_signs, .ref qMread, .ref qMbegins, .int e_rows, .ref qMtried, .int e_parts, .ref qMpartCode, .ref qMpartLand, .ref qMpartCents, .int e_done, .int e_barred, .ref qMjoined, .int e_pairs, .int (bI e_full), .int e_up, .int e_down, .int e_proofs, .ref qMproofKind, .ref qMproofFrom, .ref qMproofTo, .int e_asked, .ref qMtold, .ref qMlive, .ref qMany, .ref qMall])), (qMtext, .inl (cT 0, 300, .inl e_text)), (qMread, .inl (cT 0, 300, .inl e_read)), (qMbegins, .inl (cT 0, 21, .inl e_begins)), (qMtried, .inl (cT 0, 21, .inl e_tried)), (qMpartCode, .inl (cT 0, 12, .inl e_partCode)), (qMpartLand, .inl (cT 0, 12, .inl e_partLand)), (qMpartCents, .inl (cT 1, 12, .inr (.inl e_partCents))), (qMjoined, .inl (cT 3, 100, .inl e_joined)), (qMproofKind, .inl (cT 0, 20, .inl e_proofKind)), (qMproofFrom, .inl (cT 0, 20, .inl e_proofFrom)), (qMproofTo, .inl (cT 0, 20, .inl e_proofTo)), (qMtold, .inl (cT 0, 300, .inl e_told)), (qMlive, .inl (cT 3, 9, .inl e_live)), (qMany, .inl (cT 3, 9, .inl e_any)), (qMall, .inl (cT 3, 9, .inl e_all)), (qU, .inl (cT 1, 1, .inr (.inl uout)))]) (w2 := [(qO, .inr (0, [.ref qT, .ref qR, .ref qP, .ref qL, .ref qF, .int done, .int brd_325, .int tup, .int tdn, .ref qOa, .int askd])), (qOa, .inl (cT 0, 149, .inl answ)), (qT, .inr (1, [.ref qTs, .int tlen, .int tpl])), (qTs, .inl (cT 2, 300, .inl tsg)), (qR, .inr (2, [.ref qRs, .int rlen, .int rsz])), (qRs, .inl (cT 2, 300, .inl rsg)), (qP, .inr (3, [.ref qPc, .ref qPl, .ref qPv, .int psz])), (qPc, .inl (cT 0, 12, .inl pcd)), (qPl, .inl (cT 0, 12, .inl pld)), (qPv, .inl (cT 1, 12, .inr (.inl pct))), (qL, .inr (4, [.ref qLj, .int lpr, .int (bI lful)])), (qLj, .inl (cT 0, 10, .inl ljn)), (qF, .inr (5, [.ref qFk, .ref qFf, .ref qFl, .int fsz])), (qFk, .inl (cT 0, 20, .inl fkd)), (qFf, .inl (cT 0, 20, .inl ffr)), (qFl, .inl (cT 0, 20, .inl fto)), (qM, .inr (6, [.int e_thrown, .ref qMtext, .int e_signs, .ref qMread, .ref qMbegins, .int e_rows, .ref qMtried, .int e_parts, .ref qMpartCode, .ref qMpartLand, .ref qMpartCents, .int e_done, .int e_barred, .ref qMjoined, .int e_pairs, .int (bI e_full), .int e_up, .int e_down, .int e_proofs, .ref qMproofKind, .ref qMproofFrom, .ref qMproofTo, .int e_asked, .ref qMtold, .ref qMlive, .ref qMany, .ref qMall])), (qMtext, .inl (cT 0, 300, .inl e_text)), (qMread, .inl (cT 0, 300, .inl e_read)), (qMbegins, .inl (cT 0, 21, .inl e_begins)), (qMtried, .inl (cT 0, 21, .inl e_tried)), (qMpartCode, .inl (cT 0, 12, .inl e_partCode)), (qMpartLand, .inl (cT 0, 12, .inl e_partLand)), (qMpartCents, .inl (cT 1, 12, .inr (.inl e_partCents))), (qMjoined, .inl (cT 3, 100, .inl e_joined)), (qMproofKind, .inl (cT 0, 20, .inl e_proofKind)), (qMproofFrom, .inl (cT 0, 20, .inl e_proofFrom)), (qMproofTo, .inl (cT 0, 20, .inl e_proofTo)), (qMtold, .inl (cT 0, 300, .inl e_told)), (qMlive, .inl (cT 3, 9, .inl e_live)), (qMany, .inl (cT 3, 9, .inl e_any)), (qMall, .inl (cT 3, 9, .inl e_all)), (qU, .inl (cT 1, 1, .inr (.inl uout)))]) S hE (c_Or_bar l D cT qO qOa qT qTs qR qRs qP qPc qPl qPv qL qLj qF qFk qFf qFl done brd tup tdn askd answ tlen tpl tsg rlen rsz rsg psz pcd pld pct lpr lful ljn fsz fkd ffr fto (xs (x4 + 1).toNatClampNeg) true hc_325) gw_4788a7b4 rfl rfl ⟨Nat.le_of_ble_eq_true rfl, Nat.le_of_ble_eq_true rfl⟩ (ci := 0) rfl rfl (k0 := 0) rfl rfl hl.1 rfl (Nat.le_of_ble_eq_true rfl) d_law_325 ⟨hc0, hs0⟩ hP hD hS hA [0, 1, 2, 3, 4, 5, 6, 7, 8, 9, 10, 11, 12, 13, 14, 15] [16, 17, 18, 19, 20, 21, 22, 23, 24, 25, 26, 27, 28, 29, 30, 31, 32] [17, 18, 19, 20, 21, 22, 23, 24, 25, 26, 27, 28, 29, 30, 31, 32, 0, 1, 2, 3, 4, 5, 6, 7, 8, 9, 10, 11, 12, 13, 14, 15, 16] rfl rfl (by decide) (by decide) rfl (by decide) (by decide) (fun H locs hP hD hS => ?_)
                    refine lv_aload_n hx hb d_law_328 rfl (lv_at hl 2 rfl) ?_
                    refine lv_aload_n hx hb d_law_329 rfl (lv_at hl 0 rfl) ?_
                    refine lv_iload hx hb d_law_330 (lv_at hl 4 rfl) ?_
                    refine lv_iconst (v := 1) hx hb d_law_332 (by decide) ?_
                    refine lv_iadd hx hb d_law_333 ?_
                    obtain ⟨hin_334, hM⟩ := ixT hM
                    refine va_sld hx hb hX hbl hbA hS hin_334 d_law_334 ?_
                    refine lv_aload_n hx hb d_law_335 rfl (lv_at hl 0 rfl) ?_
                    refine lv_iload hx hb d_law_336 (lv_at hl 4 rfl) ?_
                    refine lv_iconst (v := 2) hx hb d_law_338 (by decide) ?_
                    refine lv_iadd hx hb d_law_339 ?_
                    obtain ⟨hin_340, hM⟩ := ixT hM
                    refine va_sld hx hb hX hbl hbA hS hin_340 d_law_340 ?_
                    refine lv_if_eq (tgt := 348) hx hb d_law_341 (by decide) (fun c_341 => ?_) (fun c_341 => ?_)
                    · have hM := itT hM c_341
                      refine lv_iconst (v := 0) hx hb d_law_348 (by decide) ?_
                      obtain ⟨r_349, e_thrown_349, e_barred_349, hc_349, hM⟩ := bd3T hM
                      refine ca_V (As := [.int (xs (x4 + 1).toNatClampNeg), .int (bI false)]) (rest := [.int (bI r_325)]) (wr := [(qO, .inr (0, [.ref qT, .ref qR, .ref qP, .ref qL, .ref qF, .int done, .int brd_325, .int tup, .int tdn, .ref qOa, .int askd])), (qOa, .inl (cT 0, 149, .inl answ)), (qT, .inr (1, [.ref qTs, .int tlen, .int tpl])), (qTs, .inl (cT 2, 300, .inl tsg)), (qR, .inr (2, [.ref qRs, .int rlen, .int rsz])), (qRs, .inl (cT 2, 300, .inl rsg)), (qP, .inr (3, [.ref qPc, .ref qPl, .ref qPv, .int psz])), (qPc, .inl (cT 0, 12, .inl pcd)), (qPl, .inl (cT 0, 12, .inl pld)), (qPv, .inl (cT 1, 12, .inr (.inl pct))), (qL, .inr (4, [.ref qLj, .int lpr, .int (bI lful)])), (qLj, .inl (cT 0, 10, .inl ljn)), (qF, .inr (5, [.ref qFk, .ref qFf, .ref qFl, .int fsz])), (qFk, .inl (cT 0, 20, .inl fkd)), (qFf, .inl (cT 0, 20, .inl ffr)), (qFl, .inl (cT 0, 20, .inl fto)), (qU, .inl (cT 1, 1, .inr (.inl uout)))]) (w2 := [(qO, .inr (0, [.ref qT, .ref qR, .ref qP, .ref qL, .ref qF, .int done, .int brd_325, .int tup, .int tdn, .ref qOa, .int askd])), (qOa, .inl (cT 0, 149, .inl answ)), (qT, .inr (1, [.ref qTs, .int tlen, .int tpl])), (qTs, .inl (cT 2, 300, .inl tsg)), (qR, .inr (2, [.ref qRs, .int rlen, .int rsz])), (qRs, .inl (cT 2, 300, .inl rsg)), (qP, .inr (3, [.ref qPc, .ref qPl, .ref qPv, .int psz])), (qPc, .inl (cT 0, 12, .inl pcd)), (qPl, .inl (cT 0, 12, .inl pld)), (qPv, .inl (cT 1, 12, .inr (.inl pct))), (qL, .inr (4, [.ref qLj, .int lpr, .int (bI lful)])), (qLj, .inl (cT 0, 10, .inl ljn)), (qF, .inr (5, [.ref qFk, .ref qFf, .ref qFl, .int fsz])), (qFk, .inl (cT 0, 20, .inl fkd)), (qFf, .inl (cT 0, 20, .inl ffr)), (qFl, .inl (cT 0, 20, .inl fto)), (qM, .inr (6, [.int e_thrown_349, .ref qMtext, .int e_signs, .ref qMread, .ref qMbegins, .int e_rows, .ref qMtried, .int e_parts, .ref qMpartCode, .ref qMpartLand, .ref qMpartCents, .int e_done, .int e_barred_349, .ref qMjoined, .int e_pairs, .int (bI e_full), .int e_up, .int e_down, .int e_proofs, .ref qMproofKind, .ref qMproofFrom, .ref qMproofTo, .int e_asked, .ref qMtold, .ref qMlive, .ref qMany, .ref qMall])), (qMtext, .inl (cT 0, 300, .inl e_text)), (qMread, .inl (cT 0, 300, .inl e_read)), (qMbegins, .inl (cT 0, 21, .inl e_begins)), (qMtried, .inl (cT 0, 21, .inl e_tried)), (qMpartCode, .inl (cT 0, 12, .inl e_partCode)), (qMpartLand, .inl (cT 0, 12, .inl e_partLand)), (qMpartCents, .inl (cT 1, 12, .inr (.inl e_partCents))), (qMjoined, .inl (cT 3, 100, .inl e_joined)), (qMproofKind, .inl (cT 0, 20, .inl e_proofKind)), (qMproofFrom, .inl (cT 0, 20, .inl e_proofFrom)), (qMproofTo, .inl (cT 0, 20, .inl e_proofTo)), (qMtold, .inl (cT 0, 300, .inl e_told)), (qMlive, .inl (cT 3, 9, .inl e_live)), (qMany, .inl (cT 3, 9, .inl e_any)), (qMall, .inl (cT 3, 9, .inl e_all)), (qU, .inl (cT 1, 1, .inr (.inl uout)))]) S hE (c_Md_bar l D cT qM qMtext qMread qMbegins qMtried qMpartCode qMpartLand qMpartCents qMjoined qMproofKind qMproofFrom qMproofTo qMtold qMlive qMany qMall e_thrown e_signs e_rows e_parts e_done e_barred e_pairs e_full e_up e_down e_proofs e_asked e_text e_read e_begins e_tried e_partCode e_partLand e_partCents e_joined e_proofKind e_proofFrom e_proofTo e_told e_live e_any e_all (xs (x4 + 1).toNatClampNeg) false hc_349) gw_0722ebad rfl rfl ⟨Nat.le_of_ble_eq_true rfl, Nat.le_of_ble_eq_true rfl⟩ (ci := 6) rfl rfl (k0 := 0) rfl rfl hl.1 rfl (Nat.le_of_ble_eq_true rfl) d_law_349 ⟨hc0, hs0⟩ hP hD hS hA [16, 17, 18, 19, 20, 21, 22, 23, 24, 25, 26, 27, 28, 29, 30, 31] [0, 1, 2, 3, 4, 5, 6, 7, 8, 9, 10, 11, 12, 13, 14, 15, 32] [0, 1, 2, 3, 4, 5, 6, 7, 8, 9, 10, 11, 12, 13, 14, 15, 17, 18, 19, 20, 21, 22, 23, 24, 25, 26, 27, 28, 29, 30, 31, 32, 16] rfl rfl (by decide) (by decide) rfl (by decide) (by decide) (fun H locs hP hD hS => ?_)
                      refine lv_icmp_eq (tgt := 1014) hx hb d_law_352 (by decide) (fun c_352 => ?_) (fun c_352 => ?_)
                      · have hM := itT hM c_352
                        refine lv_iinc (v := x4 + 5) (lv' := [(4, .int (x4 + 5)), (0, .ref b), (1, .ref qO), (2, .ref qM), (3, .ref qU)]) hx hb d_law_1014 hl (k := 4) rfl rfl (by decide) rfl (fun ls hl => ?_)
                        refine lv_goto (tgt := 23) hx hb d_law_1017 (by decide) ?_
                        refine W.widen (k := 1067 - n) (n := 10328 - 6 * n) (by omega) (by omega) ?_
                        exact ih (by omega) (x4 + 5) done brd_325 tup tdn askd answ tlen tpl tsg rlen rsz rsg psz pcd pld pct lpr lful ljn fsz fkd ffr fto e_thrown_349 e_signs e_rows e_parts e_done e_barred_349 e_pairs e_full e_up e_down e_proofs e_asked e_text e_read e_begins e_tried e_partCode e_partLand e_partCents e_joined e_proofKind e_proofFrom e_proofTo e_told e_live e_any e_all uout hM _ _ _ hP hD hS (lv_sub hl [1, 2, 3, 4, 0] rfl)
                      · have hM := itF hM c_352
                        refine lv_iconst (v := 0) hx hb d_law_355 (by decide) ?_
                        exact absurd hM (by simp)
                    · have hM := itF hM c_341
                      refine lv_iconst (v := 1) hx hb d_law_344 (by decide) ?_
                      refine lv_goto (tgt := 349) hx hb d_law_345 (by decide) ?_
                      obtain ⟨r_349, e_thrown_349, e_barred_349, hc_349, hM⟩ := bd3T hM
                      refine ca_V (As := [.int (xs (x4 + 1).toNatClampNeg), .int (bI true)]) (rest := [.int (bI r_325)]) (wr := [(qO, .inr (0, [.ref qT, .ref qR, .ref qP, .ref qL, .ref qF, .int done, .int brd_325, .int tup, .int tdn, .ref qOa, .int askd])), (qOa, .inl (cT 0, 149, .inl answ)), (qT, .inr (1, [.ref qTs, .int tlen, .int tpl])), (qTs, .inl (cT 2, 300, .inl tsg)), (qR, .inr (2, [.ref qRs, .int rlen, .int rsz])), (qRs, .inl (cT 2, 300, .inl rsg)), (qP, .inr (3, [.ref qPc, .ref qPl, .ref qPv, .int psz])), (qPc, .inl (cT 0, 12, .inl pcd)), (qPl, .inl (cT 0, 12, .inl pld)), (qPv, .inl (cT 1, 12, .inr (.inl pct))), (qL, .inr (4, [.ref qLj, .int lpr, .int (bI lful)])), (qLj, .inl (cT 0, 10, .inl ljn)), (qF, .inr (5, [.ref qFk, .ref qFf, .ref qFl, .int fsz])), (qFk, .inl (cT 0, 20, .inl fkd)), (qFf, .inl (cT 0, 20, .inl ffr)), (qFl, .inl (cT 0, 20, .inl fto)), (qU, .inl (cT 1, 1, .inr (.inl uout)))]) (w2 := [(qO, .inr (0, [.ref qT, .ref qR, .ref qP, .ref qL, .ref qF, .int done, .int brd_325, .int tup, .int tdn, .ref qOa, .int askd])), (qOa, .inl (cT 0, 149, .inl answ)), (qT, .inr (1, [.ref qTs, .int tlen, .int tpl])), (qTs, .inl (cT 2, 300, .inl tsg)), (qR, .inr (2, [.ref qRs, .int rlen, .int rsz])), (qRs, .inl (cT 2, 300, .inl rsg)), (qP, .inr (3, [.ref qPc, .ref qPl, .ref qPv, .int psz])), (qPc, .inl (cT 0, 12, .inl pcd)), (qPl, .inl (cT 0, 12, .inl pld)), (qPv, .inl (cT 1, 12, .inr (.inl pct))), (qL, .inr (4, [.ref qLj, .int lpr, .int (bI lful)])), (qLj, .inl (cT 0, 10, .inl ljn)), (qF, .inr (5, [.ref qFk, .ref qFf, .ref qFl, .int fsz])), (qFk, .inl (cT 0, 20, .inl fkd)), (qFf, .inl (cT 0, 20, .inl ffr)), (qFl, .inl (cT 0, 20, .inl fto)), (qM, .inr (6, [.int e_thrown_349, .ref qMtext, .int e_signs, .ref qMread, .ref qMbegins, .int e_rows, .ref qMtried, .int e_parts, .ref qMpartCode, .ref qMpartLand, .ref qMpartCents, .int e_done, .int e_barred_349, .ref qMjoined, .int e_pairs, .int (bI e_full), .int e_up, .int e_down, .int e_proofs, .ref qMproofKind, .ref qMproofFrom, .ref qMproofTo, .int e_asked, .ref qMtold, .ref qMlive, .ref qMany, .ref qMall])), (qMtext, .inl (cT 0, 300, .inl e_text)), (qMread, .inl (cT 0, 300, .inl e_read)), (qMbegins, .inl (cT 0, 21, .inl e_begins)), (qMtried, .inl (cT 0, 21, .inl e_tried)), (qMpartCode, .inl (cT 0, 12, .inl e_partCode)), (qMpartLand, .inl (cT 0, 12, .inl e_partLand)), (qMpartCents, .inl (cT 1, 12, .inr (.inl e_partCents))), (qMjoined, .inl (cT 3, 100, .inl e_joined)), (qMproofKind, .inl (cT 0, 20, .inl e_proofKind)), (qMproofFrom, .inl (cT 0, 20, .inl e_proofFrom)), (qMproofTo, .inl (cT 0, 20, .inl e_proofTo)), (qMtold, .inl (cT 0, 300, .inl e_told)), (qMlive, .inl (cT 3, 9, .inl e_live)), (qMany, .inl (cT 3, 9, .inl e_any)), (qMall, .inl (cT 3, 9, .inl e_all)), (qU, .inl (cT 1, 1, .inr (.inl uout)))]) S hE (c_Md_bar l D cT qM qMtext qMread qMbegins qMtried qMpartCode qMpartLand qMpartCents qMjoined qMproofKind qMproofFrom qMproofTo qMtold qMlive qMany qMall e_thrown e_signs e_rows e_parts e_done e_barred e_pairs e_full e_up e_down e_proofs e_asked e_text e_read e_begins e_tried e_partCode e_partLand e_partCents e_joined e_proofKind e_proofFrom e_proofTo e_told e_live e_any e_all (xs (x4 + 1).toNatClampNeg) true hc_349) gw_0722ebad rfl rfl ⟨Nat.le_of_ble_eq_true rfl, Nat.le_of_ble_eq_true rfl⟩ (ci := 6) rfl rfl (k0 := 0) rfl rfl hl.1 rfl (Nat.le_of_ble_eq_true rfl) d_law_349 ⟨hc0, hs0⟩ hP hD hS hA [16, 17, 18, 19, 20, 21, 22, 23, 24, 25, 26, 27, 28, 29, 30, 31] [0, 1, 2, 3, 4, 5, 6, 7, 8, 9, 10, 11, 12, 13, 14, 15, 32] [0, 1, 2, 3, 4, 5, 6, 7, 8, 9, 10, 11, 12, 13, 14, 15, 17, 18, 19, 20, 21, 22, 23, 24, 25, 26, 27, 28, 29, 30, 31, 32, 16] rfl rfl (by decide) (by decide) rfl (by decide) (by decide) (fun H locs hP hD hS => ?_)
                      refine lv_icmp_eq (tgt := 1014) hx hb d_law_352 (by decide) (fun c_352 => ?_) (fun c_352 => ?_)
                      · have hM := itT hM c_352
                        refine lv_iinc (v := x4 + 5) (lv' := [(4, .int (x4 + 5)), (0, .ref b), (1, .ref qO), (2, .ref qM), (3, .ref qU)]) hx hb d_law_1014 hl (k := 4) rfl rfl (by decide) rfl (fun ls hl => ?_)
                        refine lv_goto (tgt := 23) hx hb d_law_1017 (by decide) ?_
                        refine W.widen (k := 1067 - n) (n := 10328 - 6 * n) (by omega) (by omega) ?_
                        exact ih (by omega) (x4 + 5) done brd_325 tup tdn askd answ tlen tpl tsg rlen rsz rsg psz pcd pld pct lpr lful ljn fsz fkd ffr fto e_thrown_349 e_signs e_rows e_parts e_done e_barred_349 e_pairs e_full e_up e_down e_proofs e_asked e_text e_read e_begins e_tried e_partCode e_partLand e_partCents e_joined e_proofKind e_proofFrom e_proofTo e_told e_live e_any e_all uout hM _ _ _ hP hD hS (lv_sub hl [1, 2, 3, 4, 0] rfl)
                      · have hM := itF hM c_352
                        refine lv_iconst (v := 0) hx hb d_law_355 (by decide) ?_
                        exact absurd hM (by simp)
                · have hM := itF hM c_39_5
                  by_cases c_39_6 : ((xs x4.toNatClampNeg) &&& 15) = 6
                  · have hM := itT hM c_39_6
                    refine lv_tableIn (tgt := 357) hx hb d_law_39 (by rw [c_39_6]; decide) (by rw [c_39_6]; decide) (by rw [c_39_6]; rfl) (by decide) ?_
                    refine lv_aload_n hx hb d_law_357 rfl (lv_at hl 1 rfl) ?_
                    refine lv_aload_n hx hb d_law_358 rfl (lv_at hl 0 rfl) ?_
                    refine lv_iload hx hb d_law_359 (lv_at hl 4 rfl) ?_
                    refine lv_iconst (v := 1) hx hb d_law_361 (by decide) ?_
                    refine lv_iadd hx hb d_law_362 ?_
                    obtain ⟨hin_363, hM⟩ := ixT hM
                    refine va_sld hx hb hX hbl hbA hS hin_363 d_law_363 ?_
                    refine lv_aload_n hx hb d_law_364 rfl (lv_at hl 0 rfl) ?_
                    refine lv_iload hx hb d_law_365 (lv_at hl 4 rfl) ?_
                    refine lv_iconst (v := 2) hx hb d_law_367 (by decide) ?_
                    refine lv_iadd hx hb d_law_368 ?_
                    obtain ⟨hin_369, hM⟩ := ixT hM
                    refine va_sld hx hb hX hbl hbA hS hin_369 d_law_369 ?_
                    refine lv_aload_n hx hb d_law_370 rfl (lv_at hl 3 rfl) ?_
                    obtain ⟨r_371, lpr_371, ljn_371, uout_371, hc_371, hM⟩ := bd4T hM
                    refine cl_H (As := [.ref qO, .int (xs (x4 + 1).toNatClampNeg), .int (xs (x4 + 2).toNatClampNeg), .ref qU]) (rest := []) (wr := [(qM, .inr (6, [.int e_thrown, .ref qMtext, .int e_signs, .ref qMread, .ref qMbegins, .int e_rows, .ref qMtried, .int e_parts, .ref qMpartCode, .ref qMpartLand, .ref qMpartCents, .int e_done, .int e_barred, .ref qMjoined, .int e_pairs, .int (bI e_full), .int e_up, .int e_down, .int e_proofs, .ref qMproofKind, .ref qMproofFrom, .ref qMproofTo, .int e_asked, .ref qMtold, .ref qMlive, .ref qMany, .ref qMall])), (qMtext, .inl (cT 0, 300, .inl e_text)), (qMread, .inl (cT 0, 300, .inl e_read)), (qMbegins, .inl (cT 0, 21, .inl e_begins)), (qMtried, .inl (cT 0, 21, .inl e_tried)), (qMpartCode, .inl (cT 0, 12, .inl e_partCode)), (qMpartLand, .inl (cT 0, 12, .inl e_partLand)), (qMpartCents, .inl (cT 1, 12, .inr (.inl e_partCents))), (qMjoined, .inl (cT 3, 100, .inl e_joined)), (qMproofKind, .inl (cT 0, 20, .inl e_proofKind)), (qMproofFrom, .inl (cT 0, 20, .inl e_proofFrom)), (qMproofTo, .inl (cT 0, 20, .inl e_proofTo)), (qMtold, .inl (cT 0, 300, .inl e_told)), (qMlive, .inl (cT 3, 9, .inl e_live)), (qMany, .inl (cT 3, 9, .inl e_any)), (qMall, .inl (cT 3, 9, .inl e_all))]) (w2 := [(qO, .inr (0, [.ref qT, .ref qR, .ref qP, .ref qL, .ref qF, .int done, .int brd, .int tup, .int tdn, .ref qOa, .int askd])), (qOa, .inl (cT 0, 149, .inl answ)), (qT, .inr (1, [.ref qTs, .int tlen, .int tpl])), (qTs, .inl (cT 2, 300, .inl tsg)), (qR, .inr (2, [.ref qRs, .int rlen, .int rsz])), (qRs, .inl (cT 2, 300, .inl rsg)), (qP, .inr (3, [.ref qPc, .ref qPl, .ref qPv, .int psz])), (qPc, .inl (cT 0, 12, .inl pcd)), (qPl, .inl (cT 0, 12, .inl pld)), (qPv, .inl (cT 1, 12, .inr (.inl pct))), (qL, .inr (4, [.ref qLj, .int lpr_371, .int (bI lful)])), (qLj, .inl (cT 0, 10, .inl ljn_371)), (qF, .inr (5, [.ref qFk, .ref qFf, .ref qFl, .int fsz])), (qFk, .inl (cT 0, 20, .inl fkd)), (qFf, .inl (cT 0, 20, .inl ffr)), (qFl, .inl (cT 0, 20, .inl fto)), (qM, .inr (6, [.int e_thrown, .ref qMtext, .int e_signs, .ref qMread, .ref qMbegins, .int e_rows, .ref qMtried, .int e_parts, .ref qMpartCode, .ref qMpartLand, .ref qMpartCents, .int e_done, .int e_barred, .ref qMjoined, .int e_pairs, .int (bI e_full), .int e_up, .int e_down, .int e_proofs, .ref qMproofKind, .ref qMproofFrom, .ref qMproofTo, .int e_asked, .ref qMtold, .ref qMlive, .ref qMany, .ref qMall])), (qMtext, .inl (cT 0, 300, .inl e_text)), (qMread, .inl (cT 0, 300, .inl e_read)), (qMbegins, .inl (cT 0, 21, .inl e_begins)), (qMtried, .inl (cT 0, 21, .inl e_tried)), (qMpartCode, .inl (cT 0, 12, .inl e_partCode)), (qMpartLand, .inl (cT 0, 12, .inl e_partLand)), (qMpartCents, .inl (cT 1, 12, .inr (.inl e_partCents))), (qMjoined, .inl (cT 3, 100, .inl e_joined)), (qMproofKind, .inl (cT 0, 20, .inl e_proofKind)), (qMproofFrom, .inl (cT 0, 20, .inl e_proofFrom)), (qMproofTo, .inl (cT 0, 20, .inl e_proofTo)), (qMtold, .inl (cT 0, 300, .inl e_told)), (qMlive, .inl (cT 3, 9, .inl e_live)), (qMany, .inl (cT 3, 9, .inl e_any)), (qMall, .inl (cT 3, 9, .inl e_all)), (qU, .inl (cT 1, 1, .inr (.inl uout_371)))]) S hE hTE hNc (c_Law_join l hl0 D cT qO qOa qT qTs qR qRs qP qPc qPl qPv qL qLj qF qFk qFf qFl qU done brd tup tdn askd answ tlen tpl tsg rlen rsz rsg psz pcd pld pct lpr lful ljn fsz fkd ffr fto uout (xs (x4 + 1).toNatClampNeg) (xs (x4 + 2).toNatClampNeg) hc_371) gw_c76b6aa7 rfl rfl ⟨Nat.le_of_ble_eq_true rfl, Nat.le_of_ble_eq_true rfl⟩ rfl hl.1 rfl (Nat.le_of_ble_eq_true rfl) d_law_371 ⟨hc1, hs1⟩ hP hD hS hA [0, 1, 2, 3, 4, 5, 6, 7, 8, 9, 10, 11, 12, 13, 14, 15, 32] [16, 17, 18, 19, 20, 21, 22, 23, 24, 25, 26, 27, 28, 29, 30, 31] [16, 17, 18, 19, 20, 21, 22, 23, 24, 25, 26, 27, 28, 29, 30, 31, 0, 1, 2, 3, 4, 5, 6, 7, 8, 9, 10, 11, 12, 13, 14, 15, 32] rfl rfl (by decide) (by decide) rfl (by decide) (by decide) (fun H locs hP hD hS => ?_)
                    refine lv_istore (lv' := [(5, .int r_371), (0, .ref b), (1, .ref qO), (2, .ref qM), (3, .ref qU), (4, .int x4)]) hx hb d_law_374 hl (by decide) rfl (fun ls hl => ?_)
                    refine lv_aload_n hx hb d_law_376 rfl (lv_at hl 3 rfl) ?_
                    refine lv_aload_n hx hb d_law_377 rfl (lv_at hl 1 rfl) ?_
                    refine lv_iload hx hb d_law_378 (lv_at hl 5 rfl) ?_
                    refine lv_iconst (v := 1) hx hb d_law_380 (by decide) ?_
                    refine lv_iadd hx hb d_law_381 ?_
                    obtain ⟨hin_382, hM⟩ := ixT hM
                    refine va_sld hx hb hX hbl hbA hS hin_382 d_law_382 ?_
                    refine lv_aload_n hx hb d_law_383 rfl (lv_at hl 1 rfl) ?_
                    refine lv_iload hx hb d_law_384 (lv_at hl 5 rfl) ?_
                    refine lv_iconst (v := 2) hx hb d_law_386 (by decide) ?_
                    refine lv_iadd hx hb d_law_387 ?_
                    obtain ⟨hin_388, hM⟩ := ixT hM
                    refine va_sld hx hb hX hbl hbA hS hin_388 d_law_388 ?_
                    obtain ⟨r_389, e_thrown_389, e_pairs_389, e_joined_389, hc_389, hM⟩ := bd4T hM
                    refine ca_V (As := [.int (xs (x4 + 1).toNatClampNeg), .int (xs (x4 + 2).toNatClampNeg)]) (rest := []) (wr := [(qO, .inr (0, [.ref qT, .ref qR, .ref qP, .ref qL, .ref qF, .int done, .int brd, .int tup, .int tdn, .ref qOa, .int askd])), (qOa, .inl (cT 0, 149, .inl answ)), (qT, .inr (1, [.ref qTs, .int tlen, .int tpl])), (qTs, .inl (cT 2, 300, .inl tsg)), (qR, .inr (2, [.ref qRs, .int rlen, .int rsz])), (qRs, .inl (cT 2, 300, .inl rsg)), (qP, .inr (3, [.ref qPc, .ref qPl, .ref qPv, .int psz])), (qPc, .inl (cT 0, 12, .inl pcd)), (qPl, .inl (cT 0, 12, .inl pld)), (qPv, .inl (cT 1, 12, .inr (.inl pct))), (qL, .inr (4, [.ref qLj, .int lpr_371, .int (bI lful)])), (qLj, .inl (cT 0, 10, .inl ljn_371)), (qF, .inr (5, [.ref qFk, .ref qFf, .ref qFl, .int fsz])), (qFk, .inl (cT 0, 20, .inl fkd)), (qFf, .inl (cT 0, 20, .inl ffr)), (qFl, .inl (cT 0, 20, .inl fto)), (qU, .inl (cT 1, 1, .inr (.inl uout_371)))]) (w2 := [(qO, .inr (0, [.ref qT, .ref qR, .ref qP, .ref qL, .ref qF, .int done, .int brd, .int tup, .int tdn, .ref qOa, .int askd])), (qOa, .inl (cT 0, 149, .inl answ)), (qT, .inr (1, [.ref qTs, .int tlen, .int tpl])), (qTs, .inl (cT 2, 300, .inl tsg)), (qR, .inr (2, [.ref qRs, .int rlen, .int rsz])), (qRs, .inl (cT 2, 300, .inl rsg)), (qP, .inr (3, [.ref qPc, .ref qPl, .ref qPv, .int psz])), (qPc, .inl (cT 0, 12, .inl pcd)), (qPl, .inl (cT 0, 12, .inl pld)), (qPv, .inl (cT 1, 12, .inr (.inl pct))), (qL, .inr (4, [.ref qLj, .int lpr_371, .int (bI lful)])), (qLj, .inl (cT 0, 10, .inl ljn_371)), (qF, .inr (5, [.ref qFk, .ref qFf, .ref qFl, .int fsz])), (qFk, .inl (cT 0, 20, .inl fkd)), (qFf, .inl (cT 0, 20, .inl ffr)), (qFl, .inl (cT 0, 20, .inl fto)), (qM, .inr (6, [.int e_thrown_389, .ref qMtext, .int e_signs, .ref qMread, .ref qMbegins, .int e_rows, .ref qMtried, .int e_parts, .ref qMpartCode, .ref qMpartLand, .ref qMpartCents, .int e_done, .int e_barred, .ref qMjoined, .int e_pairs_389, .int (bI e_full), .int e_up, .int e_down, .int e_proofs, .ref qMproofKind, .ref qMproofFrom, .ref qMproofTo, .int e_asked, .ref qMtold, .ref qMlive, .ref qMany, .ref qMall])), (qMtext, .inl (cT 0, 300, .inl e_text)), (qMread, .inl (cT 0, 300, .inl e_read)), (qMbegins, .inl (cT 0, 21, .inl e_begins)), (qMtried, .inl (cT 0, 21, .inl e_tried)), (qMpartCode, .inl (cT 0, 12, .inl e_partCode)), (qMpartLand, .inl (cT 0, 12, .inl e_partLand)), (qMpartCents, .inl (cT 1, 12, .inr (.inl e_partCents))), (qMjoined, .inl (cT 3, 100, .inl e_joined_389)), (qMproofKind, .inl (cT 0, 20, .inl e_proofKind)), (qMproofFrom, .inl (cT 0, 20, .inl e_proofFrom)), (qMproofTo, .inl (cT 0, 20, .inl e_proofTo)), (qMtold, .inl (cT 0, 300, .inl e_told)), (qMlive, .inl (cT 3, 9, .inl e_live)), (qMany, .inl (cT 3, 9, .inl e_any)), (qMall, .inl (cT 3, 9, .inl e_all)), (qU, .inl (cT 1, 1, .inr (.inl uout_371)))]) S hE (c_Md_join l D cT qM qMtext qMread qMbegins qMtried qMpartCode qMpartLand qMpartCents qMjoined qMproofKind qMproofFrom qMproofTo qMtold qMlive qMany qMall e_thrown e_signs e_rows e_parts e_done e_barred e_pairs e_full e_up e_down e_proofs e_asked e_text e_read e_begins e_tried e_partCode e_partLand e_partCents e_joined e_proofKind e_proofFrom e_proofTo e_told e_live e_any e_all (xs (x4 + 1).toNatClampNeg) (xs (x4 + 2).toNatClampNeg) hc_389) gw_fa1eb7dc rfl rfl ⟨Nat.le_of_ble_eq_true rfl, Nat.le_of_ble_eq_true rfl⟩ (ci := 6) rfl rfl (k0 := 0) rfl rfl hl.1 rfl (Nat.le_of_ble_eq_true rfl) d_law_389 ⟨hc1, hs1⟩ hP hD hS hA [16, 17, 18, 19, 20, 21, 22, 23, 24, 25, 26, 27, 28, 29, 30, 31] [0, 1, 2, 3, 4, 5, 6, 7, 8, 9, 10, 11, 12, 13, 14, 15, 32] [0, 1, 2, 3, 4, 5, 6, 7, 8, 9, 10, 11, 12, 13, 14, 15, 17, 18, 19, 20, 21, 22, 23, 24, 25, 26, 27, 28, 29, 30, 31, 32, 16] rfl rfl (by decide) (by decide) rfl (by decide) (by decide) (fun H locs hP hD hS => ?_)
                    refine lv_istore (lv' := [(6, .int r_389), (5, .int r_371), (0, .ref b), (1, .ref qO), (2, .ref qM), (3, .ref qU), (4, .int x4)]) hx hb d_law_392 hl (by decide) rfl (fun ls hl => ?_)
                    refine lv_aload_n hx hb d_law_394 rfl (lv_at hl 4 rfl) ?_
                    obtain ⟨r_395, hc_395, hM⟩ := bd1T hM
                    refine ca_V (As := []) (rest := []) (wr := [(qO, .inr (0, [.ref qT, .ref qR, .ref qP, .ref qL, .ref qF, .int done, .int brd, .int tup, .int tdn, .ref qOa, .int askd])), (qOa, .inl (cT 0, 149, .inl answ)), (qT, .inr (1, [.ref qTs, .int tlen, .int tpl])), (qTs, .inl (cT 2, 300, .inl tsg)), (qR, .inr (2, [.ref qRs, .int rlen, .int rsz])), (qRs, .inl (cT 2, 300, .inl rsg)), (qP, .inr (3, [.ref qPc, .ref qPl, .ref qPv, .int psz])), (qPc, .inl (cT 0, 12, .inl pcd)), (qPl, .inl (cT 0, 12, .inl pld)), (qPv, .inl (cT 1, 12, .inr (.inl pct))), (qL, .inr (4, [.ref qLj, .int lpr_371, .int (bI lful)])), (qLj, .inl (cT 0, 10, .inl ljn_371)), (qF, .inr (5, [.ref qFk, .ref qFf, .ref qFl, .int fsz])), (qFk, .inl (cT 0, 20, .inl fkd)), (qFf, .inl (cT 0, 20, .inl ffr)), (qFl, .inl (cT 0, 20, .inl fto)), (qU, .inl (cT 1, 1, .inr (.inl uout_371)))]) (w2 := [(qO, .inr (0, [.ref qT, .ref qR, .ref qP, .ref qL, .ref qF, .int done, .int brd, .int tup, .int tdn, .ref qOa, .int askd])), (qOa, .inl (cT 0, 149, .inl answ)), (qT, .inr (1, [.ref qTs, .int tlen, .int tpl])), (qTs, .inl (cT 2, 300, .inl tsg)), (qR, .inr (2, [.ref qRs, .int rlen, .int rsz])), (qRs, .inl (cT 2, 300, .inl rsg)), (qP, .inr (3, [.ref qPc, .ref qPl, .ref qPv, .int psz])), (qPc, .inl (cT 0, 12, .inl pcd)), (qPl, .inl (cT 0, 12, .inl pld)), (qPv, .inl (cT 1, 12, .inr (.inl pct))), (qL, .inr (4, [.ref qLj, .int lpr_371, .int (bI lful)])), (qLj, .inl (cT 0, 10, .inl ljn_371)), (qF, .inr (5, [.ref qFk, .ref qFf, .ref qFl, .int fsz])), (qFk, .inl (cT 0, 20, .inl fkd)), (qFf, .inl (cT 0, 20, .inl ffr)), (qFl, .inl (cT 0, 20, .inl fto)), (qM, .inr (6, [.int e_thrown_389, .ref qMtext, .int e_signs, .ref qMread, .ref qMbegins, .int e_rows, .ref qMtried, .int e_parts, .ref qMpartCode, .ref qMpartLand, .ref qMpartCents, .int e_done, .int e_barred, .ref qMjoined, .int e_pairs_389, .int (bI e_full), .int e_up, .int e_down, .int e_proofs, .ref qMproofKind, .ref qMproofFrom, .ref qMproofTo, .int e_asked, .ref qMtold, .ref qMlive, .ref qMany, .ref qMall])), (qMtext, .inl (cT 0, 300, .inl e_text)), (qMread, .inl (cT 0, 300, .inl e_read)), (qMbegins, .inl (cT 0, 21, .inl e_begins)), (qMtried, .inl (cT 0, 21, .inl e_tried)), (qMpartCode, .inl (cT 0, 12, .inl e_partCode)), (qMpartLand, .inl (cT 0, 12, .inl e_partLand)), (qMpartCents, .inl (cT 1, 12, .inr (.inl e_partCents))), (qMjoined, .inl (cT 3, 100, .inl e_joined_389)), (qMproofKind, .inl (cT 0, 20, .inl e_proofKind)), (qMproofFrom, .inl (cT 0, 20, .inl e_proofFrom)), (qMproofTo, .inl (cT 0, 20, .inl e_proofTo)), (qMtold, .inl (cT 0, 300, .inl e_told)), (qMlive, .inl (cT 3, 9, .inl e_live)), (qMany, .inl (cT 3, 9, .inl e_any)), (qMall, .inl (cT 3, 9, .inl e_all)), (qU, .inl (cT 1, 1, .inr (.inl uout_371)))]) S hE (c_Md_thrown l D cT qM qMtext qMread qMbegins qMtried qMpartCode qMpartLand qMpartCents qMjoined qMproofKind qMproofFrom qMproofTo qMtold qMlive qMany qMall e_thrown_389 e_signs e_rows e_parts e_done e_barred e_pairs_389 e_full e_up e_down e_proofs e_asked e_text e_read e_begins e_tried e_partCode e_partLand e_partCents e_joined_389 e_proofKind e_proofFrom e_proofTo e_told e_live e_any e_all hc_395) gw_ba35c1bc rfl rfl ⟨Nat.le_of_ble_eq_true rfl, Nat.le_of_ble_eq_true rfl⟩ (ci := 6) rfl rfl (k0 := 0) rfl rfl hl.1 rfl (Nat.le_of_ble_eq_true rfl) d_law_395 ⟨hc1, hs1⟩ hP hD hS hA [16, 17, 18, 19, 20, 21, 22, 23, 24, 25, 26, 27, 28, 29, 30, 31] [0, 1, 2, 3, 4, 5, 6, 7, 8, 9, 10, 11, 12, 13, 14, 15, 32] [0, 1, 2, 3, 4, 5, 6, 7, 8, 9, 10, 11, 12, 13, 14, 15, 17, 18, 19, 20, 21, 22, 23, 24, 25, 26, 27, 28, 29, 30, 31, 32, 16] rfl rfl (by decide) (by decide) rfl (by decide) (by decide) (fun H locs hP hD hS => ?_)
                    refine lv_iload hx hb d_law_398 (lv_at hl 1 rfl) ?_
                    refine lv_icmp_eq (tgt := 405) hx hb d_law_400 (by decide) (fun c_400 => ?_) (fun c_400 => ?_)
                    · have hM := itT hM c_400
                      refine lv_iload hx hb d_law_405 (lv_at hl 1 rfl) ?_
                      refine lv_if_ne (tgt := 422) hx hb d_law_407 (by decide) (fun c_407 => ?_) (fun c_407 => ?_)
                      · have hM := itF hM c_407
                        refine lv_goto (tgt := 1014) hx hb d_law_422 (by decide) ?_
                        refine lv_iinc (v := x4 + 5) (lv' := [(4, .int (x4 + 5)), (6, .int r_389), (5, .int r_371), (0, .ref b), (1, .ref qO), (2, .ref qM), (3, .ref qU)]) hx hb d_law_1014 hl (k := 6) rfl rfl (by decide) rfl (fun ls hl => ?_)
                        refine lv_goto (tgt := 23) hx hb d_law_1017 (by decide) ?_
                        refine W.widen (k := 1067 - n) (n := 10328 - 6 * n) (by omega) (by omega) ?_
                        exact ih (by omega) (x4 + 5) done brd tup tdn askd answ tlen tpl tsg rlen rsz rsg psz pcd pld pct lpr_371 lful ljn_371 fsz fkd ffr fto e_thrown_389 e_signs e_rows e_parts e_done e_barred e_pairs_389 e_full e_up e_down e_proofs e_asked e_text e_read e_begins e_tried e_partCode e_partLand e_partCents e_joined_389 e_proofKind e_proofFrom e_proofTo e_told e_live e_any e_all uout_371 hM _ _ _ hP hD hS (lv_sub hl [3, 4, 5, 6, 0] rfl)
                      · have hM := itT hM c_407
                        refine lv_aload_n hx hb d_law_410 rfl (lv_at hl 5 rfl) ?_
                        refine lv_iconst (v := 0) hx hb d_law_411 (by decide) ?_
                        obtain ⟨hin_412, hM⟩ := ixT hM
                        refine va_lald hx hb hK hP 32 1 rfl rfl hin_412 d_law_412 ?_
                        refine lv_iload hx hb d_law_413 (lv_at hl 0 rfl) ?_
                        refine lv_i2l hx hb d_law_415 rfl ?_
                        refine W.lcmp hx hb d_law_416 ?_
                        refine lv_if_eq (tgt := 422) hx hb d_law_417 (by decide) (fun c_417 => ?_) (fun c_417 => ?_)
                        · have hM := itT hM c_417
                          refine lv_goto (tgt := 1014) hx hb d_law_422 (by decide) ?_
                          refine lv_iinc (v := x4 + 5) (lv' := [(4, .int (x4 + 5)), (6, .int r_389), (5, .int r_371), (0, .ref b), (1, .ref qO), (2, .ref qM), (3, .ref qU)]) hx hb d_law_1014 hl (k := 6) rfl rfl (by decide) rfl (fun ls hl => ?_)
                          refine lv_goto (tgt := 23) hx hb d_law_1017 (by decide) ?_
                          refine W.widen (k := 1067 - n) (n := 10328 - 6 * n) (by omega) (by omega) ?_
                          exact ih (by omega) (x4 + 5) done brd tup tdn askd answ tlen tpl tsg rlen rsz rsg psz pcd pld pct lpr_371 lful ljn_371 fsz fkd ffr fto e_thrown_389 e_signs e_rows e_parts e_done e_barred e_pairs_389 e_full e_up e_down e_proofs e_asked e_text e_read e_begins e_tried e_partCode e_partLand e_partCents e_joined_389 e_proofKind e_proofFrom e_proofTo e_told e_live e_any e_all uout_371 hM _ _ _ hP hD hS (lv_sub hl [3, 4, 5, 6, 0] rfl)
                        · have hM := itF hM c_417
                          refine lv_iconst (v := 0) hx hb d_law_420 (by decide) ?_
                          exact absurd hM (by simp)
                    · have hM := itF hM c_400
                      refine lv_iconst (v := 0) hx hb d_law_403 (by decide) ?_
                      exact absurd hM (by simp)
                  · have hM := itF hM c_39_6
                    by_cases c_39_7 : ((xs x4.toNatClampNeg) &&& 15) = 7
                    · have hM := itT hM c_39_7
                      refine lv_tableIn (tgt := 425) hx hb d_law_39 (by rw [c_39_7]; decide) (by rw [c_39_7]; decide) (by rw [c_39_7]; rfl) (by decide) ?_
                      refine lv_aload_n hx hb d_law_425 rfl (lv_at hl 1 rfl) ?_
                      refine lv_aload_n hx hb d_law_426 rfl (lv_at hl 0 rfl) ?_
                      refine lv_iload hx hb d_law_427 (lv_at hl 4 rfl) ?_
                      refine lv_iconst (v := 1) hx hb d_law_429 (by decide) ?_
                      refine lv_iadd hx hb d_law_430 ?_
                      obtain ⟨hin_431, hM⟩ := ixT hM
                      refine va_sld hx hb hX hbl hbA hS hin_431 d_law_431 ?_
                      refine lv_if_eq (tgt := 439) hx hb d_law_432 (by decide) (fun c_432 => ?_) (fun c_432 => ?_)
                      · have hM := itT hM c_432
                        refine lv_iconst (v := 0) hx hb d_law_439 (by decide) ?_
                        obtain ⟨r_440, lful_440, hc_440, hM⟩ := bd2T hM
                        refine ca_V (As := [.int (bI false)]) (rest := []) (wr := [(qM, .inr (6, [.int e_thrown, .ref qMtext, .int e_signs, .ref qMread, .ref qMbegins, .int e_rows, .ref qMtried, .int e_parts, .ref qMpartCode, .ref qMpartLand, .ref qMpartCents, .int e_done, .int e_barred, .ref qMjoined, .int e_pairs, .int (bI e_full), .int e_up, .int e_down, .int e_proofs, .ref qMproofKind, .ref qMproofFrom, .ref qMproofTo, .int e_asked, .ref qMtold, .ref qMlive, .ref qMany, .ref qMall])), (qMtext, .inl (cT 0, 300, .inl e_text)), (qMread, .inl (cT 0, 300, .inl e_read)), (qMbegins, .inl (cT 0, 21, .inl e_begins)), (qMtried, .inl (cT 0, 21, .inl e_tried)), (qMpartCode, .inl (cT 0, 12, .inl e_partCode)), (qMpartLand, .inl (cT 0, 12, .inl e_partLand)), (qMpartCents, .inl (cT 1, 12, .inr (.inl e_partCents))), (qMjoined, .inl (cT 3, 100, .inl e_joined)), (qMproofKind, .inl (cT 0, 20, .inl e_proofKind)), (qMproofFrom, .inl (cT 0, 20, .inl e_proofFrom)), (qMproofTo, .inl (cT 0, 20, .inl e_proofTo)), (qMtold, .inl (cT 0, 300, .inl e_told)), (qMlive, .inl (cT 3, 9, .inl e_live)), (qMany, .inl (cT 3, 9, .inl e_any)), (qMall, .inl (cT 3, 9, .inl e_all)), (qU, .inl (cT 1, 1, .inr (.inl uout)))]) (w2 := [(qO, .inr (0, [.ref qT, .ref qR, .ref qP, .ref qL, .ref qF, .int done, .int brd, .int tup, .int tdn, .ref qOa, .int askd])), (qOa, .inl (cT 0, 149, .inl answ)), (qT, .inr (1, [.ref qTs, .int tlen, .int tpl])), (qTs, .inl (cT 2, 300, .inl tsg)), (qR, .inr (2, [.ref qRs, .int rlen, .int rsz])), (qRs, .inl (cT 2, 300, .inl rsg)), (qP, .inr (3, [.ref qPc, .ref qPl, .ref qPv, .int psz])), (qPc, .inl (cT 0, 12, .inl pcd)), (qPl, .inl (cT 0, 12, .inl pld)), (qPv, .inl (cT 1, 12, .inr (.inl pct))), (qL, .inr (4, [.ref qLj, .int lpr, .int (bI lful_440)])), (qLj, .inl (cT 0, 10, .inl ljn)), (qF, .inr (5, [.ref qFk, .ref qFf, .ref qFl, .int fsz])), (qFk, .inl (cT 0, 20, .inl fkd)), (qFf, .inl (cT 0, 20, .inl ffr)), (qFl, .inl (cT 0, 20, .inl fto)), (qM, .inr (6, [.int e_thrown, .ref qMtext, .int e_signs, .ref qMread, .ref qMbegins, .int e_rows, .ref qMtried, .int e_parts, .ref qMpartCode, .ref qMpartLand, .ref qMpartCents, .int e_done, .int e_barred, .ref qMjoined, .int e_pairs, .int (bI e_full), .int e_up, .int e_down, .int e_proofs, .ref qMproofKind, .ref qMproofFrom, .ref qMproofTo, .int e_asked, .ref qMtold, .ref qMlive, .ref qMany, .ref qMall])), (qMtext, .inl (cT 0, 300, .inl e_text)), (qMread, .inl (cT 0, 300, .inl e_read)), (qMbegins, .inl (cT 0, 21, .inl e_begins)), (qMtried, .inl (cT 0, 21, .inl e_tried)), (qMpartCode, .inl (cT 0, 12, .inl e_partCode)), (qMpartLand, .inl (cT 0, 12, .inl e_partLand)), (qMpartCents, .inl (cT 1, 12, .inr (.inl e_partCents))), (qMjoined, .inl (cT 3, 100, .inl e_joined)), (qMproofKind, .inl (cT 0, 20, .inl e_proofKind)), (qMproofFrom, .inl (cT 0, 20, .inl e_proofFrom)), (qMproofTo, .inl (cT 0, 20, .inl e_proofTo)), (qMtold, .inl (cT 0, 300, .inl e_told)), (qMlive, .inl (cT 3, 9, .inl e_live)), (qMany, .inl (cT 3, 9, .inl e_any)), (qMall, .inl (cT 3, 9, .inl e_all)), (qU, .inl (cT 1, 1, .inr (.inl uout)))]) S hE (c_Or_full l D cT qO qOa qT qTs qR qRs qP qPc qPl qPv qL qLj qF qFk qFf qFl done brd tup tdn askd answ tlen tpl tsg rlen rsz rsg psz pcd pld pct lpr lful ljn fsz fkd ffr fto false hc_440) gw_ee49ca2a rfl rfl ⟨Nat.le_of_ble_eq_true rfl, Nat.le_of_ble_eq_true rfl⟩ (ci := 0) rfl rfl (k0 := 0) rfl rfl hl.1 rfl (Nat.le_of_ble_eq_true rfl) d_law_440 ⟨hc0, hs0⟩ hP hD hS hA [0, 1, 2, 3, 4, 5, 6, 7, 8, 9, 10, 11, 12, 13, 14, 15] [16, 17, 18, 19, 20, 21, 22, 23, 24, 25, 26, 27, 28, 29, 30, 31, 32] [17, 18, 19, 20, 21, 22, 23, 24, 25, 26, 27, 28, 29, 30, 31, 32, 0, 1, 2, 3, 4, 5, 6, 7, 8, 9, 10, 11, 12, 13, 14, 15, 16] rfl rfl (by decide) (by decide) rfl (by decide) (by decide) (fun H locs hP hD hS => ?_)
                        refine lv_aload_n hx hb d_law_443 rfl (lv_at hl 2 rfl) ?_
                        refine lv_aload_n hx hb d_law_444 rfl (lv_at hl 0 rfl) ?_
                        refine lv_iload hx hb d_law_445 (lv_at hl 4 rfl) ?_
                        refine lv_iconst (v := 1) hx hb d_law_447 (by decide) ?_
                        refine lv_iadd hx hb d_law_448 ?_
                        obtain ⟨hin_449, hM⟩ := ixT hM
                        refine va_sld hx hb hX hbl hbA hS hin_449 d_law_449 ?_
                        refine lv_if_eq (tgt := 457) hx hb d_law_450 (by decide) (fun c_450 => ?_) (fun c_450 => ?_)
                        · have hM := itT hM c_450
                          refine lv_iconst (v := 0) hx hb d_law_457 (by decide) ?_
                          obtain ⟨r_458, e_thrown_458, e_full_458, hc_458, hM⟩ := bd3T hM
                          refine ca_V (As := [.int (bI false)]) (rest := [.int (bI r_440)]) (wr := [(qO, .inr (0, [.ref qT, .ref qR, .ref qP, .ref qL, .ref qF, .int done, .int brd, .int tup, .int tdn, .ref qOa, .int askd])), (qOa, .inl (cT 0, 149, .inl answ)), (qT, .inr (1, [.ref qTs, .int tlen, .int tpl])), (qTs, .inl (cT 2, 300, .inl tsg)), (qR, .inr (2, [.ref qRs, .int rlen, .int rsz])), (qRs, .inl (cT 2, 300, .inl rsg)), (qP, .inr (3, [.ref qPc, .ref qPl, .ref qPv, .int psz])), (qPc, .inl (cT 0, 12, .inl pcd)), (qPl, .inl (cT 0, 12, .inl pld)), (qPv, .inl (cT 1, 12, .inr (.inl pct))), (qL, .inr (4, [.ref qLj, .int lpr, .int (bI lful_440)])), (qLj, .inl (cT 0, 10, .inl ljn)), (qF, .inr (5, [.ref qFk, .ref qFf, .ref qFl, .int fsz])), (qFk, .inl (cT 0, 20, .inl fkd)), (qFf, .inl (cT 0, 20, .inl ffr)), (qFl, .inl (cT 0, 20, .inl fto)), (qU, .inl (cT 1, 1, .inr (.inl uout)))]) (w2 := [(qO, .inr (0, [.ref qT, .ref qR, .ref qP, .ref qL, .ref qF, .int done, .int brd, .int tup, .int tdn, .ref qOa, .int askd])), (qOa, .inl (cT 0, 149, .inl answ)), (qT, .inr (1, [.ref qTs, .int tlen, .int tpl])), (qTs, .inl (cT 2, 300, .inl tsg)), (qR, .inr (2, [.ref qRs, .int rlen, .int rsz])), (qRs, .inl (cT 2, 300, .inl rsg)), (qP, .inr (3, [.ref qPc, .ref qPl, .ref qPv, .int psz])), (qPc, .inl (cT 0, 12, .inl pcd)), (qPl, .inl (cT 0, 12, .inl pld)), (qPv, .inl (cT 1, 12, .inr (.inl pct))), (qL, .inr (4, [.ref qLj, .int lpr, .int (bI lful_440)])), (qLj, .inl (cT 0, 10, .inl ljn)), (qF, .inr (5, [.ref qFk, .ref qFf, .ref qFl, .int fsz])), (qFk, .inl (cT 0, 20, .inl fkd)), (qFf, .inl (cT 0, 20, .inl ffr)), (qFl, .inl (cT 0, 20, .inl fto)), (qM, .inr (6, [.int e_thrown_458, .ref qMtext, .int e_signs, .ref qMread, .ref qMbegins, .int e_rows, .ref qMtried, .int e_parts, .ref qMpartCode, .ref qMpartLand, .ref qMpartCents, .int e_done, .int e_barred, .ref qMjoined, .int e_pairs, .int (bI e_full_458), .int e_up, .int e_down, .int e_proofs, .ref qMproofKind, .ref qMproofFrom, .ref qMproofTo, .int e_asked, .ref qMtold, .ref qMlive, .ref qMany, .ref qMall])), (qMtext, .inl (cT 0, 300, .inl e_text)), (qMread, .inl (cT 0, 300, .inl e_read)), (qMbegins, .inl (cT 0, 21, .inl e_begins)), (qMtried, .inl (cT 0, 21, .inl e_tried)), (qMpartCode, .inl (cT 0, 12, .inl e_partCode)), (qMpartLand, .inl (cT 0, 12, .inl e_partLand)), (qMpartCents, .inl (cT 1, 12, .inr (.inl e_partCents))), (qMjoined, .inl (cT 3, 100, .inl e_joined)), (qMproofKind, .inl (cT 0, 20, .inl e_proofKind)), (qMproofFrom, .inl (cT 0, 20, .inl e_proofFrom)), (qMproofTo, .inl (cT 0, 20, .inl e_proofTo)), (qMtold, .inl (cT 0, 300, .inl e_told)), (qMlive, .inl (cT 3, 9, .inl e_live)), (qMany, .inl (cT 3, 9, .inl e_any)), (qMall, .inl (cT 3, 9, .inl e_all)), (qU, .inl (cT 1, 1, .inr (.inl uout)))]) S hE (c_Md_full l D cT qM qMtext qMread qMbegins qMtried qMpartCode qMpartLand qMpartCents qMjoined qMproofKind qMproofFrom qMproofTo qMtold qMlive qMany qMall e_thrown e_signs e_rows e_parts e_done e_barred e_pairs e_full e_up e_down e_proofs e_asked e_text e_read e_begins e_tried e_partCode e_partLand e_partCents e_joined e_proofKind e_proofFrom e_proofTo e_told e_live e_any e_all false hc_458) gw_9574c9a0 rfl rfl ⟨Nat.le_of_ble_eq_true rfl, Nat.le_of_ble_eq_true rfl⟩ (ci := 6) rfl rfl (k0 := 0) rfl rfl hl.1 rfl (Nat.le_of_ble_eq_true rfl) d_law_458 ⟨hc0, hs0⟩ hP hD hS hA [16, 17, 18, 19, 20, 21, 22, 23, 24, 25, 26, 27, 28, 29, 30, 31] [0, 1, 2, 3, 4, 5, 6, 7, 8, 9, 10, 11, 12, 13, 14, 15, 32] [0, 1, 2, 3, 4, 5, 6, 7, 8, 9, 10, 11, 12, 13, 14, 15, 17, 18, 19, 20, 21, 22, 23, 24, 25, 26, 27, 28, 29, 30, 31, 32, 16] rfl rfl (by decide) (by decide) rfl (by decide) (by decide) (fun H locs hP hD hS => ?_)
                          refine lv_icmp_eq (tgt := 1014) hx hb d_law_461 (by decide) (fun c_461 => ?_) (fun c_461 => ?_)
                          · have hM := itT hM c_461
                            refine lv_iinc (v := x4 + 5) (lv' := [(4, .int (x4 + 5)), (0, .ref b), (1, .ref qO), (2, .ref qM), (3, .ref qU)]) hx hb d_law_1014 hl (k := 4) rfl rfl (by decide) rfl (fun ls hl => ?_)
                            refine lv_goto (tgt := 23) hx hb d_law_1017 (by decide) ?_
                            refine W.widen (k := 1067 - n) (n := 10328 - 6 * n) (by omega) (by omega) ?_
                            exact ih (by omega) (x4 + 5) done brd tup tdn askd answ tlen tpl tsg rlen rsz rsg psz pcd pld pct lpr lful_440 ljn fsz fkd ffr fto e_thrown_458 e_signs e_rows e_parts e_done e_barred e_pairs e_full_458 e_up e_down e_proofs e_asked e_text e_read e_begins e_tried e_partCode e_partLand e_partCents e_joined e_proofKind e_proofFrom e_proofTo e_told e_live e_any e_all uout hM _ _ _ hP hD hS (lv_sub hl [1, 2, 3, 4, 0] rfl)
                          · have hM := itF hM c_461
                            refine lv_iconst (v := 0) hx hb d_law_464 (by decide) ?_
                            exact absurd hM (by simp)
                        · have hM := itF hM c_450
                          refine lv_iconst (v := 1) hx hb d_law_453 (by decide) ?_
                          refine lv_goto (tgt := 458) hx hb d_law_454 (by decide) ?_
                          obtain ⟨r_458, e_thrown_458, e_full_458, hc_458, hM⟩ := bd3T hM
                          refine ca_V (As := [.int (bI true)]) (rest := [.int (bI r_440)]) (wr := [(qO, .inr (0, [.ref qT, .ref qR, .ref qP, .ref qL, .ref qF, .int done, .int brd, .int tup, .int tdn, .ref qOa, .int askd])), (qOa, .inl (cT 0, 149, .inl answ)), (qT, .inr (1, [.ref qTs, .int tlen, .int tpl])), (qTs, .inl (cT 2, 300, .inl tsg)), (qR, .inr (2, [.ref qRs, .int rlen, .int rsz])), (qRs, .inl (cT 2, 300, .inl rsg)), (qP, .inr (3, [.ref qPc, .ref qPl, .ref qPv, .int psz])), (qPc, .inl (cT 0, 12, .inl pcd)), (qPl, .inl (cT 0, 12, .inl pld)), (qPv, .inl (cT 1, 12, .inr (.inl pct))), (qL, .inr (4, [.ref qLj, .int lpr, .int (bI lful_440)])), (qLj, .inl (cT 0, 10, .inl ljn)), (qF, .inr (5, [.ref qFk, .ref qFf, .ref qFl, .int fsz])), (qFk, .inl (cT 0, 20, .inl fkd)), (qFf, .inl (cT 0, 20, .inl ffr)), (qFl, .inl (cT 0, 20, .inl fto)), (qU, .inl (cT 1, 1, .inr (.inl uout)))]) (w2 := [(qO, .inr (0, [.ref qT, .ref qR, .ref qP, .ref qL, .ref qF, .int done, .int brd, .int tup, .int tdn, .ref qOa, .int askd])), (qOa, .inl (cT 0, 149, .inl answ)), (qT, .inr (1, [.ref qTs, .int tlen, .int tpl])), (qTs, .inl (cT 2, 300, .inl tsg)), (qR, .inr (2, [.ref qRs, .int rlen, .int rsz])), (qRs, .inl (cT 2, 300, .inl rsg)), (qP, .inr (3, [.ref qPc, .ref qPl, .ref qPv, .int psz])), (qPc, .inl (cT 0, 12, .inl pcd)), (qPl, .inl (cT 0, 12, .inl pld)), (qPv, .inl (cT 1, 12, .inr (.inl pct))), (qL, .inr (4, [.ref qLj, .int lpr, .int (bI lful_440)])), (qLj, .inl (cT 0, 10, .inl ljn)), (qF, .inr (5, [.ref qFk, .ref qFf, .ref qFl, .int fsz])), (qFk, .inl (cT 0, 20, .inl fkd)), (qFf, .inl (cT 0, 20, .inl ffr)), (qFl, .inl (cT 0, 20, .inl fto)), (qM, .inr (6, [.int e_thrown_458, .ref qMtext, .int e_signs, .ref qMread, .ref qMbegins, .int e_rows, .ref qMtried, .int e_parts, .ref qMpartCode, .ref qMpartLand, .ref qMpartCents, .int e_done, .int e_barred, .ref qMjoined, .int e_pairs, .int (bI e_full_458), .int e_up, .int e_down, .int e_proofs, .ref qMproofKind, .ref qMproofFrom, .ref qMproofTo, .int e_asked, .ref qMtold, .ref qMlive, .ref qMany, .ref qMall])), (qMtext, .inl (cT 0, 300, .inl e_text)), (qMread, .inl (cT 0, 300, .inl e_read)), (qMbegins, .inl (cT 0, 21, .inl e_begins)), (qMtried, .inl (cT 0, 21, .inl e_tried)), (qMpartCode, .inl (cT 0, 12, .inl e_partCode)), (qMpartLand, .inl (cT 0, 12, .inl e_partLand)), (qMpartCents, .inl (cT 1, 12, .inr (.inl e_partCents))), (qMjoined, .inl (cT 3, 100, .inl e_joined)), (qMproofKind, .inl (cT 0, 20, .inl e_proofKind)), (qMproofFrom, .inl (cT 0, 20, .inl e_proofFrom)), (qMproofTo, .inl (cT 0, 20, .inl e_proofTo)), (qMtold, .inl (cT 0, 300, .inl e_told)), (qMlive, .inl (cT 3, 9, .inl e_live)), (qMany, .inl (cT 3, 9, .inl e_any)), (qMall, .inl (cT 3, 9, .inl e_all)), (qU, .inl (cT 1, 1, .inr (.inl uout)))]) S hE (c_Md_full l D cT qM qMtext qMread qMbegins qMtried qMpartCode qMpartLand qMpartCents qMjoined qMproofKind qMproofFrom qMproofTo qMtold qMlive qMany qMall e_thrown e_signs e_rows e_parts e_done e_barred e_pairs e_full e_up e_down e_proofs e_asked e_text e_read e_begins e_tried e_partCode e_partLand e_partCents e_joined e_proofKind e_proofFrom e_proofTo e_told e_live e_any e_all true hc_458) gw_9574c9a0 rfl rfl ⟨Nat.le_of_ble_eq_true rfl, Nat.le_of_ble_eq_true rfl⟩ (ci := 6) rfl rfl (k0 := 0) rfl rfl hl.1 rfl (Nat.le_of_ble_eq_true rfl) d_law_458 ⟨hc0, hs0⟩ hP hD hS hA [16, 17, 18, 19, 20, 21, 22, 23, 24, 25, 26, 27, 28, 29, 30, 31] [0, 1, 2, 3, 4, 5, 6, 7, 8, 9, 10, 11, 12, 13, 14, 15, 32] [0, 1, 2, 3, 4, 5, 6, 7, 8, 9, 10, 11, 12, 13, 14, 15, 17, 18, 19, 20, 21, 22, 23, 24, 25, 26, 27, 28, 29, 30, 31, 32, 16] rfl rfl (by decide) (by decide) rfl (by decide) (by decide) (fun H locs hP hD hS => ?_)
                          refine lv_icmp_eq (tgt := 1014) hx hb d_law_461 (by decide) (fun c_461 => ?_) (fun c_461 => ?_)
                          · have hM := itT hM c_461
                            refine lv_iinc (v := x4 + 5) (lv' := [(4, .int (x4 + 5)), (0, .ref b), (1, .ref qO), (2, .ref qM), (3, .ref qU)]) hx hb d_law_1014 hl (k := 4) rfl rfl (by decide) rfl (fun ls hl => ?_)
                            refine lv_goto (tgt := 23) hx hb d_law_1017 (by decide) ?_
                            refine W.widen (k := 1067 - n) (n := 10328 - 6 * n) (by omega) (by omega) ?_
                            exact ih (by omega) (x4 + 5) done brd tup tdn askd answ tlen tpl tsg rlen rsz rsg psz pcd pld pct lpr lful_440 ljn fsz fkd ffr fto e_thrown_458 e_signs e_rows e_parts e_done e_barred e_pairs e_full_458 e_up e_down e_proofs e_asked e_text e_read e_begins e_tried e_partCode e_partLand e_partCents e_joined e_proofKind e_proofFrom e_proofTo e_told e_live e_any e_all uout hM _ _ _ hP hD hS (lv_sub hl [1, 2, 3, 4, 0] rfl)
                          · have hM := itF hM c_461
                            refine lv_iconst (v := 0) hx hb d_law_464 (by decide) ?_
                            exact absurd hM (by simp)
                      · have hM := itF hM c_432
                        refine lv_iconst (v := 1) hx hb d_law_435 (by decide) ?_
                        refine lv_goto (tgt := 440) hx hb d_law_436 (by decide) ?_
                        obtain ⟨r_440, lful_440, hc_440, hM⟩ := bd2T hM
                        refine ca_V (As := [.int (bI true)]) (rest := []) (wr := [(qM, .inr (6, [.int e_thrown, .ref qMtext, .int e_signs, .ref qMread, .ref qMbegins, .int e_rows, .ref qMtried, .int e_parts, .ref qMpartCode, .ref qMpartLand, .ref qMpartCents, .int e_done, .int e_barred, .ref qMjoined, .int e_pairs, .int (bI e_full), .int e_up, .int e_down, .int e_proofs, .ref qMproofKind, .ref qMproofFrom, .ref qMproofTo, .int e_asked, .ref qMtold, .ref qMlive, .ref qMany, .ref qMall])), (qMtext, .inl (cT 0, 300, .inl e_text)), (qMread, .inl (cT 0, 300, .inl e_read)), (qMbegins, .inl (cT 0, 21, .inl e_begins)), (qMtried, .inl (cT 0, 21, .inl e_tried)), (qMpartCode, .inl (cT 0, 12, .inl e_partCode)), (qMpartLand, .inl (cT 0, 12, .inl e_partLand)), (qMpartCents, .inl (cT 1, 12, .inr (.inl e_partCents))), (qMjoined, .inl (cT 3, 100, .inl e_joined)), (qMproofKind, .inl (cT 0, 20, .inl e_proofKind)), (qMproofFrom, .inl (cT 0, 20, .inl e_proofFrom)), (qMproofTo, .inl (cT 0, 20, .inl e_proofTo)), (qMtold, .inl (cT 0, 300, .inl e_told)), (qMlive, .inl (cT 3, 9, .inl e_live)), (qMany, .inl (cT 3, 9, .inl e_any)), (qMall, .inl (cT 3, 9, .inl e_all)), (qU, .inl (cT 1, 1, .inr (.inl uout)))]) (w2 := [(qO, .inr (0, [.ref qT, .ref qR, .ref qP, .ref qL, .ref qF, .int done, .int brd, .int tup, .int tdn, .ref qOa, .int askd])), (qOa, .inl (cT 0, 149, .inl answ)), (qT, .inr (1, [.ref qTs, .int tlen, .int tpl])), (qTs, .inl (cT 2, 300, .inl tsg)), (qR, .inr (2, [.ref qRs, .int rlen, .int rsz])), (qRs, .inl (cT 2, 300, .inl rsg)), (qP, .inr (3, [.ref qPc, .ref qPl, .ref qPv, .int psz])), (qPc, .inl (cT 0, 12, .inl pcd)), (qPl, .inl (cT 0, 12, .inl pld)), (qPv, .inl (cT 1, 12, .inr (.inl pct))), (qL, .inr (4, [.ref qLj, .int lpr, .int (bI lful_440)])), (qLj, .inl (cT 0, 10, .inl ljn)), (qF, .inr (5, [.ref qFk, .ref qFf, .ref qFl, .int fsz])), (qFk, .inl (cT 0, 20, .inl fkd)), (qFf, .inl (cT 0, 20, .inl ffr)), (qFl, .inl (cT 0, 20, .inl fto)), (qM, .inr (6, [.int e_thrown, .ref qMtext, .int e_signs, .ref qMread, .ref qMbegins, .int e_rows, .ref qMtried, .int e_parts, .ref qMpartCode, .ref qMpartLand, .ref qMpartCents, .int e_done, .int e_barred, .ref qMjoined, .int e_pairs, .int (bI e_full), .int e_up, .int e_down, .int e_proofs, .ref qMproofKind, .ref qMproofFrom, .ref qMproofTo, .int e_asked, .ref qMtold, .ref qMlive, .ref qMany, .ref qMall])), (qMtext, .inl (cT 0, 300, .inl e_text)), (qMread, .inl (cT 0, 300, .inl e_read)), (qMbegins, .inl (cT 0, 21, .inl e_begins)), (qMtried, .inl (cT 0, 21, .inl e_tried)), (qMpartCode, .inl (cT 0, 12, .inl e_partCode)), (qMpartLand, .inl (cT 0, 12, .inl e_partLand)), (qMpartCents, .inl (cT 1, 12, .inr (.inl e_partCents))), (qMjoined, .inl (cT 3, 100, .inl e_joined)), (qMproofKind, .inl (cT 0, 20, .inl e_proofKind)), (qMproofFrom, .inl (cT 0, 20, .inl e_proofFrom)), (qMproofTo, .inl (cT 0, 20, .inl e_proofTo)), (qMtold, .inl (cT 0, 300, .inl e_told)), (qMlive, .inl (cT 3, 9, .inl e_live)), (qMany, .inl (cT 3, 9, .inl e_any)), (qMall, .inl (cT 3, 9, .inl e_all)), (qU, .inl (cT 1, 1, .inr (.inl uout)))]) S hE (c_Or_full l D cT qO qOa qT qTs qR qRs qP qPc qPl qPv qL qLj qF qFk qFf qFl done brd tup tdn askd answ tlen tpl tsg rlen rsz rsg psz pcd pld pct lpr lful ljn fsz fkd ffr fto true hc_440) gw_ee49ca2a rfl rfl ⟨Nat.le_of_ble_eq_true rfl, Nat.le_of_ble_eq_true rfl⟩ (ci := 0) rfl rfl (k0 := 0) rfl rfl hl.1 rfl (Nat.le_of_ble_eq_true rfl) d_law_440 ⟨hc0, hs0⟩ hP hD hS hA [0, 1, 2, 3, 4, 5, 6, 7, 8, 9, 10, 11, 12, 13, 14, 15] [16, 17, 18, 19, 20, 21, 22, 23, 24, 25, 26, 27, 28, 29, 30, 31, 32] [17, 18, 19, 20, 21, 22, 23, 24, 25, 26, 27, 28, 29, 30, 31, 32, 0, 1, 2, 3, 4, 5, 6, 7, 8, 9, 10, 11, 12, 13, 14, 15, 16] rfl rfl (by decide) (by decide) rfl (by decide) (by decide) (fun H locs hP hD hS => ?_)
                        refine lv_aload_n hx hb d_law_443 rfl (lv_at hl 2 rfl) ?_
                        refine lv_aload_n hx hb d_law_444 rfl (lv_at hl 0 rfl) ?_
                        refine lv_iload hx hb d_law_445 (lv_at hl 4 rfl) ?_
                        refine lv_iconst (v := 1) hx hb d_law_447 (by decide) ?_
                        refine lv_iadd hx hb d_law_448 ?_
                        obtain ⟨hin_449, hM⟩ := ixT hM
                        refine va_sld hx hb hX hbl hbA hS hin_449 d_law_449 ?_
                        refine lv_if_eq (tgt := 457) hx hb d_law_450 (by decide) (fun c_450 => ?_) (fun c_450 => ?_)
                        · have hM := itT hM c_450
                          refine lv_iconst (v := 0) hx hb d_law_457 (by decide) ?_
                          obtain ⟨r_458, e_thrown_458, e_full_458, hc_458, hM⟩ := bd3T hM
                          refine ca_V (As := [.int (bI false)]) (rest := [.int (bI r_440)]) (wr := [(qO, .inr (0, [.ref qT, .ref qR, .ref qP, .ref qL, .ref qF, .int done, .int brd, .int tup, .int tdn, .ref qOa, .int askd])), (qOa, .inl (cT 0, 149, .inl answ)), (qT, .inr (1, [.ref qTs, .int tlen, .int tpl])), (qTs, .inl (cT 2, 300, .inl tsg)), (qR, .inr (2, [.ref qRs, .int rlen, .int rsz])), (qRs, .inl (cT 2, 300, .inl rsg)), (qP, .inr (3, [.ref qPc, .ref qPl, .ref qPv, .int psz])), (qPc, .inl (cT 0, 12, .inl pcd)), (qPl, .inl (cT 0, 12, .inl pld)), (qPv, .inl (cT 1, 12, .inr (.inl pct))), (qL, .inr (4, [.ref qLj, .int lpr, .int (bI lful_440)])), (qLj, .inl (cT 0, 10, .inl ljn)), (qF, .inr (5, [.ref qFk, .ref qFf, .ref qFl, .int fsz])), (qFk, .inl (cT 0, 20, .inl fkd)), (qFf, .inl (cT 0, 20, .inl ffr)), (qFl, .inl (cT 0, 20, .inl fto)), (qU, .inl (cT 1, 1, .inr (.inl uout)))]) (w2 := [(qO, .inr (0, [.ref qT, .ref qR, .ref qP, .ref qL, .ref qF, .int done, .int brd, .int tup, .int tdn, .ref qOa, .int askd])), (qOa, .inl (cT 0, 149, .inl answ)), (qT, .inr (1, [.ref qTs, .int tlen, .int tpl])), (qTs, .inl (cT 2, 300, .inl tsg)), (qR, .inr (2, [.ref qRs, .int rlen, .int rsz])), (qRs, .inl (cT 2, 300, .inl rsg)), (qP, .inr (3, [.ref qPc, .ref qPl, .ref qPv, .int psz])), (qPc, .inl (cT 0, 12, .inl pcd)), (qPl, .inl (cT 0, 12, .inl pld)), (qPv, .inl (cT 1, 12, .inr (.inl pct))), (qL, .inr (4, [.ref qLj, .int lpr, .int (bI lful_440)])), (qLj, .inl (cT 0, 10, .inl ljn)), (qF, .inr (5, [.ref qFk, .ref qFf, .ref qFl, .int fsz])), (qFk, .inl (cT 0, 20, .inl fkd)), (qFf, .inl (cT 0, 20, .inl ffr)), (qFl, .inl (cT 0, 20, .inl fto)), (qM, .inr (6, [.int e_thrown_458, .ref qMtext, .int e_signs, .ref qMread, .ref qMbegins, .int e_rows, .ref qMtried, .int e_parts, .ref qMpartCode, .ref qMpartLand, .ref qMpartCents, .int e_done, .int e_barred, .ref qMjoined, .int e_pairs, .int (bI e_full_458), .int e_up, .int e_down, .int e_proofs, .ref qMproofKind, .ref qMproofFrom, .ref qMproofTo, .int e_asked, .ref qMtold, .ref qMlive, .ref qMany, .ref qMall])), (qMtext, .inl (cT 0, 300, .inl e_text)), (qMread, .inl (cT 0, 300, .inl e_read)), (qMbegins, .inl (cT 0, 21, .inl e_begins)), (qMtried, .inl (cT 0, 21, .inl e_tried)), (qMpartCode, .inl (cT 0, 12, .inl e_partCode)), (qMpartLand, .inl (cT 0, 12, .inl e_partLand)), (qMpartCents, .inl (cT 1, 12, .inr (.inl e_partCents))), (qMjoined, .inl (cT 3, 100, .inl e_joined)), (qMproofKind, .inl (cT 0, 20, .inl e_proofKind)), (qMproofFrom, .inl (cT 0, 20, .inl e_proofFrom)), (qMproofTo, .inl (cT 0, 20, .inl e_proofTo)), (qMtold, .inl (cT 0, 300, .inl e_told)), (qMlive, .inl (cT 3, 9, .inl e_live)), (qMany, .inl (cT 3, 9, .inl e_any)), (qMall, .inl (cT 3, 9, .inl e_all)), (qU, .inl (cT 1, 1, .inr (.inl uout)))]) S hE (c_Md_full l D cT qM qMtext qMread qMbegins qMtried qMpartCode qMpartLand qMpartCents qMjoined qMproofKind qMproofFrom qMproofTo qMtold qMlive qMany qMall e_thrown e_signs e_rows e_parts e_done e_barred e_pairs e_full e_up e_down e_proofs e_asked e_text e_read e_begins e_tried e_partCode e_partLand e_partCents e_joined e_proofKind e_proofFrom e_proofTo e_told e_live e_any e_all false hc_458) gw_9574c9a0 rfl rfl ⟨Nat.le_of_ble_eq_true rfl, Nat.le_of_ble_eq_true rfl⟩ (ci := 6) rfl rfl (k0 := 0) rfl rfl hl.1 rfl (Nat.le_of_ble_eq_true rfl) d_law_458 ⟨hc0, hs0⟩ hP hD hS hA [16, 17, 18, 19, 20, 21, 22, 23, 24, 25, 26, 27, 28, 29, 30, 31] [0, 1, 2, 3, 4, 5, 6, 7, 8, 9, 10, 11, 12, 13, 14, 15, 32] [0, 1, 2, 3, 4, 5, 6, 7, 8, 9, 10, 11, 12, 13, 14, 15, 17, 18, 19, 20, 21, 22, 23, 24, 25, 26, 27, 28, 29, 30, 31, 32, 16] rfl rfl (by decide) (by decide) rfl (by decide) (by decide) (fun H locs hP hD hS => ?_)
                          refine lv_icmp_eq (tgt := 1014) hx hb d_law_461 (by decide) (fun c_461 => ?_) (fun c_461 => ?_)
                          · have hM := itT hM c_461
                            refine lv_iinc (v := x4 + 5) (lv' := [(4, .int (x4 + 5)), (0, .ref b), (1, .ref qO), (2, .ref qM), (3, .ref qU)]) hx hb d_law_1014 hl (k := 4) rfl rfl (by decide) rfl (fun ls hl => ?_)
                            refine lv_goto (tgt := 23) hx hb d_law_1017 (by decide) ?_
                            refine W.widen (k := 1067 - n) (n := 10328 - 6 * n) (by omega) (by omega) ?_
                            exact ih (by omega) (x4 + 5) done brd tup tdn askd answ tlen tpl tsg rlen rsz rsg psz pcd pld pct lpr lful_440 ljn fsz fkd ffr fto e_thrown_458 e_signs e_rows e_parts e_done e_barred e_pairs e_full_458 e_up e_down e_proofs e_asked e_text e_read e_begins e_tried e_partCode e_partLand e_partCents e_joined e_proofKind e_proofFrom e_proofTo e_told e_live e_any e_all uout hM _ _ _ hP hD hS (lv_sub hl [1, 2, 3, 4, 0] rfl)
                          · have hM := itF hM c_461
                            refine lv_iconst (v := 0) hx hb d_law_464 (by decide) ?_
                            exact absurd hM (by simp)
                        · have hM := itF hM c_450
                          refine lv_iconst (v := 1) hx hb d_law_453 (by decide) ?_
                          refine lv_goto (tgt := 458) hx hb d_law_454 (by decide) ?_
                          obtain ⟨r_458, e_thrown_458, e_full_458, hc_458, hM⟩ := bd3T hM
                          refine ca_V (As := [.int (bI true)]) (rest := [.int (bI r_440)]) (wr := [(qO, .inr (0, [.ref qT, .ref qR, .ref qP, .ref qL, .ref qF, .int done, .int brd, .int tup, .int tdn, .ref qOa, .int askd])), (qOa, .inl (cT 0, 149, .inl answ)), (qT, .inr (1, [.ref qTs, .int tlen, .int tpl])), (qTs, .inl (cT 2, 300, .inl tsg)), (qR, .inr (2, [.ref qRs, .int rlen, .int rsz])), (qRs, .inl (cT 2, 300, .inl rsg)), (qP, .inr (3, [.ref qPc, .ref qPl, .ref qPv, .int psz])), (qPc, .inl (cT 0, 12, .inl pcd)), (qPl, .inl (cT 0, 12, .inl pld)), (qPv, .inl (cT 1, 12, .inr (.inl pct))), (qL, .inr (4, [.ref qLj, .int lpr, .int (bI lful_440)])), (qLj, .inl (cT 0, 10, .inl ljn)), (qF, .inr (5, [.ref qFk, .ref qFf, .ref qFl, .int fsz])), (qFk, .inl (cT 0, 20, .inl fkd)), (qFf, .inl (cT 0, 20, .inl ffr)), (qFl, .inl (cT 0, 20, .inl fto)), (qU, .inl (cT 1, 1, .inr (.inl uout)))]) (w2 := [(qO, .inr (0, [.ref qT, .ref qR, .ref qP, .ref qL, .ref qF, .int done, .int brd, .int tup, .int tdn, .ref qOa, .int askd])), (qOa, .inl (cT 0, 149, .inl answ)), (qT, .inr (1, [.ref qTs, .int tlen, .int tpl])), (qTs, .inl (cT 2, 300, .inl tsg)), (qR, .inr (2, [.ref qRs, .int rlen, .int rsz])), (qRs, .inl (cT 2, 300, .inl rsg)), (qP, .inr (3, [.ref qPc, .ref qPl, .ref qPv, .int psz])), (qPc, .inl (cT 0, 12, .inl pcd)), (qPl, .inl (cT 0, 12, .inl pld)), (qPv, .inl (cT 1, 12, .inr (.inl pct))), (qL, .inr (4, [.ref qLj, .int lpr, .int (bI lful_440)])), (qLj, .inl (cT 0, 10, .inl ljn)), (qF, .inr (5, [.ref qFk, .ref qFf, .ref qFl, .int fsz])), (qFk, .inl (cT 0, 20, .inl fkd)), (qFf, .inl (cT 0, 20, .inl ffr)), (qFl, .inl (cT 0, 20, .inl fto)), (qM, .inr (6, [.int e_thrown_458, .ref qMtext, .int e_signs, .ref qMread, .ref qMbegins, .int e_rows, .ref qMtried, .int e_parts, .ref qMpartCode, .ref qMpartLand, .ref qMpartCents, .int e_done, .int e_barred, .ref qMjoined, .int e_pairs, .int (bI e_full_458), .int e_up, .int e_down, .int e_proofs, .ref qMproofKind, .ref qMproofFrom, .ref qMproofTo, .int e_asked, .ref qMtold, .ref qMlive, .ref qMany, .ref qMall])), (qMtext, .inl (cT 0, 300, .inl e_text)), (qMread, .inl (cT 0, 300, .inl e_read)), (qMbegins, .inl (cT 0, 21, .inl e_begins)), (qMtried, .inl (cT 0, 21, .inl e_tried)), (qMpartCode, .inl (cT 0, 12, .inl e_partCode)), (qMpartLand, .inl (cT 0, 12, .inl e_partLand)), (qMpartCents, .inl (cT 1, 12, .inr (.inl e_partCents))), (qMjoined, .inl (cT 3, 100, .inl e_joined)), (qMproofKind, .inl (cT 0, 20, .inl e_proofKind)), (qMproofFrom, .inl (cT 0, 20, .inl e_proofFrom)), (qMproofTo, .inl (cT 0, 20, .inl e_proofTo)), (qMtold, .inl (cT 0, 300, .inl e_told)), (qMlive, .inl (cT 3, 9, .inl e_live)), (qMany, .inl (cT 3, 9, .inl e_any)), (qMall, .inl (cT 3, 9, .inl e_all)), (qU, .inl (cT 1, 1, .inr (.inl uout)))]) S hE (c_Md_full l D cT qM qMtext qMread qMbegins qMtried qMpartCode qMpartLand qMpartCents qMjoined qMproofKind qMproofFrom qMproofTo qMtold qMlive qMany qMall e_thrown e_signs e_rows e_parts e_done e_barred e_pairs e_full e_up e_down e_proofs e_asked e_text e_read e_begins e_tried e_partCode e_partLand e_partCents e_joined e_proofKind e_proofFrom e_proofTo e_told e_live e_any e_all true hc_458) gw_9574c9a0 rfl rfl ⟨Nat.le_of_ble_eq_true rfl, Nat.le_of_ble_eq_true rfl⟩ (ci := 6) rfl rfl (k0 := 0) rfl rfl hl.1 rfl (Nat.le_of_ble_eq_true rfl) d_law_458 ⟨hc0, hs0⟩ hP hD hS hA [16, 17, 18, 19, 20, 21, 22, 23, 24, 25, 26, 27, 28, 29, 30, 31] [0, 1, 2, 3, 4, 5, 6, 7, 8, 9, 10, 11, 12, 13, 14, 15, 32] [0, 1, 2, 3, 4, 5, 6, 7, 8, 9, 10, 11, 12, 13, 14, 15, 17, 18, 19, 20, 21, 22, 23, 24, 25, 26, 27, 28, 29, 30, 31, 32, 16] rfl rfl (by decide) (by decide) rfl (by decide) (by decide) (fun H locs hP hD hS => ?_)
                          refine lv_icmp_eq (tgt := 1014) hx hb d_law_461 (by decide) (fun c_461 => ?_) (fun c_461 => ?_)
                          · have hM := itT hM c_461
                            refine lv_iinc (v := x4 + 5) (lv' := [(4, .int (x4 + 5)), (0, .ref b), (1, .ref qO), (2, .ref qM), (3, .ref qU)]) hx hb d_law_1014 hl (k := 4) rfl rfl (by decide) rfl (fun ls hl => ?_)
                            refine lv_goto (tgt := 23) hx hb d_law_1017 (by decide) ?_
                            refine W.widen (k := 1067 - n) (n := 10328 - 6 * n) (by omega) (by omega) ?_
                            exact ih (by omega) (x4 + 5) done brd tup tdn askd answ tlen tpl tsg rlen rsz rsg psz pcd pld pct lpr lful_440 ljn fsz fkd ffr fto e_thrown_458 e_signs e_rows e_parts e_done e_barred e_pairs e_full_458 e_up e_down e_proofs e_asked e_text e_read e_begins e_tried e_partCode e_partLand e_partCents e_joined e_proofKind e_proofFrom e_proofTo e_told e_live e_any e_all uout hM _ _ _ hP hD hS (lv_sub hl [1, 2, 3, 4, 0] rfl)
                          · have hM := itF hM c_461
                            refine lv_iconst (v := 0) hx hb d_law_464 (by decide) ?_
                            exact absurd hM (by simp)
                    · have hM := itF hM c_39_7
                      by_cases c_39_8 : ((xs x4.toNatClampNeg) &&& 15) = 8
                      · have hM := itT hM c_39_8
                        refine lv_tableIn (tgt := 466) hx hb d_law_39 (by rw [c_39_8]; decide) (by rw [c_39_8]; decide) (by rw [c_39_8]; rfl) (by decide) ?_
                        refine lv_aload_n hx hb d_law_466 rfl (lv_at hl 1 rfl) ?_
                        refine lv_aload_n hx hb d_law_467 rfl (lv_at hl 0 rfl) ?_
                        refine lv_iload hx hb d_law_468 (lv_at hl 4 rfl) ?_
                        refine lv_iconst (v := 1) hx hb d_law_470 (by decide) ?_
                        refine lv_iadd hx hb d_law_471 ?_
                        obtain ⟨hin_472, hM⟩ := ixT hM
                        refine va_sld hx hb hX hbl hbA hS hin_472 d_law_472 ?_
                        refine lv_aload_n hx hb d_law_473 rfl (lv_at hl 0 rfl) ?_
                        refine lv_iload hx hb d_law_474 (lv_at hl 4 rfl) ?_
                        refine lv_iconst (v := 2) hx hb d_law_476 (by decide) ?_
                        refine lv_iadd hx hb d_law_477 ?_
                        obtain ⟨hin_478, hM⟩ := ixT hM
                        refine va_sld hx hb hX hbl hbA hS hin_478 d_law_478 ?_
                        obtain ⟨r_479, tup_479, tdn_479, hc_479, hM⟩ := bd3T hM
                        refine ca_V (As := [.int (xs (x4 + 1).toNatClampNeg), .int (xs (x4 + 2).toNatClampNeg)]) (rest := []) (wr := [(qM, .inr (6, [.int e_thrown, .ref qMtext, .int e_signs, .ref qMread, .ref qMbegins, .int e_rows, .ref qMtried, .int e_parts, .ref qMpartCode, .ref qMpartLand, .ref qMpartCents, .int e_done, .int e_barred, .ref qMjoined, .int e_pairs, .int (bI e_full), .int e_up, .int e_down, .int e_proofs, .ref qMproofKind, .ref qMproofFrom, .ref qMproofTo, .int e_asked, .ref qMtold, .ref qMlive, .ref qMany, .ref qMall])), (qMtext, .inl (cT 0, 300, .inl e_text)), (qMread, .inl (cT 0, 300, .inl e_read)), (qMbegins, .inl (cT 0, 21, .inl e_begins)), (qMtried, .inl (cT 0, 21, .inl e_tried)), (qMpartCode, .inl (cT 0, 12, .inl e_partCode)), (qMpartLand, .inl (cT 0, 12, .inl e_partLand)), (qMpartCents, .inl (cT 1, 12, .inr (.inl e_partCents))), (qMjoined, .inl (cT 3, 100, .inl e_joined)), (qMproofKind, .inl (cT 0, 20, .inl e_proofKind)), (qMproofFrom, .inl (cT 0, 20, .inl e_proofFrom)), (qMproofTo, .inl (cT 0, 20, .inl e_proofTo)), (qMtold, .inl (cT 0, 300, .inl e_told)), (qMlive, .inl (cT 3, 9, .inl e_live)), (qMany, .inl (cT 3, 9, .inl e_any)), (qMall, .inl (cT 3, 9, .inl e_all)), (qU, .inl (cT 1, 1, .inr (.inl uout)))]) (w2 := [(qO, .inr (0, [.ref qT, .ref qR, .ref qP, .ref qL, .ref qF, .int done, .int brd, .int tup_479, .int tdn_479, .ref qOa, .int askd])), (qOa, .inl (cT 0, 149, .inl answ)), (qT, .inr (1, [.ref qTs, .int tlen, .int tpl])), (qTs, .inl (cT 2, 300, .inl tsg)), (qR, .inr (2, [.ref qRs, .int rlen, .int rsz])), (qRs, .inl (cT 2, 300, .inl rsg)), (qP, .inr (3, [.ref qPc, .ref qPl, .ref qPv, .int psz])), (qPc, .inl (cT 0, 12, .inl pcd)), (qPl, .inl (cT 0, 12, .inl pld)), (qPv, .inl (cT 1, 12, .inr (.inl pct))), (qL, .inr (4, [.ref qLj, .int lpr, .int (bI lful)])), (qLj, .inl (cT 0, 10, .inl ljn)), (qF, .inr (5, [.ref qFk, .ref qFf, .ref qFl, .int fsz])), (qFk, .inl (cT 0, 20, .inl fkd)), (qFf, .inl (cT 0, 20, .inl ffr)), (qFl, .inl (cT 0, 20, .inl fto)), (qM, .inr (6, [.int e_thrown, .ref qMtext, .int e_signs, .ref qMread, .ref qMbegins, .int e_rows, .ref qMtried, .int e_parts, .ref qMpartCode, .ref qMpartLand, .ref qMpartCents, .int e_done, .int e_barred, .ref qMjoined, .int e_pairs, .int (bI e_full), .int e_up, .int e_down, .int e_proofs, .ref qMproofKind, .ref qMproofFrom, .ref qMproofTo, .int e_asked, .ref qMtold, .ref qMlive, .ref qMany, .ref qMall])), (qMtext, .inl (cT 0, 300, .inl e_text)), (qMread, .inl (cT 0, 300, .inl e_read)), (qMbegins, .inl (cT 0, 21, .inl e_begins)), (qMtried, .inl (cT 0, 21, .inl e_tried)), (qMpartCode, .inl (cT 0, 12, .inl e_partCode)), (qMpartLand, .inl (cT 0, 12, .inl e_partLand)), (qMpartCents, .inl (cT 1, 12, .inr (.inl e_partCents))), (qMjoined, .inl (cT 3, 100, .inl e_joined)), (qMproofKind, .inl (cT 0, 20, .inl e_proofKind)), (qMproofFrom, .inl (cT 0, 20, .inl e_proofFrom)), (qMproofTo, .inl (cT 0, 20, .inl e_proofTo)), (qMtold, .inl (cT 0, 300, .inl e_told)), (qMlive, .inl (cT 3, 9, .inl e_live)), (qMany, .inl (cT 3, 9, .inl e_any)), (qMall, .inl (cT 3, 9, .inl e_all)), (qU, .inl (cT 1, 1, .inr (.inl uout)))]) S hE (c_Or_tolerance l D cT qO qOa qT qTs qR qRs qP qPc qPl qPv qL qLj qF qFk qFf qFl done brd tup tdn askd answ tlen tpl tsg rlen rsz rsg psz pcd pld pct lpr lful ljn fsz fkd ffr fto (xs (x4 + 1).toNatClampNeg) (xs (x4 + 2).toNatClampNeg) hc_479) gw_e29df6ba rfl rfl ⟨Nat.le_of_ble_eq_true rfl, Nat.le_of_ble_eq_true rfl⟩ (ci := 0) rfl rfl (k0 := 0) rfl rfl hl.1 rfl (Nat.le_of_ble_eq_true rfl) d_law_479 ⟨hc0, hs0⟩ hP hD hS hA [0, 1, 2, 3, 4, 5, 6, 7, 8, 9, 10, 11, 12, 13, 14, 15] [16, 17, 18, 19, 20, 21, 22, 23, 24, 25, 26, 27, 28, 29, 30, 31, 32] [17, 18, 19, 20, 21, 22, 23, 24, 25, 26, 27, 28, 29, 30, 31, 32, 0, 1, 2, 3, 4, 5, 6, 7, 8, 9, 10, 11, 12, 13, 14, 15, 16] rfl rfl (by decide) (by decide) rfl (by decide) (by decide) (fun H locs hP hD hS => ?_)
                        refine lv_aload_n hx hb d_law_482 rfl (lv_at hl 2 rfl) ?_
                        refine lv_aload_n hx hb d_law_483 rfl (lv_at hl 0 rfl) ?_
                        refine lv_iload hx hb d_law_484 (lv_at hl 4 rfl) ?_
                        refine lv_iconst (v := 1) hx hb d_law_486 (by decide) ?_
                        refine lv_iadd hx hb d_law_487 ?_
                        obtain ⟨hin_488, hM⟩ := ixT hM
                        refine va_sld hx hb hX hbl hbA hS hin_488 d_law_488 ?_
                        refine lv_aload_n hx hb d_law_489 rfl (lv_at hl 0 rfl) ?_
                        refine lv_iload hx hb d_law_490 (lv_at hl 4 rfl) ?_
                        refine lv_iconst (v := 2) hx hb d_law_492 (by decide) ?_
                        refine lv_iadd hx hb d_law_493 ?_
                        obtain ⟨hin_494, hM⟩ := ixT hM
                        refine va_sld hx hb hX hbl hbA hS hin_494 d_law_494 ?_
                        obtain ⟨r_495, e_thrown_495, e_up_495, e_down_495, hc_495, hM⟩ := bd4T hM
                        refine ca_V (As := [.int (xs (x4 + 1).toNatClampNeg), .int (xs (x4 + 2).toNatClampNeg)]) (rest := [.int (bI r_479)]) (wr := [(qO, .inr (0, [.ref qT, .ref qR, .ref qP, .ref qL, .ref qF, .int done, .int brd, .int tup_479, .int tdn_479, .ref qOa, .int askd])), (qOa, .inl (cT 0, 149, .inl answ)), (qT, .inr (1, [.ref qTs, .int tlen, .int tpl])), (qTs, .inl (cT 2, 300, .inl tsg)), (qR, .inr (2, [.ref qRs, .int rlen, .int rsz])), (qRs, .inl (cT 2, 300, .inl rsg)), (qP, .inr (3, [.ref qPc, .ref qPl, .ref qPv, .int psz])), (qPc, .inl (cT 0, 12, .inl pcd)), (qPl, .inl (cT 0, 12, .inl pld)), (qPv, .inl (cT 1, 12, .inr (.inl pct))), (qL, .inr (4, [.ref qLj, .int lpr, .int (bI lful)])), (qLj, .inl (cT 0, 10, .inl ljn)), (qF, .inr (5, [.ref qFk, .ref qFf, .ref qFl, .int fsz])), (qFk, .inl (cT 0, 20, .inl fkd)), (qFf, .inl (cT 0, 20, .inl ffr)), (qFl, .inl (cT 0, 20, .inl fto)), (qU, .inl (cT 1, 1, .inr (.inl uout)))]) (w2 := [(qO, .inr (0, [.ref qT, .ref qR, .ref qP, .ref qL, .ref qF, .int done, .int brd, .int tup_479, .int tdn_479, .ref qOa, .int askd])), (qOa, .inl (cT 0, 149, .inl answ)), (qT, .inr (1, [.ref qTs, .int tlen, .int tpl])), (qTs, .inl (cT 2, 300, .inl tsg)), (qR, .inr (2, [.ref qRs, .int rlen, .int rsz])), (qRs, .inl (cT 2, 300, .inl rsg)), (qP, .inr (3, [.ref qPc, .ref qPl, .ref qPv, .int psz])), (qPc, .inl (cT 0, 12, .inl pcd)), (qPl, .inl (cT 0, 12, .inl pld)), (qPv, .inl (cT 1, 12, .inr (.inl pct))), (qL, .inr (4, [.ref qLj, .int lpr, .int (bI lful)])), (qLj, .inl (cT 0, 10, .inl ljn)), (qF, .inr (5, [.ref qFk, .ref qFf, .ref qFl, .int fsz])), (qFk, .inl (cT 0, 20, .inl fkd)), (qFf, .inl (cT 0, 20, .inl ffr)), (qFl, .inl (cT 0, 20, .inl fto)), (qM, .inr (6, [.int e_thrown_495, .ref qMtext, .int e_signs, .ref qMread, .ref qMbegins, .int e_rows, .ref qMtried, .int e_parts, .ref qMpartCode, .ref qMpartLand, .ref qMpartCents, .int e_done, .int e_barred, .ref qMjoined, .int e_pairs, .int (bI e_full), .int e_up_495, .int e_down_495, .int e_proofs, .ref qMproofKind, .ref qMproofFrom, .ref qMproofTo, .int e_asked, .ref qMtold, .ref qMlive, .ref qMany, .ref qMall])), (qMtext, .inl (cT 0, 300, .inl e_text)), (qMread, .inl (cT 0, 300, .inl e_read)), (qMbegins, .inl (cT 0, 21, .inl e_begins)), (qMtried, .inl (cT 0, 21, .inl e_tried)), (qMpartCode, .inl (cT 0, 12, .inl e_partCode)), (qMpartLand, .inl (cT 0, 12, .inl e_partLand)), (qMpartCents, .inl (cT 1, 12, .inr (.inl e_partCents))), (qMjoined, .inl (cT 3, 100, .inl e_joined)), (qMproofKind, .inl (cT 0, 20, .inl e_proofKind)), (qMproofFrom, .inl (cT 0, 20, .inl e_proofFrom)), (qMproofTo, .inl (cT 0, 20, .inl e_proofTo)), (qMtold, .inl (cT 0, 300, .inl e_told)), (qMlive, .inl (cT 3, 9, .inl e_live)), (qMany, .inl (cT 3, 9, .inl e_any)), (qMall, .inl (cT 3, 9, .inl e_all)), (qU, .inl (cT 1, 1, .inr (.inl uout)))]) S hE (c_Md_tolerance l D cT qM qMtext qMread qMbegins qMtried qMpartCode qMpartLand qMpartCents qMjoined qMproofKind qMproofFrom qMproofTo qMtold qMlive qMany qMall e_thrown e_signs e_rows e_parts e_done e_barred e_pairs e_full e_up e_down e_proofs e_asked e_text e_read e_begins e_tried e_partCode e_partLand e_partCents e_joined e_proofKind e_proofFrom e_proofTo e_told e_live e_any e_all (xs (x4 + 1).toNatClampNeg) (xs (x4 + 2).toNatClampNeg) hc_495) gw_61901fda rfl rfl ⟨Nat.le_of_ble_eq_true rfl, Nat.le_of_ble_eq_true rfl⟩ (ci := 6) rfl rfl (k0 := 0) rfl rfl hl.1 rfl (Nat.le_of_ble_eq_true rfl) d_law_495 ⟨hc0, hs0⟩ hP hD hS hA [16, 17, 18, 19, 20, 21, 22, 23, 24, 25, 26, 27, 28, 29, 30, 31] [0, 1, 2, 3, 4, 5, 6, 7, 8, 9, 10, 11, 12, 13, 14, 15, 32] [0, 1, 2, 3, 4, 5, 6, 7, 8, 9, 10, 11, 12, 13, 14, 15, 17, 18, 19, 20, 21, 22, 23, 24, 25, 26, 27, 28, 29, 30, 31, 32, 16] rfl rfl (by decide) (by decide) rfl (by decide) (by decide) (fun H locs hP hD hS => ?_)
                        refine lv_icmp_eq (tgt := 1014) hx hb d_law_498 (by decide) (fun c_498 => ?_) (fun c_498 => ?_)
                        · have hM := itT hM c_498
                          refine lv_iinc (v := x4 + 5) (lv' := [(4, .int (x4 + 5)), (0, .ref b), (1, .ref qO), (2, .ref qM), (3, .ref qU)]) hx hb d_law_1014 hl (k := 4) rfl rfl (by decide) rfl (fun ls hl => ?_)
                          refine lv_goto (tgt := 23) hx hb d_law_1017 (by decide) ?_
                          refine W.widen (k := 1067 - n) (n := 10328 - 6 * n) (by omega) (by omega) ?_
                          exact ih (by omega) (x4 + 5) done brd tup_479 tdn_479 askd answ tlen tpl tsg rlen rsz rsg psz pcd pld pct lpr lful ljn fsz fkd ffr fto e_thrown_495 e_signs e_rows e_parts e_done e_barred e_pairs e_full e_up_495 e_down_495 e_proofs e_asked e_text e_read e_begins e_tried e_partCode e_partLand e_partCents e_joined e_proofKind e_proofFrom e_proofTo e_told e_live e_any e_all uout hM _ _ _ hP hD hS (lv_sub hl [1, 2, 3, 4, 0] rfl)
                        · have hM := itF hM c_498
                          refine lv_iconst (v := 0) hx hb d_law_501 (by decide) ?_
                          exact absurd hM (by simp)
                      · have hM := itF hM c_39_8
                        by_cases c_39_9 : ((xs x4.toNatClampNeg) &&& 15) = 9
                        · have hM := itT hM c_39_9
                          refine lv_tableIn (tgt := 503) hx hb d_law_39 (by rw [c_39_9]; decide) (by rw [c_39_9]; decide) (by rw [c_39_9]; rfl) (by decide) ?_
                          refine lv_aload_n hx hb d_law_503 rfl (lv_at hl 1 rfl) ?_
                          refine lv_aload_n hx hb d_law_504 rfl (lv_at hl 0 rfl) ?_
                          refine lv_iload hx hb d_law_505 (lv_at hl 4 rfl) ?_
                          refine lv_iconst (v := 1) hx hb d_law_507 (by decide) ?_
                          refine lv_iadd hx hb d_law_508 ?_
                          obtain ⟨hin_509, hM⟩ := ixT hM
                          refine va_sld hx hb hX hbl hbA hS hin_509 d_law_509 ?_
                          refine lv_aload_n hx hb d_law_510 rfl (lv_at hl 0 rfl) ?_
                          refine lv_iload hx hb d_law_511 (lv_at hl 4 rfl) ?_
                          refine lv_iconst (v := 2) hx hb d_law_513 (by decide) ?_
                          refine lv_iadd hx hb d_law_514 ?_
                          obtain ⟨hin_515, hM⟩ := ixT hM
                          refine va_sld hx hb hX hbl hbA hS hin_515 d_law_515 ?_
                          refine lv_i2l hx hb d_law_516 rfl ?_
                          refine lv_bipush (v := 32) hx hb d_law_517 (by decide) ?_
                          refine lv_lshl hx hb d_law_519 rfl ?_
                          refine lv_aload_n hx hb d_law_520 rfl (lv_at hl 0 rfl) ?_
                          refine lv_iload hx hb d_law_521 (lv_at hl 4 rfl) ?_
                          refine lv_iconst (v := 3) hx hb d_law_523 (by decide) ?_
                          refine lv_iadd hx hb d_law_524 ?_
                          obtain ⟨hin_525, hM⟩ := ixT hM
                          refine va_sld hx hb hX hbl hbA hS hin_525 d_law_525 ?_
                          refine lv_i2l hx hb d_law_526 rfl ?_
                          refine lv_ldc2 (v := 4294967295) hx hb hown (hts _ iw_14dbc7c5) d_law_527 ?_
                          refine lv_land hx hb d_law_530 ?_
                          refine lv_lor hx hb d_law_531 ?_
                          refine lv_aload_n hx hb d_law_532 rfl (lv_at hl 3 rfl) ?_
                          obtain ⟨r_533, askd_533, answ_533, uout_533, hc_533, hM⟩ := bd4T hM
                          refine cl_H (As := [.ref qO, .int (xs (x4 + 1).toNatClampNeg), .long ((((xs (x4 + 2).toNatClampNeg).toInt64) <<< (((32 : Int32)).toInt64 &&& 63)) ||| (((xs (x4 + 3).toNatClampNeg).toInt64) &&& 4294967295)), .ref qU]) (rest := []) (wr := [(qM, .inr (6, [.int e_thrown, .ref qMtext, .int e_signs, .ref qMread, .ref qMbegins, .int e_rows, .ref qMtried, .int e_parts, .ref qMpartCode, .ref qMpartLand, .ref qMpartCents, .int e_done, .int e_barred, .ref qMjoined, .int e_pairs, .int (bI e_full), .int e_up, .int e_down, .int e_proofs, .ref qMproofKind, .ref qMproofFrom, .ref qMproofTo, .int e_asked, .ref qMtold, .ref qMlive, .ref qMany, .ref qMall])), (qMtext, .inl (cT 0, 300, .inl e_text)), (qMread, .inl (cT 0, 300, .inl e_read)), (qMbegins, .inl (cT 0, 21, .inl e_begins)), (qMtried, .inl (cT 0, 21, .inl e_tried)), (qMpartCode, .inl (cT 0, 12, .inl e_partCode)), (qMpartLand, .inl (cT 0, 12, .inl e_partLand)), (qMpartCents, .inl (cT 1, 12, .inr (.inl e_partCents))), (qMjoined, .inl (cT 3, 100, .inl e_joined)), (qMproofKind, .inl (cT 0, 20, .inl e_proofKind)), (qMproofFrom, .inl (cT 0, 20, .inl e_proofFrom)), (qMproofTo, .inl (cT 0, 20, .inl e_proofTo)), (qMtold, .inl (cT 0, 300, .inl e_told)), (qMlive, .inl (cT 3, 9, .inl e_live)), (qMany, .inl (cT 3, 9, .inl e_any)), (qMall, .inl (cT 3, 9, .inl e_all))]) (w2 := [(qO, .inr (0, [.ref qT, .ref qR, .ref qP, .ref qL, .ref qF, .int done, .int brd, .int tup, .int tdn, .ref qOa, .int askd_533])), (qOa, .inl (cT 0, 149, .inl answ_533)), (qT, .inr (1, [.ref qTs, .int tlen, .int tpl])), (qTs, .inl (cT 2, 300, .inl tsg)), (qR, .inr (2, [.ref qRs, .int rlen, .int rsz])), (qRs, .inl (cT 2, 300, .inl rsg)), (qP, .inr (3, [.ref qPc, .ref qPl, .ref qPv, .int psz])), (qPc, .inl (cT 0, 12, .inl pcd)), (qPl, .inl (cT 0, 12, .inl pld)), (qPv, .inl (cT 1, 12, .inr (.inl pct))), (qL, .inr (4, [.ref qLj, .int lpr, .int (bI lful)])), (qLj, .inl (cT 0, 10, .inl ljn)), (qF, .inr (5, [.ref qFk, .ref qFf, .ref qFl, .int fsz])), (qFk, .inl (cT 0, 20, .inl fkd)), (qFf, .inl (cT 0, 20, .inl ffr)), (qFl, .inl (cT 0, 20, .inl fto)), (qM, .inr (6, [.int e_thrown, .ref qMtext, .int e_signs, .ref qMread, .ref qMbegins, .int e_rows, .ref qMtried, .int e_parts, .ref qMpartCode, .ref qMpartLand, .ref qMpartCents, .int e_done, .int e_barred, .ref qMjoined, .int e_pairs, .int (bI e_full), .int e_up, .int e_down, .int e_proofs, .ref qMproofKind, .ref qMproofFrom, .ref qMproofTo, .int e_asked, .ref qMtold, .ref qMlive, .ref qMany, .ref qMall])), (qMtext, .inl (cT 0, 300, .inl e_text)), (qMread, .inl (cT 0, 300, .inl e_read)), (qMbegins, .inl (cT 0, 21, .inl e_begins)), (qMtried, .inl (cT 0, 21, .inl e_tried)), (qMpartCode, .inl (cT 0, 12, .inl e_partCode)), (qMpartLand, .inl (cT 0, 12, .inl e_partLand)), (qMpartCents, .inl (cT 1, 12, .inr (.inl e_partCents))), (qMjoined, .inl (cT 3, 100, .inl e_joined)), (qMproofKind, .inl (cT 0, 20, .inl e_proofKind)), (qMproofFrom, .inl (cT 0, 20, .inl e_proofFrom)), (qMproofTo, .inl (cT 0, 20, .inl e_proofTo)), (qMtold, .inl (cT 0, 300, .inl e_told)), (qMlive, .inl (cT 3, 9, .inl e_live)), (qMany, .inl (cT 3, 9, .inl e_any)), (qMall, .inl (cT 3, 9, .inl e_all)), (qU, .inl (cT 1, 1, .inr (.inl uout_533)))]) S hE hTE hNc (c_Law_verdict l hl0 D cT qO qOa qT qTs qR qRs qP qPc qPl qPv qL qLj qF qFk qFf qFl qU done brd tup tdn askd answ tlen tpl tsg rlen rsz rsg psz pcd pld pct lpr lful ljn fsz fkd ffr fto uout (xs (x4 + 1).toNatClampNeg) ((((xs (x4 + 2).toNatClampNeg).toInt64) <<< (((32 : Int32)).toInt64 &&& 63)) ||| (((xs (x4 + 3).toNatClampNeg).toInt64) &&& 4294967295)) hc_533) gw_60a98cdf rfl rfl ⟨Nat.le_of_ble_eq_true rfl, Nat.le_of_ble_eq_true rfl⟩ rfl hl.1 rfl (Nat.le_of_ble_eq_true rfl) d_law_533 ⟨hc1, hs1⟩ hP hD hS hA [0, 1, 2, 3, 4, 5, 6, 7, 8, 9, 10, 11, 12, 13, 14, 15, 32] [16, 17, 18, 19, 20, 21, 22, 23, 24, 25, 26, 27, 28, 29, 30, 31] [16, 17, 18, 19, 20, 21, 22, 23, 24, 25, 26, 27, 28, 29, 30, 31, 0, 1, 2, 3, 4, 5, 6, 7, 8, 9, 10, 11, 12, 13, 14, 15, 32] rfl rfl (by decide) (by decide) rfl (by decide) (by decide) (fun H locs hP hD hS => ?_)
                          refine lv_istore (lv' := [(5, .int r_533), (0, .ref b), (1, .ref qO), (2, .ref qM), (3, .ref qU), (4, .int x4)]) hx hb d_law_536 hl (by decide) rfl (fun ls hl => ?_)
                          refine lv_aload_n hx hb d_law_538 rfl (lv_at hl 3 rfl) ?_
                          refine lv_aload_n hx hb d_law_539 rfl (lv_at hl 1 rfl) ?_
                          refine lv_iload hx hb d_law_540 (lv_at hl 5 rfl) ?_
                          refine lv_iconst (v := 1) hx hb d_law_542 (by decide) ?_
                          refine lv_iadd hx hb d_law_543 ?_
                          obtain ⟨hin_544, hM⟩ := ixT hM
                          refine va_sld hx hb hX hbl hbA hS hin_544 d_law_544 ?_
                          refine lv_aload_n hx hb d_law_545 rfl (lv_at hl 1 rfl) ?_
                          refine lv_iload hx hb d_law_546 (lv_at hl 5 rfl) ?_
                          refine lv_iconst (v := 2) hx hb d_law_548 (by decide) ?_
                          refine lv_iadd hx hb d_law_549 ?_
                          obtain ⟨hin_550, hM⟩ := ixT hM
                          refine va_sld hx hb hX hbl hbA hS hin_550 d_law_550 ?_
                          refine lv_i2l hx hb d_law_551 rfl ?_
                          refine lv_bipush (v := 32) hx hb d_law_552 (by decide) ?_
                          refine lv_lshl hx hb d_law_554 rfl ?_
                          refine lv_aload_n hx hb d_law_555 rfl (lv_at hl 1 rfl) ?_
                          refine lv_iload hx hb d_law_556 (lv_at hl 5 rfl) ?_
                          refine lv_iconst (v := 3) hx hb d_law_558 (by decide) ?_
                          refine lv_iadd hx hb d_law_559 ?_
                          obtain ⟨hin_560, hM⟩ := ixT hM
                          refine va_sld hx hb hX hbl hbA hS hin_560 d_law_560 ?_
                          refine lv_i2l hx hb d_law_561 rfl ?_
                          refine lv_ldc2 (v := 4294967295) hx hb hown (hts _ iw_14dbc7c5) d_law_562 ?_
                          refine lv_land hx hb d_law_565 ?_
                          refine lv_lor hx hb d_law_566 ?_
                          obtain ⟨r_567, e_thrown_567, e_asked_567, e_told_567, e_live_567, e_any_567, e_all_567, hc_567, hM⟩ := bd7T hM
                          refine ca_V (As := [.int (xs (x4 + 1).toNatClampNeg), .long ((((xs (x4 + 2).toNatClampNeg).toInt64) <<< (((32 : Int32)).toInt64 &&& 63)) ||| (((xs (x4 + 3).toNatClampNeg).toInt64) &&& 4294967295))]) (rest := []) (wr := [(qO, .inr (0, [.ref qT, .ref qR, .ref qP, .ref qL, .ref qF, .int done, .int brd, .int tup, .int tdn, .ref qOa, .int askd_533])), (qOa, .inl (cT 0, 149, .inl answ_533)), (qT, .inr (1, [.ref qTs, .int tlen, .int tpl])), (qTs, .inl (cT 2, 300, .inl tsg)), (qR, .inr (2, [.ref qRs, .int rlen, .int rsz])), (qRs, .inl (cT 2, 300, .inl rsg)), (qP, .inr (3, [.ref qPc, .ref qPl, .ref qPv, .int psz])), (qPc, .inl (cT 0, 12, .inl pcd)), (qPl, .inl (cT 0, 12, .inl pld)), (qPv, .inl (cT 1, 12, .inr (.inl pct))), (qL, .inr (4, [.ref qLj, .int lpr, .int (bI lful)])), (qLj, .inl (cT 0, 10, .inl ljn)), (qF, .inr (5, [.ref qFk, .ref qFf, .ref qFl, .int fsz])), (qFk, .inl (cT 0, 20, .inl fkd)), (qFf, .inl (cT 0, 20, .inl ffr)), (qFl, .inl (cT 0, 20, .inl fto)), (qU, .inl (cT 1, 1, .inr (.inl uout_533)))]) (w2 := [(qO, .inr (0, [.ref qT, .ref qR, .ref qP, .ref qL, .ref qF, .int done, .int brd, .int tup, .int tdn, .ref qOa, .int askd_533])), (qOa, .inl (cT 0, 149, .inl answ_533)), (qT, .inr (1, [.ref qTs, .int tlen, .int tpl])), (qTs, .inl (cT 2, 300, .inl tsg)), (qR, .inr (2, [.ref qRs, .int rlen, .int rsz])), (qRs, .inl (cT 2, 300, .inl rsg)), (qP, .inr (3, [.ref qPc, .ref qPl, .ref qPv, .int psz])), (qPc, .inl (cT 0, 12, .inl pcd)), (qPl, .inl (cT 0, 12, .inl pld)), (qPv, .inl (cT 1, 12, .inr (.inl pct))), (qL, .inr (4, [.ref qLj, .int lpr, .int (bI lful)])), (qLj, .inl (cT 0, 10, .inl ljn)), (qF, .inr (5, [.ref qFk, .ref qFf, .ref qFl, .int fsz])), (qFk, .inl (cT 0, 20, .inl fkd)), (qFf, .inl (cT 0, 20, .inl ffr)), (qFl, .inl (cT 0, 20, .inl fto)), (qM, .inr (6, [.int e_thrown_567, .ref qMtext, .int e_signs, .ref qMread, .ref qMbegins, .int e_rows, .ref qMtried, .int e_parts, .ref qMpartCode, .ref qMpartLand, .ref qMpartCents, .int e_done, .int e_barred, .ref qMjoined, .int e_pairs, .int (bI e_full), .int e_up, .int e_down, .int e_proofs, .ref qMproofKind, .ref qMproofFrom, .ref qMproofTo, .int e_asked_567, .ref qMtold, .ref qMlive, .ref qMany, .ref qMall])), (qMtext, .inl (cT 0, 300, .inl e_text)), (qMread, .inl (cT 0, 300, .inl e_read)), (qMbegins, .inl (cT 0, 21, .inl e_begins)), (qMtried, .inl (cT 0, 21, .inl e_tried)), (qMpartCode, .inl (cT 0, 12, .inl e_partCode)), (qMpartLand, .inl (cT 0, 12, .inl e_partLand)), (qMpartCents, .inl (cT 1, 12, .inr (.inl e_partCents))), (qMjoined, .inl (cT 3, 100, .inl e_joined)), (qMproofKind, .inl (cT 0, 20, .inl e_proofKind)), (qMproofFrom, .inl (cT 0, 20, .inl e_proofFrom)), (qMproofTo, .inl (cT 0, 20, .inl e_proofTo)), (qMtold, .inl (cT 0, 300, .inl e_told_567)), (qMlive, .inl (cT 3, 9, .inl e_live_567)), (qMany, .inl (cT 3, 9, .inl e_any_567)), (qMall, .inl (cT 3, 9, .inl e_all_567)), (qU, .inl (cT 1, 1, .inr (.inl uout_533)))]) S hE (c_Md_verdict l D cT qM qMtext qMread qMbegins qMtried qMpartCode qMpartLand qMpartCents qMjoined qMproofKind qMproofFrom qMproofTo qMtold qMlive qMany qMall e_thrown e_signs e_rows e_parts e_done e_barred e_pairs e_full e_up e_down e_proofs e_asked e_text e_read e_begins e_tried e_partCode e_partLand e_partCents e_joined e_proofKind e_proofFrom e_proofTo e_told e_live e_any e_all (xs (x4 + 1).toNatClampNeg) ((((xs (x4 + 2).toNatClampNeg).toInt64) <<< (((32 : Int32)).toInt64 &&& 63)) ||| (((xs (x4 + 3).toNatClampNeg).toInt64) &&& 4294967295)) hc_567) gw_21ffee6a rfl rfl ⟨Nat.le_of_ble_eq_true rfl, Nat.le_of_ble_eq_true rfl⟩ (ci := 6) rfl rfl (k0 := 0) rfl rfl hl.1 rfl (Nat.le_of_ble_eq_true rfl) d_law_567 ⟨hc1, hs1⟩ hP hD hS hA [16, 17, 18, 19, 20, 21, 22, 23, 24, 25, 26, 27, 28, 29, 30, 31] [0, 1, 2, 3, 4, 5, 6, 7, 8, 9, 10, 11, 12, 13, 14, 15, 32] [0, 1, 2, 3, 4, 5, 6, 7, 8, 9, 10, 11, 12, 13, 14, 15, 17, 18, 19, 20, 21, 22, 23, 24, 25, 26, 27, 28, 29, 30, 31, 32, 16] rfl rfl (by decide) (by decide) rfl (by decide) (by decide) (fun H locs hP hD hS => ?_)
                          refine lv_istore (lv' := [(6, .int r_567), (5, .int r_533), (0, .ref b), (1, .ref qO), (2, .ref qM), (3, .ref qU), (4, .int x4)]) hx hb d_law_570 hl (by decide) rfl (fun ls hl => ?_)
                          refine lv_aload_n hx hb d_law_572 rfl (lv_at hl 4 rfl) ?_
                          obtain ⟨r_573, hc_573, hM⟩ := bd1T hM
                          refine ca_V (As := []) (rest := []) (wr := [(qO, .inr (0, [.ref qT, .ref qR, .ref qP, .ref qL, .ref qF, .int done, .int brd, .int tup, .int tdn, .ref qOa, .int askd_533])), (qOa, .inl (cT 0, 149, .inl answ_533)), (qT, .inr (1, [.ref qTs, .int tlen, .int tpl])), (qTs, .inl (cT 2, 300, .inl tsg)), (qR, .inr (2, [.ref qRs, .int rlen, .int rsz])), (qRs, .inl (cT 2, 300, .inl rsg)), (qP, .inr (3, [.ref qPc, .ref qPl, .ref qPv, .int psz])), (qPc, .inl (cT 0, 12, .inl pcd)), (qPl, .inl (cT 0, 12, .inl pld)), (qPv, .inl (cT 1, 12, .inr (.inl pct))), (qL, .inr (4, [.ref qLj, .int lpr, .int (bI lful)])), (qLj, .inl (cT 0, 10, .inl ljn)), (qF, .inr (5, [.ref qFk, .ref qFf, .ref qFl, .int fsz])), (qFk, .inl (cT 0, 20, .inl fkd)), (qFf, .inl (cT 0, 20, .inl ffr)), (qFl, .inl (cT 0, 20, .inl fto)), (qU, .inl (cT 1, 1, .inr (.inl uout_533)))]) (w2 := [(qO, .inr (0, [.ref qT, .ref qR, .ref qP, .ref qL, .ref qF, .int done, .int brd, .int tup, .int tdn, .ref qOa, .int askd_533])), (qOa, .inl (cT 0, 149, .inl answ_533)), (qT, .inr (1, [.ref qTs, .int tlen, .int tpl])), (qTs, .inl (cT 2, 300, .inl tsg)), (qR, .inr (2, [.ref qRs, .int rlen, .int rsz])), (qRs, .inl (cT 2, 300, .inl rsg)), (qP, .inr (3, [.ref qPc, .ref qPl, .ref qPv, .int psz])), (qPc, .inl (cT 0, 12, .inl pcd)), (qPl, .inl (cT 0, 12, .inl pld)), (qPv, .inl (cT 1, 12, .inr (.inl pct))), (qL, .inr (4, [.ref qLj, .int lpr, .int (bI lful)])), (qLj, .inl (cT 0, 10, .inl ljn)), (qF, .inr (5, [.ref qFk, .ref qFf, .ref qFl, .int fsz])), (qFk, .inl (cT 0, 20, .inl fkd)), (qFf, .inl (cT 0, 20, .inl ffr)), (qFl, .inl (cT 0, 20, .inl fto)), (qM, .inr (6, [.int e_thrown_567, .ref qMtext, .int e_signs, .ref qMread, .ref qMbegins, .int e_rows, .ref qMtried, .int e_parts, .ref qMpartCode, .ref qMpartLand, .ref qMpartCents, .int e_done, .int e_barred, .ref qMjoined, .int e_pairs, .int (bI e_full), .int e_up, .int e_down, .int e_proofs, .ref qMproofKind, .ref qMproofFrom, .ref qMproofTo, .int e_asked_567, .ref qMtold, .ref qMlive, .ref qMany, .ref qMall])), (qMtext, .inl (cT 0, 300, .inl e_text)), (qMread, .inl (cT 0, 300, .inl e_read)), (qMbegins, .inl (cT 0, 21, .inl e_begins)), (qMtried, .inl (cT 0, 21, .inl e_tried)), (qMpartCode, .inl (cT 0, 12, .inl e_partCode)), (qMpartLand, .inl (cT 0, 12, .inl e_partLand)), (qMpartCents, .inl (cT 1, 12, .inr (.inl e_partCents))), (qMjoined, .inl (cT 3, 100, .inl e_joined)), (qMproofKind, .inl (cT 0, 20, .inl e_proofKind)), (qMproofFrom, .inl (cT 0, 20, .inl e_proofFrom)), (qMproofTo, .inl (cT 0, 20, .inl e_proofTo)), (qMtold, .inl (cT 0, 300, .inl e_told_567)), (qMlive, .inl (cT 3, 9, .inl e_live_567)), (qMany, .inl (cT 3, 9, .inl e_any_567)), (qMall, .inl (cT 3, 9, .inl e_all_567)), (qU, .inl (cT 1, 1, .inr (.inl uout_533)))]) S hE (c_Md_thrown l D cT qM qMtext qMread qMbegins qMtried qMpartCode qMpartLand qMpartCents qMjoined qMproofKind qMproofFrom qMproofTo qMtold qMlive qMany qMall e_thrown_567 e_signs e_rows e_parts e_done e_barred e_pairs e_full e_up e_down e_proofs e_asked_567 e_text e_read e_begins e_tried e_partCode e_partLand e_partCents e_joined e_proofKind e_proofFrom e_proofTo e_told_567 e_live_567 e_any_567 e_all_567 hc_573) gw_ba35c1bc rfl rfl ⟨Nat.le_of_ble_eq_true rfl, Nat.le_of_ble_eq_true rfl⟩ (ci := 6) rfl rfl (k0 := 0) rfl rfl hl.1 rfl (Nat.le_of_ble_eq_true rfl) d_law_573 ⟨hc1, hs1⟩ hP hD hS hA [16, 17, 18, 19, 20, 21, 22, 23, 24, 25, 26, 27, 28, 29, 30, 31] [0, 1, 2, 3, 4, 5, 6, 7, 8, 9, 10, 11, 12, 13, 14, 15, 32] [0, 1, 2, 3, 4, 5, 6, 7, 8, 9, 10, 11, 12, 13, 14, 15, 17, 18, 19, 20, 21, 22, 23, 24, 25, 26, 27, 28, 29, 30, 31, 32, 16] rfl rfl (by decide) (by decide) rfl (by decide) (by decide) (fun H locs hP hD hS => ?_)
                          refine lv_iload hx hb d_law_576 (lv_at hl 1 rfl) ?_
                          refine lv_icmp_eq (tgt := 583) hx hb d_law_578 (by decide) (fun c_578 => ?_) (fun c_578 => ?_)
                          · have hM := itT hM c_578
                            refine lv_iload hx hb d_law_583 (lv_at hl 1 rfl) ?_
                            refine lv_if_ne (tgt := 600) hx hb d_law_585 (by decide) (fun c_585 => ?_) (fun c_585 => ?_)
                            · have hM := itF hM c_585
                              refine lv_goto (tgt := 1014) hx hb d_law_600 (by decide) ?_
                              refine lv_iinc (v := x4 + 5) (lv' := [(4, .int (x4 + 5)), (6, .int r_567), (5, .int r_533), (0, .ref b), (1, .ref qO), (2, .ref qM), (3, .ref qU)]) hx hb d_law_1014 hl (k := 6) rfl rfl (by decide) rfl (fun ls hl => ?_)
                              refine lv_goto (tgt := 23) hx hb d_law_1017 (by decide) ?_
                              refine W.widen (k := 1067 - n) (n := 10328 - 6 * n) (by omega) (by omega) ?_
                              exact ih (by omega) (x4 + 5) done brd tup tdn askd_533 answ_533 tlen tpl tsg rlen rsz rsg psz pcd pld pct lpr lful ljn fsz fkd ffr fto e_thrown_567 e_signs e_rows e_parts e_done e_barred e_pairs e_full e_up e_down e_proofs e_asked_567 e_text e_read e_begins e_tried e_partCode e_partLand e_partCents e_joined e_proofKind e_proofFrom e_proofTo e_told_567 e_live_567 e_any_567 e_all_567 uout_533 hM _ _ _ hP hD hS (lv_sub hl [3, 4, 5, 6, 0] rfl)
                            · have hM := itT hM c_585
                              refine lv_aload_n hx hb d_law_588 rfl (lv_at hl 5 rfl) ?_
                              refine lv_iconst (v := 0) hx hb d_law_589 (by decide) ?_
                              obtain ⟨hin_590, hM⟩ := ixT hM
                              refine va_lald hx hb hK hP 32 1 rfl rfl hin_590 d_law_590 ?_
                              refine lv_iload hx hb d_law_591 (lv_at hl 0 rfl) ?_
                              refine lv_i2l hx hb d_law_593 rfl ?_
                              refine W.lcmp hx hb d_law_594 ?_
                              refine lv_if_eq (tgt := 600) hx hb d_law_595 (by decide) (fun c_595 => ?_) (fun c_595 => ?_)
                              · have hM := itT hM c_595
                                refine lv_goto (tgt := 1014) hx hb d_law_600 (by decide) ?_
                                refine lv_iinc (v := x4 + 5) (lv' := [(4, .int (x4 + 5)), (6, .int r_567), (5, .int r_533), (0, .ref b), (1, .ref qO), (2, .ref qM), (3, .ref qU)]) hx hb d_law_1014 hl (k := 6) rfl rfl (by decide) rfl (fun ls hl => ?_)
                                refine lv_goto (tgt := 23) hx hb d_law_1017 (by decide) ?_
                                refine W.widen (k := 1067 - n) (n := 10328 - 6 * n) (by omega) (by omega) ?_
                                exact ih (by omega) (x4 + 5) done brd tup tdn askd_533 answ_533 tlen tpl tsg rlen rsz rsg psz pcd pld pct lpr lful ljn fsz fkd ffr fto e_thrown_567 e_signs e_rows e_parts e_done e_barred e_pairs e_full e_up e_down e_proofs e_asked_567 e_text e_read e_begins e_tried e_partCode e_partLand e_partCents e_joined e_proofKind e_proofFrom e_proofTo e_told_567 e_live_567 e_any_567 e_all_567 uout_533 hM _ _ _ hP hD hS (lv_sub hl [3, 4, 5, 6, 0] rfl)
                              · have hM := itF hM c_595
                                refine lv_iconst (v := 0) hx hb d_law_598 (by decide) ?_
                                exact absurd hM (by simp)
                          · have hM := itF hM c_578
                            refine lv_iconst (v := 0) hx hb d_law_581 (by decide) ?_
                            exact absurd hM (by simp)
                        · have hM := itF hM c_39_9
                          by_cases c_39_10 : ((xs x4.toNatClampNeg) &&& 15) = 10
                          · have hM := itT hM c_39_10
                            refine lv_tableIn (tgt := 603) hx hb d_law_39 (by rw [c_39_10]; decide) (by rw [c_39_10]; decide) (by rw [c_39_10]; rfl) (by decide) ?_
                            refine lv_aload_n hx hb d_law_603 rfl (lv_at hl 1 rfl) ?_
                            refine lv_aload_n hx hb d_law_604 rfl (lv_at hl 0 rfl) ?_
                            refine lv_iload hx hb d_law_605 (lv_at hl 4 rfl) ?_
                            refine lv_iconst (v := 1) hx hb d_law_607 (by decide) ?_
                            refine lv_iadd hx hb d_law_608 ?_
                            obtain ⟨hin_609, hM⟩ := ixT hM
                            refine va_sld hx hb hX hbl hbA hS hin_609 d_law_609 ?_
                            obtain ⟨r_610, hc_610, hM⟩ := bd1T hM
                            refine ca_V (As := [.int (xs (x4 + 1).toNatClampNeg)]) (rest := []) (wr := [(qM, .inr (6, [.int e_thrown, .ref qMtext, .int e_signs, .ref qMread, .ref qMbegins, .int e_rows, .ref qMtried, .int e_parts, .ref qMpartCode, .ref qMpartLand, .ref qMpartCents, .int e_done, .int e_barred, .ref qMjoined, .int e_pairs, .int (bI e_full), .int e_up, .int e_down, .int e_proofs, .ref qMproofKind, .ref qMproofFrom, .ref qMproofTo, .int e_asked, .ref qMtold, .ref qMlive, .ref qMany, .ref qMall])), (qMtext, .inl (cT 0, 300, .inl e_text)), (qMread, .inl (cT 0, 300, .inl e_read)), (qMbegins, .inl (cT 0, 21, .inl e_begins)), (qMtried, .inl (cT 0, 21, .inl e_tried)), (qMpartCode, .inl (cT 0, 12, .inl e_partCode)), (qMpartLand, .inl (cT 0, 12, .inl e_partLand)), (qMpartCents, .inl (cT 1, 12, .inr (.inl e_partCents))), (qMjoined, .inl (cT 3, 100, .inl e_joined)), (qMproofKind, .inl (cT 0, 20, .inl e_proofKind)), (qMproofFrom, .inl (cT 0, 20, .inl e_proofFrom)), (qMproofTo, .inl (cT 0, 20, .inl e_proofTo)), (qMtold, .inl (cT 0, 300, .inl e_told)), (qMlive, .inl (cT 3, 9, .inl e_live)), (qMany, .inl (cT 3, 9, .inl e_any)), (qMall, .inl (cT 3, 9, .inl e_all)), (qU, .inl (cT 1, 1, .inr (.inl uout)))]) (w2 := [(qO, .inr (0, [.ref qT, .ref qR, .ref qP, .ref qL, .ref qF, .int done, .int brd, .int tup, .int tdn, .ref qOa, .int askd])), (qOa, .inl (cT 0, 149, .inl answ)), (qT, .inr (1, [.ref qTs, .int tlen, .int tpl])), (qTs, .inl (cT 2, 300, .inl tsg)), (qR, .inr (2, [.ref qRs, .int rlen, .int rsz])), (qRs, .inl (cT 2, 300, .inl rsg)), (qP, .inr (3, [.ref qPc, .ref qPl, .ref qPv, .int psz])), (qPc, .inl (cT 0, 12, .inl pcd)), (qPl, .inl (cT 0, 12, .inl pld)), (qPv, .inl (cT 1, 12, .inr (.inl pct))), (qL, .inr (4, [.ref qLj, .int lpr, .int (bI lful)])), (qLj, .inl (cT 0, 10, .inl ljn)), (qF, .inr (5, [.ref qFk, .ref qFf, .ref qFl, .int fsz])), (qFk, .inl (cT 0, 20, .inl fkd)), (qFf, .inl (cT 0, 20, .inl ffr)), (qFl, .inl (cT 0, 20, .inl fto)), (qM, .inr (6, [.int e_thrown, .ref qMtext, .int e_signs, .ref qMread, .ref qMbegins, .int e_rows, .ref qMtried, .int e_parts, .ref qMpartCode, .ref qMpartLand, .ref qMpartCents, .int e_done, .int e_barred, .ref qMjoined, .int e_pairs, .int (bI e_full), .int e_up, .int e_down, .int e_proofs, .ref qMproofKind, .ref qMproofFrom, .ref qMproofTo, .int e_asked, .ref qMtold, .ref qMlive, .ref qMany, .ref qMall])), (qMtext, .inl (cT 0, 300, .inl e_text)), (qMread, .inl (cT 0, 300, .inl e_read)), (qMbegins, .inl (cT 0, 21, .inl e_begins)), (qMtried, .inl (cT 0, 21, .inl e_tried)), (qMpartCode, .inl (cT 0, 12, .inl e_partCode)), (qMpartLand, .inl (cT 0, 12, .inl e_partLand)), (qMpartCents, .inl (cT 1, 12, .inr (.inl e_partCents))), (qMjoined, .inl (cT 3, 100, .inl e_joined)), (qMproofKind, .inl (cT 0, 20, .inl e_proofKind)), (qMproofFrom, .inl (cT 0, 20, .inl e_proofFrom)), (qMproofTo, .inl (cT 0, 20, .inl e_proofTo)), (qMtold, .inl (cT 0, 300, .inl e_told)), (qMlive, .inl (cT 3, 9, .inl e_live)), (qMany, .inl (cT 3, 9, .inl e_any)), (qMall, .inl (cT 3, 9, .inl e_all)), (qU, .inl (cT 1, 1, .inr (.inl uout)))]) S hE (c_Or_why l D cT qO qOa qT qTs qR qRs qP qPc qPl qPv qL qLj qF qFk qFf qFl done brd tup tdn askd answ tlen tpl tsg rlen rsz rsg psz pcd pld pct lpr lful ljn fsz fkd ffr fto (xs (x4 + 1).toNatClampNeg) hc_610) gw_0bfc8029 rfl rfl ⟨Nat.le_of_ble_eq_true rfl, Nat.le_of_ble_eq_true rfl⟩ (ci := 0) rfl rfl (k0 := 0) rfl rfl hl.1 rfl (Nat.le_of_ble_eq_true rfl) d_law_610 ⟨hc0, hs0⟩ hP hD hS hA [0, 1, 2, 3, 4, 5, 6, 7, 8, 9, 10, 11, 12, 13, 14, 15] [16, 17, 18, 19, 20, 21, 22, 23, 24, 25, 26, 27, 28, 29, 30, 31, 32] [17, 18, 19, 20, 21, 22, 23, 24, 25, 26, 27, 28, 29, 30, 31, 32, 0, 1, 2, 3, 4, 5, 6, 7, 8, 9, 10, 11, 12, 13, 14, 15, 16] rfl rfl (by decide) (by decide) rfl (by decide) (by decide) (fun H locs hP hD hS => ?_)
                            refine lv_aload_n hx hb d_law_613 rfl (lv_at hl 2 rfl) ?_
                            refine lv_aload_n hx hb d_law_614 rfl (lv_at hl 0 rfl) ?_
                            refine lv_iload hx hb d_law_615 (lv_at hl 4 rfl) ?_
                            refine lv_iconst (v := 1) hx hb d_law_617 (by decide) ?_
                            refine lv_iadd hx hb d_law_618 ?_
                            obtain ⟨hin_619, hM⟩ := ixT hM
                            refine va_sld hx hb hX hbl hbA hS hin_619 d_law_619 ?_
                            obtain ⟨r_620, e_thrown_620, hc_620, hM⟩ := bd2T hM
                            refine ca_V (As := [.int (xs (x4 + 1).toNatClampNeg)]) (rest := [.int r_610]) (wr := [(qO, .inr (0, [.ref qT, .ref qR, .ref qP, .ref qL, .ref qF, .int done, .int brd, .int tup, .int tdn, .ref qOa, .int askd])), (qOa, .inl (cT 0, 149, .inl answ)), (qT, .inr (1, [.ref qTs, .int tlen, .int tpl])), (qTs, .inl (cT 2, 300, .inl tsg)), (qR, .inr (2, [.ref qRs, .int rlen, .int rsz])), (qRs, .inl (cT 2, 300, .inl rsg)), (qP, .inr (3, [.ref qPc, .ref qPl, .ref qPv, .int psz])), (qPc, .inl (cT 0, 12, .inl pcd)), (qPl, .inl (cT 0, 12, .inl pld)), (qPv, .inl (cT 1, 12, .inr (.inl pct))), (qL, .inr (4, [.ref qLj, .int lpr, .int (bI lful)])), (qLj, .inl (cT 0, 10, .inl ljn)), (qF, .inr (5, [.ref qFk, .ref qFf, .ref qFl, .int fsz])), (qFk, .inl (cT 0, 20, .inl fkd)), (qFf, .inl (cT 0, 20, .inl ffr)), (qFl, .inl (cT 0, 20, .inl fto)), (qU, .inl (cT 1, 1, .inr (.inl uout)))]) (w2 := [(qO, .inr (0, [.ref qT, .ref qR, .ref qP, .ref qL, .ref qF, .int done, .int brd, .int tup, .int tdn, .ref qOa, .int askd])), (qOa, .inl (cT 0, 149, .inl answ)), (qT, .inr (1, [.ref qTs, .int tlen, .int tpl])), (qTs, .inl (cT 2, 300, .inl tsg)), (qR, .inr (2, [.ref qRs, .int rlen, .int rsz])), (qRs, .inl (cT 2, 300, .inl rsg)), (qP, .inr (3, [.ref qPc, .ref qPl, .ref qPv, .int psz])), (qPc, .inl (cT 0, 12, .inl pcd)), (qPl, .inl (cT 0, 12, .inl pld)), (qPv, .inl (cT 1, 12, .inr (.inl pct))), (qL, .inr (4, [.ref qLj, .int lpr, .int (bI lful)])), (qLj, .inl (cT 0, 10, .inl ljn)), (qF, .inr (5, [.ref qFk, .ref qFf, .ref qFl, .int fsz])), (qFk, .inl (cT 0, 20, .inl fkd)), (qFf, .inl (cT 0, 20, .inl ffr)), (qFl, .inl (cT 0, 20, .inl fto)), (qM, .inr (6, [.int e_thrown_620, .ref qMtext, .int e_signs, .ref qMread, .ref qMbegins, .int e_rows, .ref qMtried, .int e_parts, .ref qMpartCode, .ref qMpartLand, .ref qMpartCents, .int e_done, .int e_barred, .ref qMjoined, .int e_pairs, .int (bI e_full), .int e_up, .int e_down, .int e_proofs, .ref qMproofKind, .ref qMproofFrom, .ref qMproofTo, .int e_asked, .ref qMtold, .ref qMlive, .ref qMany, .ref qMall])), (qMtext, .inl (cT 0, 300, .inl e_text)), (qMread, .inl (cT 0, 300, .inl e_read)), (qMbegins, .inl (cT 0, 21, .inl e_begins)), (qMtried, .inl (cT 0, 21, .inl e_tried)), (qMpartCode, .inl (cT 0, 12, .inl e_partCode)), (qMpartLand, .inl (cT 0, 12, .inl e_partLand)), (qMpartCents, .inl (cT 1, 12, .inr (.inl e_partCents))), (qMjoined, .inl (cT 3, 100, .inl e_joined)), (qMproofKind, .inl (cT 0, 20, .inl e_proofKind)), (qMproofFrom, .inl (cT 0, 20, .inl e_proofFrom)), (qMproofTo, .inl (cT 0, 20, .inl e_proofTo)), (qMtold, .inl (cT 0, 300, .inl e_told)), (qMlive, .inl (cT 3, 9, .inl e_live)), (qMany, .inl (cT 3, 9, .inl e_any)), (qMall, .inl (cT 3, 9, .inl e_all)), (qU, .inl (cT 1, 1, .inr (.inl uout)))]) S hE (c_Md_why l D cT qM qMtext qMread qMbegins qMtried qMpartCode qMpartLand qMpartCents qMjoined qMproofKind qMproofFrom qMproofTo qMtold qMlive qMany qMall e_thrown e_signs e_rows e_parts e_done e_barred e_pairs e_full e_up e_down e_proofs e_asked e_text e_read e_begins e_tried e_partCode e_partLand e_partCents e_joined e_proofKind e_proofFrom e_proofTo e_told e_live e_any e_all (xs (x4 + 1).toNatClampNeg) hc_620) gw_bd02ee3c rfl rfl ⟨Nat.le_of_ble_eq_true rfl, Nat.le_of_ble_eq_true rfl⟩ (ci := 6) rfl rfl (k0 := 0) rfl rfl hl.1 rfl (Nat.le_of_ble_eq_true rfl) d_law_620 ⟨hc0, hs0⟩ hP hD hS hA [16, 17, 18, 19, 20, 21, 22, 23, 24, 25, 26, 27, 28, 29, 30, 31] [0, 1, 2, 3, 4, 5, 6, 7, 8, 9, 10, 11, 12, 13, 14, 15, 32] [0, 1, 2, 3, 4, 5, 6, 7, 8, 9, 10, 11, 12, 13, 14, 15, 17, 18, 19, 20, 21, 22, 23, 24, 25, 26, 27, 28, 29, 30, 31, 32, 16] rfl rfl (by decide) (by decide) rfl (by decide) (by decide) (fun H locs hP hD hS => ?_)
                            refine lv_icmp_eq (tgt := 1014) hx hb d_law_623 (by decide) (fun c_623 => ?_) (fun c_623 => ?_)
                            · have hM := itT hM c_623
                              refine lv_iinc (v := x4 + 5) (lv' := [(4, .int (x4 + 5)), (0, .ref b), (1, .ref qO), (2, .ref qM), (3, .ref qU)]) hx hb d_law_1014 hl (k := 4) rfl rfl (by decide) rfl (fun ls hl => ?_)
                              refine lv_goto (tgt := 23) hx hb d_law_1017 (by decide) ?_
                              refine W.widen (k := 1067 - n) (n := 10328 - 6 * n) (by omega) (by omega) ?_
                              exact ih (by omega) (x4 + 5) done brd tup tdn askd answ tlen tpl tsg rlen rsz rsg psz pcd pld pct lpr lful ljn fsz fkd ffr fto e_thrown_620 e_signs e_rows e_parts e_done e_barred e_pairs e_full e_up e_down e_proofs e_asked e_text e_read e_begins e_tried e_partCode e_partLand e_partCents e_joined e_proofKind e_proofFrom e_proofTo e_told e_live e_any e_all uout hM _ _ _ hP hD hS (lv_sub hl [1, 2, 3, 4, 0] rfl)
                            · have hM := itF hM c_623
                              refine lv_iconst (v := 0) hx hb d_law_626 (by decide) ?_
                              exact absurd hM (by simp)
                          · have hM := itF hM c_39_10
                            by_cases c_39_11 : ((xs x4.toNatClampNeg) &&& 15) = 11
                            · have hM := itT hM c_39_11
                              refine lv_tableIn (tgt := 628) hx hb d_law_39 (by rw [c_39_11]; decide) (by rw [c_39_11]; decide) (by rw [c_39_11]; rfl) (by decide) ?_
                              refine lv_aload_n hx hb d_law_628 rfl (lv_at hl 1 rfl) ?_
                              refine lv_aload_n hx hb d_law_629 rfl (lv_at hl 0 rfl) ?_
                              refine lv_iload hx hb d_law_630 (lv_at hl 4 rfl) ?_
                              refine lv_iconst (v := 1) hx hb d_law_632 (by decide) ?_
                              refine lv_iadd hx hb d_law_633 ?_
                              obtain ⟨hin_634, hM⟩ := ixT hM
                              refine va_sld hx hb hX hbl hbA hS hin_634 d_law_634 ?_
                              refine lv_i2l hx hb d_law_635 rfl ?_
                              refine lv_bipush (v := 32) hx hb d_law_636 (by decide) ?_
                              refine lv_lshl hx hb d_law_638 rfl ?_
                              refine lv_aload_n hx hb d_law_639 rfl (lv_at hl 0 rfl) ?_
                              refine lv_iload hx hb d_law_640 (lv_at hl 4 rfl) ?_
                              refine lv_iconst (v := 2) hx hb d_law_642 (by decide) ?_
                              refine lv_iadd hx hb d_law_643 ?_
                              obtain ⟨hin_644, hM⟩ := ixT hM
                              refine va_sld hx hb hX hbl hbA hS hin_644 d_law_644 ?_
                              refine lv_i2l hx hb d_law_645 rfl ?_
                              refine lv_ldc2 (v := 4294967295) hx hb hown (hts _ iw_14dbc7c5) d_law_646 ?_
                              refine lv_land hx hb d_law_649 ?_
                              refine lv_lor hx hb d_law_650 ?_
                              refine lv_aload_n hx hb d_law_651 rfl (lv_at hl 0 rfl) ?_
                              refine lv_iload hx hb d_law_652 (lv_at hl 4 rfl) ?_
                              refine lv_iconst (v := 3) hx hb d_law_654 (by decide) ?_
                              refine lv_iadd hx hb d_law_655 ?_
                              obtain ⟨hin_656, hM⟩ := ixT hM
                              refine va_sld hx hb hX hbl hbA hS hin_656 d_law_656 ?_
                              refine lv_aload_n hx hb d_law_657 rfl (lv_at hl 3 rfl) ?_
                              obtain ⟨r_658, uout_658, hc_658, hM⟩ := bd2T hM
                              refine cl_H (As := [.ref qO, .long ((((xs (x4 + 1).toNatClampNeg).toInt64) <<< (((32 : Int32)).toInt64 &&& 63)) ||| (((xs (x4 + 2).toNatClampNeg).toInt64) &&& 4294967295)), .int (xs (x4 + 3).toNatClampNeg), .ref qU]) (rest := []) (wr := [(qM, .inr (6, [.int e_thrown, .ref qMtext, .int e_signs, .ref qMread, .ref qMbegins, .int e_rows, .ref qMtried, .int e_parts, .ref qMpartCode, .ref qMpartLand, .ref qMpartCents, .int e_done, .int e_barred, .ref qMjoined, .int e_pairs, .int (bI e_full), .int e_up, .int e_down, .int e_proofs, .ref qMproofKind, .ref qMproofFrom, .ref qMproofTo, .int e_asked, .ref qMtold, .ref qMlive, .ref qMany, .ref qMall])), (qMtext, .inl (cT 0, 300, .inl e_text)), (qMread, .inl (cT 0, 300, .inl e_read)), (qMbegins, .inl (cT 0, 21, .inl e_begins)), (qMtried, .inl (cT 0, 21, .inl e_tried)), (qMpartCode, .inl (cT 0, 12, .inl e_partCode)), (qMpartLand, .inl (cT 0, 12, .inl e_partLand)), (qMpartCents, .inl (cT 1, 12, .inr (.inl e_partCents))), (qMjoined, .inl (cT 3, 100, .inl e_joined)), (qMproofKind, .inl (cT 0, 20, .inl e_proofKind)), (qMproofFrom, .inl (cT 0, 20, .inl e_proofFrom)), (qMproofTo, .inl (cT 0, 20, .inl e_proofTo)), (qMtold, .inl (cT 0, 300, .inl e_told)), (qMlive, .inl (cT 3, 9, .inl e_live)), (qMany, .inl (cT 3, 9, .inl e_any)), (qMall, .inl (cT 3, 9, .inl e_all))]) (w2 := [(qO, .inr (0, [.ref qT, .ref qR, .ref qP, .ref qL, .ref qF, .int done, .int brd, .int tup, .int tdn, .ref qOa, .int askd])), (qOa, .inl (cT 0, 149, .inl answ)), (qT, .inr (1, [.ref qTs, .int tlen, .int tpl])), (qTs, .inl (cT 2, 300, .inl tsg)), (qR, .inr (2, [.ref qRs, .int rlen, .int rsz])), (qRs, .inl (cT 2, 300, .inl rsg)), (qP, .inr (3, [.ref qPc, .ref qPl, .ref qPv, .int psz])), (qPc, .inl (cT 0, 12, .inl pcd)), (qPl, .inl (cT 0, 12, .inl pld)), (qPv, .inl (cT 1, 12, .inr (.inl pct))), (qL, .inr (4, [.ref qLj, .int lpr, .int (bI lful)])), (qLj, .inl (cT 0, 10, .inl ljn)), (qF, .inr (5, [.ref qFk, .ref qFf, .ref qFl, .int fsz])), (qFk, .inl (cT 0, 20, .inl fkd)), (qFf, .inl (cT 0, 20, .inl ffr)), (qFl, .inl (cT 0, 20, .inl fto)), (qM, .inr (6, [.int e_thrown, .ref qMtext, .int e_signs, .ref qMread, .ref qMbegins, .int e_rows, .ref qMtried, .int e_parts, .ref qMpartCode, .ref qMpartLand, .ref qMpartCents, .int e_done, .int e_barred, .ref qMjoined, .int e_pairs, .int (bI e_full), .int e_up, .int e_down, .int e_proofs, .ref qMproofKind, .ref qMproofFrom, .ref qMproofTo, .int e_asked, .ref qMtold, .ref qMlive, .ref qMany, .ref qMall])), (qMtext, .inl (cT 0, 300, .inl e_text)), (qMread, .inl (cT 0, 300, .inl e_read)), (qMbegins, .inl (cT 0, 21, .inl e_begins)), (qMtried, .inl (cT 0, 21, .inl e_tried)), (qMpartCode, .inl (cT 0, 12, .inl e_partCode)), (qMpartLand, .inl (cT 0, 12, .inl e_partLand)), (qMpartCents, .inl (cT 1, 12, .inr (.inl e_partCents))), (qMjoined, .inl (cT 3, 100, .inl e_joined)), (qMproofKind, .inl (cT 0, 20, .inl e_proofKind)), (qMproofFrom, .inl (cT 0, 20, .inl e_proofFrom)), (qMproofTo, .inl (cT 0, 20, .inl e_proofTo)), (qMtold, .inl (cT 0, 300, .inl e_told)), (qMlive, .inl (cT 3, 9, .inl e_live)), (qMany, .inl (cT 3, 9, .inl e_any)), (qMall, .inl (cT 3, 9, .inl e_all)), (qU, .inl (cT 1, 1, .inr (.inl uout_658)))]) S hE hTE hNc (c_Law_share l hl0 D cT qO qOa qT qTs qR qRs qP qPc qPl qPv qL qLj qF qFk qFf qFl qU done brd tup tdn askd answ tlen tpl tsg rlen rsz rsg psz pcd pld pct lpr lful ljn fsz fkd ffr fto uout ((((xs (x4 + 1).toNatClampNeg).toInt64) <<< (((32 : Int32)).toInt64 &&& 63)) ||| (((xs (x4 + 2).toNatClampNeg).toInt64) &&& 4294967295)) (xs (x4 + 3).toNatClampNeg) hc_658) gw_c7d312c3 rfl rfl ⟨Nat.le_of_ble_eq_true rfl, Nat.le_of_ble_eq_true rfl⟩ rfl hl.1 rfl (Nat.le_of_ble_eq_true rfl) d_law_658 ⟨hc1, hs1⟩ hP hD hS hA [0, 1, 2, 3, 4, 5, 6, 7, 8, 9, 10, 11, 12, 13, 14, 15, 32] [16, 17, 18, 19, 20, 21, 22, 23, 24, 25, 26, 27, 28, 29, 30, 31] [16, 17, 18, 19, 20, 21, 22, 23, 24, 25, 26, 27, 28, 29, 30, 31, 0, 1, 2, 3, 4, 5, 6, 7, 8, 9, 10, 11, 12, 13, 14, 15, 32] rfl rfl (by decide) (by decide) rfl (by decide) (by decide) (fun H locs hP hD hS => ?_)
                              refine lv_istore (lv' := [(5, .int r_658), (0, .ref b), (1, .ref qO), (2, .ref qM), (3, .ref qU), (4, .int x4)]) hx hb d_law_661 hl (by decide) rfl (fun ls hl => ?_)
                              refine lv_aload_n hx hb d_law_663 rfl (lv_at hl 3 rfl) ?_
                              refine lv_aload_n hx hb d_law_664 rfl (lv_at hl 1 rfl) ?_
                              refine lv_iload hx hb d_law_665 (lv_at hl 5 rfl) ?_
                              refine lv_iconst (v := 1) hx hb d_law_667 (by decide) ?_
                              refine lv_iadd hx hb d_law_668 ?_
                              obtain ⟨hin_669, hM⟩ := ixT hM
                              refine va_sld hx hb hX hbl hbA hS hin_669 d_law_669 ?_
                              refine lv_i2l hx hb d_law_670 rfl ?_
                              refine lv_bipush (v := 32) hx hb d_law_671 (by decide) ?_
                              refine lv_lshl hx hb d_law_673 rfl ?_
                              refine lv_aload_n hx hb d_law_674 rfl (lv_at hl 1 rfl) ?_
                              refine lv_iload hx hb d_law_675 (lv_at hl 5 rfl) ?_
                              refine lv_iconst (v := 2) hx hb d_law_677 (by decide) ?_
                              refine lv_iadd hx hb d_law_678 ?_
                              obtain ⟨hin_679, hM⟩ := ixT hM
                              refine va_sld hx hb hX hbl hbA hS hin_679 d_law_679 ?_
                              refine lv_i2l hx hb d_law_680 rfl ?_
                              refine lv_ldc2 (v := 4294967295) hx hb hown (hts _ iw_14dbc7c5) d_law_681 ?_
                              refine lv_land hx hb d_law_684 ?_
                              refine lv_lor hx hb d_law_685 ?_
                              refine lv_aload_n hx hb d_law_686 rfl (lv_at hl 1 rfl) ?_
                              refine lv_iload hx hb d_law_687 (lv_at hl 5 rfl) ?_
                              refine lv_iconst (v := 3) hx hb d_law_689 (by decide) ?_
                              refine lv_iadd hx hb d_law_690 ?_
                              obtain ⟨hin_691, hM⟩ := ixT hM
                              refine va_sld hx hb hX hbl hbA hS hin_691 d_law_691 ?_
                              obtain ⟨r_692, e_thrown_692, hc_692, hM⟩ := bd2T hM
                              refine ca_V (As := [.long ((((xs (x4 + 1).toNatClampNeg).toInt64) <<< (((32 : Int32)).toInt64 &&& 63)) ||| (((xs (x4 + 2).toNatClampNeg).toInt64) &&& 4294967295)), .int (xs (x4 + 3).toNatClampNeg)]) (rest := []) (wr := [(qO, .inr (0, [.ref qT, .ref qR, .ref qP, .ref qL, .ref qF, .int done, .int brd, .int tup, .int tdn, .ref qOa, .int askd])), (qOa, .inl (cT 0, 149, .inl answ)), (qT, .inr (1, [.ref qTs, .int tlen, .int tpl])), (qTs, .inl (cT 2, 300, .inl tsg)), (qR, .inr (2, [.ref qRs, .int rlen, .int rsz])), (qRs, .inl (cT 2, 300, .inl rsg)), (qP, .inr (3, [.ref qPc, .ref qPl, .ref qPv, .int psz])), (qPc, .inl (cT 0, 12, .inl pcd)), (qPl, .inl (cT 0, 12, .inl pld)), (qPv, .inl (cT 1, 12, .inr (.inl pct))), (qL, .inr (4, [.ref qLj, .int lpr, .int (bI lful)])), (qLj, .inl (cT 0, 10, .inl ljn)), (qF, .inr (5, [.ref qFk, .ref qFf, .ref qFl, .int fsz])), (qFk, .inl (cT 0, 20, .inl fkd)), (qFf, .inl (cT 0, 20, .inl ffr)), (qFl, .inl (cT 0, 20, .inl fto)), (qU, .inl (cT 1, 1, .inr (.inl uout_658)))]) (w2 := [(qO, .inr (0, [.ref qT, .ref qR, .ref qP, .ref qL, .ref qF, .int done, .int brd, .int tup, .int tdn, .ref qOa, .int askd])), (qOa, .inl (cT 0, 149, .inl answ)), (qT, .inr (1, [.ref qTs, .int tlen, .int tpl])), (qTs, .inl (cT 2, 300, .inl tsg)), (qR, .inr (2, [.ref qRs, .int rlen, .int rsz])), (qRs, .inl (cT 2, 300, .inl rsg)), (qP, .inr (3, [.ref qPc, .ref qPl, .ref qPv, .int psz])), (qPc, .inl (cT 0, 12, .inl pcd)), (qPl, .inl (cT 0, 12, .inl pld)), (qPv, .inl (cT 1, 12, .inr (.inl pct))), (qL, .inr (4, [.ref qLj, .int lpr, .int (bI lful)])), (qLj, .inl (cT 0, 10, .inl ljn)), (qF, .inr (5, [.ref qFk, .ref qFf, .ref qFl, .int fsz])), (qFk, .inl (cT 0, 20, .inl fkd)), (qFf, .inl (cT 0, 20, .inl ffr)), (qFl, .inl (cT 0, 20, .inl fto)), (qM, .inr (6, [.int e_thrown_692, .ref qMtext, .int e_signs, .ref qMread, .ref qMbegins, .int e_rows, .ref qMtried, .int e_parts, .ref qMpartCode, .ref qMpartLand, .ref qMpartCents, .int e_done, .int e_barred, .ref qMjoined, .int e_pairs, .int (bI e_full), .int e_up, .int e_down, .int e_proofs, .ref qMproofKind, .ref qMproofFrom, .ref qMproofTo, .int e_asked, .ref qMtold, .ref qMlive, .ref qMany, .ref qMall])), (qMtext, .inl (cT 0, 300, .inl e_text)), (qMread, .inl (cT 0, 300, .inl e_read)), (qMbegins, .inl (cT 0, 21, .inl e_begins)), (qMtried, .inl (cT 0, 21, .inl e_tried)), (qMpartCode, .inl (cT 0, 12, .inl e_partCode)), (qMpartLand, .inl (cT 0, 12, .inl e_partLand)), (qMpartCents, .inl (cT 1, 12, .inr (.inl e_partCents))), (qMjoined, .inl (cT 3, 100, .inl e_joined)), (qMproofKind, .inl (cT 0, 20, .inl e_proofKind)), (qMproofFrom, .inl (cT 0, 20, .inl e_proofFrom)), (qMproofTo, .inl (cT 0, 20, .inl e_proofTo)), (qMtold, .inl (cT 0, 300, .inl e_told)), (qMlive, .inl (cT 3, 9, .inl e_live)), (qMany, .inl (cT 3, 9, .inl e_any)), (qMall, .inl (cT 3, 9, .inl e_all)), (qU, .inl (cT 1, 1, .inr (.inl uout_658)))]) S hE (c_Md_share l D cT qM qMtext qMread qMbegins qMtried qMpartCode qMpartLand qMpartCents qMjoined qMproofKind qMproofFrom qMproofTo qMtold qMlive qMany qMall e_thrown e_signs e_rows e_parts e_done e_barred e_pairs e_full e_up e_down e_proofs e_asked e_text e_read e_begins e_tried e_partCode e_partLand e_partCents e_joined e_proofKind e_proofFrom e_proofTo e_told e_live e_any e_all ((((xs (x4 + 1).toNatClampNeg).toInt64) <<< (((32 : Int32)).toInt64 &&& 63)) ||| (((xs (x4 + 2).toNatClampNeg).toInt64) &&& 4294967295)) (xs (x4 + 3).toNatClampNeg) hc_692) gw_9786794a rfl rfl ⟨Nat.le_of_ble_eq_true rfl, Nat.le_of_ble_eq_true rfl⟩ (ci := 6) rfl rfl (k0 := 0) rfl rfl hl.1 rfl (Nat.le_of_ble_eq_true rfl) d_law_692 ⟨hc1, hs1⟩ hP hD hS hA [16, 17, 18, 19, 20, 21, 22, 23, 24, 25, 26, 27, 28, 29, 30, 31] [0, 1, 2, 3, 4, 5, 6, 7, 8, 9, 10, 11, 12, 13, 14, 15, 32] [0, 1, 2, 3, 4, 5, 6, 7, 8, 9, 10, 11, 12, 13, 14, 15, 17, 18, 19, 20, 21, 22, 23, 24, 25, 26, 27, 28, 29, 30, 31, 32, 16] rfl rfl (by decide) (by decide) rfl (by decide) (by decide) (fun H locs hP hD hS => ?_)
                              refine lv_lstore (lv' := [(6, .long r_692), (5, .int r_658), (0, .ref b), (1, .ref qO), (2, .ref qM), (3, .ref qU), (4, .int x4)]) hx hb d_law_695 hl (by decide) rfl (fun ls hl => ?_)
                              refine lv_aload_n hx hb d_law_697 rfl (lv_at hl 4 rfl) ?_
                              obtain ⟨r_698, hc_698, hM⟩ := bd1T hM
                              refine ca_V (As := []) (rest := []) (wr := [(qO, .inr (0, [.ref qT, .ref qR, .ref qP, .ref qL, .ref qF, .int done, .int brd, .int tup, .int tdn, .ref qOa, .int askd])), (qOa, .inl (cT 0, 149, .inl answ)), (qT, .inr (1, [.ref qTs, .int tlen, .int tpl])), (qTs, .inl (cT 2, 300, .inl tsg)), (qR, .inr (2, [.ref qRs, .int rlen, .int rsz])), (qRs, .inl (cT 2, 300, .inl rsg)), (qP, .inr (3, [.ref qPc, .ref qPl, .ref qPv, .int psz])), (qPc, .inl (cT 0, 12, .inl pcd)), (qPl, .inl (cT 0, 12, .inl pld)), (qPv, .inl (cT 1, 12, .inr (.inl pct))), (qL, .inr (4, [.ref qLj, .int lpr, .int (bI lful)])), (qLj, .inl (cT 0, 10, .inl ljn)), (qF, .inr (5, [.ref qFk, .ref qFf, .ref qFl, .int fsz])), (qFk, .inl (cT 0, 20, .inl fkd)), (qFf, .inl (cT 0, 20, .inl ffr)), (qFl, .inl (cT 0, 20, .inl fto)), (qU, .inl (cT 1, 1, .inr (.inl uout_658)))]) (w2 := [(qO, .inr (0, [.ref qT, .ref qR, .ref qP, .ref qL, .ref qF, .int done, .int brd, .int tup, .int tdn, .ref qOa, .int askd])), (qOa, .inl (cT 0, 149, .inl answ)), (qT, .inr (1, [.ref qTs, .int tlen, .int tpl])), (qTs, .inl (cT 2, 300, .inl tsg)), (qR, .inr (2, [.ref qRs, .int rlen, .int rsz])), (qRs, .inl (cT 2, 300, .inl rsg)), (qP, .inr (3, [.ref qPc, .ref qPl, .ref qPv, .int psz])), (qPc, .inl (cT 0, 12, .inl pcd)), (qPl, .inl (cT 0, 12, .inl pld)), (qPv, .inl (cT 1, 12, .inr (.inl pct))), (qL, .inr (4, [.ref qLj, .int lpr, .int (bI lful)])), (qLj, .inl (cT 0, 10, .inl ljn)), (qF, .inr (5, [.ref qFk, .ref qFf, .ref qFl, .int fsz])), (qFk, .inl (cT 0, 20, .inl fkd)), (qFf, .inl (cT 0, 20, .inl ffr)), (qFl, .inl (cT 0, 20, .inl fto)), (qM, .inr (6, [.int e_thrown_692, .ref qMtext, .int e_signs, .ref qMread, .ref qMbegins, .int e_rows, .ref qMtried, .int e_parts, .ref qMpartCode, .ref qMpartLand, .ref qMpartCents, .int e_done, .int e_barred, .ref qMjoined, .int e_pairs, .int (bI e_full), .int e_up, .int e_down, .int e_proofs, .ref qMproofKind, .ref qMproofFrom, .ref qMproofTo, .int e_asked, .ref qMtold, .ref qMlive, .ref qMany, .ref qMall])), (qMtext, .inl (cT 0, 300, .inl e_text)), (qMread, .inl (cT 0, 300, .inl e_read)), (qMbegins, .inl (cT 0, 21, .inl e_begins)), (qMtried, .inl (cT 0, 21, .inl e_tried)), (qMpartCode, .inl (cT 0, 12, .inl e_partCode)), (qMpartLand, .inl (cT 0, 12, .inl e_partLand)), (qMpartCents, .inl (cT 1, 12, .inr (.inl e_partCents))), (qMjoined, .inl (cT 3, 100, .inl e_joined)), (qMproofKind, .inl (cT 0, 20, .inl e_proofKind)), (qMproofFrom, .inl (cT 0, 20, .inl e_proofFrom)), (qMproofTo, .inl (cT 0, 20, .inl e_proofTo)), (qMtold, .inl (cT 0, 300, .inl e_told)), (qMlive, .inl (cT 3, 9, .inl e_live)), (qMany, .inl (cT 3, 9, .inl e_any)), (qMall, .inl (cT 3, 9, .inl e_all)), (qU, .inl (cT 1, 1, .inr (.inl uout_658)))]) S hE (c_Md_thrown l D cT qM qMtext qMread qMbegins qMtried qMpartCode qMpartLand qMpartCents qMjoined qMproofKind qMproofFrom qMproofTo qMtold qMlive qMany qMall e_thrown_692 e_signs e_rows e_parts e_done e_barred e_pairs e_full e_up e_down e_proofs e_asked e_text e_read e_begins e_tried e_partCode e_partLand e_partCents e_joined e_proofKind e_proofFrom e_proofTo e_told e_live e_any e_all hc_698) gw_ba35c1bc rfl rfl ⟨Nat.le_of_ble_eq_true rfl, Nat.le_of_ble_eq_true rfl⟩ (ci := 6) rfl rfl (k0 := 0) rfl rfl hl.1 rfl (Nat.le_of_ble_eq_true rfl) d_law_698 ⟨hc1, hs1⟩ hP hD hS hA [16, 17, 18, 19, 20, 21, 22, 23, 24, 25, 26, 27, 28, 29, 30, 31] [0, 1, 2, 3, 4, 5, 6, 7, 8, 9, 10, 11, 12, 13, 14, 15, 32] [0, 1, 2, 3, 4, 5, 6, 7, 8, 9, 10, 11, 12, 13, 14, 15, 17, 18, 19, 20, 21, 22, 23, 24, 25, 26, 27, 28, 29, 30, 31, 32, 16] rfl rfl (by decide) (by decide) rfl (by decide) (by decide) (fun H locs hP hD hS => ?_)
                              refine lv_iload hx hb d_law_701 (lv_at hl 1 rfl) ?_
                              refine lv_icmp_eq (tgt := 708) hx hb d_law_703 (by decide) (fun c_703 => ?_) (fun c_703 => ?_)
                              · have hM := itT hM c_703
                                refine lv_iload hx hb d_law_708 (lv_at hl 1 rfl) ?_
                                refine lv_if_ne (tgt := 724) hx hb d_law_710 (by decide) (fun c_710 => ?_) (fun c_710 => ?_)
                                · have hM := itF hM c_710
                                  refine lv_goto (tgt := 1014) hx hb d_law_724 (by decide) ?_
                                  refine lv_iinc (v := x4 + 5) (lv' := [(4, .int (x4 + 5)), (6, .long r_692), (5, .int r_658), (0, .ref b), (1, .ref qO), (2, .ref qM), (3, .ref qU)]) hx hb d_law_1014 hl (k := 6) rfl rfl (by decide) rfl (fun ls hl => ?_)
                                  refine lv_goto (tgt := 23) hx hb d_law_1017 (by decide) ?_
                                  refine W.widen (k := 1067 - n) (n := 10328 - 6 * n) (by omega) (by omega) ?_
                                  exact ih (by omega) (x4 + 5) done brd tup tdn askd answ tlen tpl tsg rlen rsz rsg psz pcd pld pct lpr lful ljn fsz fkd ffr fto e_thrown_692 e_signs e_rows e_parts e_done e_barred e_pairs e_full e_up e_down e_proofs e_asked e_text e_read e_begins e_tried e_partCode e_partLand e_partCents e_joined e_proofKind e_proofFrom e_proofTo e_told e_live e_any e_all uout_658 hM _ _ _ hP hD hS (lv_sub hl [3, 4, 5, 6, 0] rfl)
                                · have hM := itT hM c_710
                                  refine lv_aload_n hx hb d_law_713 rfl (lv_at hl 5 rfl) ?_
                                  refine lv_iconst (v := 0) hx hb d_law_714 (by decide) ?_
                                  obtain ⟨hin_715, hM⟩ := ixT hM
                                  refine va_lald hx hb hK hP 32 1 rfl rfl hin_715 d_law_715 ?_
                                  refine lv_lload hx hb d_law_716 (lv_at hl 0 rfl) ?_
                                  refine W.lcmp hx hb d_law_718 ?_
                                  refine lv_if_eq (tgt := 724) hx hb d_law_719 (by decide) (fun c_719 => ?_) (fun c_719 => ?_)
                                  · have hM := itT hM c_719
                                    refine lv_goto (tgt := 1014) hx hb d_law_724 (by decide) ?_
                                    refine lv_iinc (v := x4 + 5) (lv' := [(4, .int (x4 + 5)), (6, .long r_692), (5, .int r_658), (0, .ref b), (1, .ref qO), (2, .ref qM), (3, .ref qU)]) hx hb d_law_1014 hl (k := 6) rfl rfl (by decide) rfl (fun ls hl => ?_)
                                    refine lv_goto (tgt := 23) hx hb d_law_1017 (by decide) ?_
                                    refine W.widen (k := 1067 - n) (n := 10328 - 6 * n) (by omega) (by omega) ?_
                                    exact ih (by omega) (x4 + 5) done brd tup tdn askd answ tlen tpl tsg rlen rsz rsg psz pcd pld pct lpr lful ljn fsz fkd ffr fto e_thrown_692 e_signs e_rows e_parts e_done e_barred e_pairs e_full e_up e_down e_proofs e_asked e_text e_read e_begins e_tried e_partCode e_partLand e_partCents e_joined e_proofKind e_proofFrom e_proofTo e_told e_live e_any e_all uout_658 hM _ _ _ hP hD hS (lv_sub hl [3, 4, 5, 6, 0] rfl)
                                  · have hM := itF hM c_719
                                    refine lv_iconst (v := 0) hx hb d_law_722 (by decide) ?_
                                    exact absurd hM (by simp)
                              · have hM := itF hM c_703
                                refine lv_iconst (v := 0) hx hb d_law_706 (by decide) ?_
                                exact absurd hM (by simp)
                            · have hM := itF hM c_39_11
                              by_cases c_39_12 : ((xs x4.toNatClampNeg) &&& 15) = 12
                              · have hM := itT hM c_39_12
                                refine lv_tableIn (tgt := 727) hx hb d_law_39 (by rw [c_39_12]; decide) (by rw [c_39_12]; decide) (by rw [c_39_12]; rfl) (by decide) ?_
                                refine lv_aload_n hx hb d_law_727 rfl (lv_at hl 1 rfl) ?_
                                refine lv_aload_n hx hb d_law_728 rfl (lv_at hl 0 rfl) ?_
                                refine lv_iload hx hb d_law_729 (lv_at hl 4 rfl) ?_
                                refine lv_iconst (v := 1) hx hb d_law_731 (by decide) ?_
                                refine lv_iadd hx hb d_law_732 ?_
                                obtain ⟨hin_733, hM⟩ := ixT hM
                                refine va_sld hx hb hX hbl hbA hS hin_733 d_law_733 ?_
                                refine lv_aload_n hx hb d_law_734 rfl (lv_at hl 0 rfl) ?_
                                refine lv_iload hx hb d_law_735 (lv_at hl 4 rfl) ?_
                                refine lv_iconst (v := 2) hx hb d_law_737 (by decide) ?_
                                refine lv_iadd hx hb d_law_738 ?_
                                obtain ⟨hin_739, hM⟩ := ixT hM
                                refine va_sld hx hb hX hbl hbA hS hin_739 d_law_739 ?_
                                refine lv_aload_n hx hb d_law_740 rfl (lv_at hl 0 rfl) ?_
                                refine lv_iload hx hb d_law_741 (lv_at hl 4 rfl) ?_
                                refine lv_iconst (v := 3) hx hb d_law_743 (by decide) ?_
                                refine lv_iadd hx hb d_law_744 ?_
                                obtain ⟨hin_745, hM⟩ := ixT hM
                                refine va_sld hx hb hX hbl hbA hS hin_745 d_law_745 ?_
                                refine lv_aload_n hx hb d_law_746 rfl (lv_at hl 3 rfl) ?_
                                obtain ⟨r_747, fsz_747, fkd_747, ffr_747, fto_747, uout_747, hc_747, hM⟩ := bd6T hM
                                refine cl_H (As := [.ref qO, .int (xs (x4 + 1).toNatClampNeg), .int (xs (x4 + 2).toNatClampNeg), .int (xs (x4 + 3).toNatClampNeg), .ref qU]) (rest := []) (wr := [(qM, .inr (6, [.int e_thrown, .ref qMtext, .int e_signs, .ref qMread, .ref qMbegins, .int e_rows, .ref qMtried, .int e_parts, .ref qMpartCode, .ref qMpartLand, .ref qMpartCents, .int e_done, .int e_barred, .ref qMjoined, .int e_pairs, .int (bI e_full), .int e_up, .int e_down, .int e_proofs, .ref qMproofKind, .ref qMproofFrom, .ref qMproofTo, .int e_asked, .ref qMtold, .ref qMlive, .ref qMany, .ref qMall])), (qMtext, .inl (cT 0, 300, .inl e_text)), (qMread, .inl (cT 0, 300, .inl e_read)), (qMbegins, .inl (cT 0, 21, .inl e_begins)), (qMtried, .inl (cT 0, 21, .inl e_tried)), (qMpartCode, .inl (cT 0, 12, .inl e_partCode)), (qMpartLand, .inl (cT 0, 12, .inl e_partLand)), (qMpartCents, .inl (cT 1, 12, .inr (.inl e_partCents))), (qMjoined, .inl (cT 3, 100, .inl e_joined)), (qMproofKind, .inl (cT 0, 20, .inl e_proofKind)), (qMproofFrom, .inl (cT 0, 20, .inl e_proofFrom)), (qMproofTo, .inl (cT 0, 20, .inl e_proofTo)), (qMtold, .inl (cT 0, 300, .inl e_told)), (qMlive, .inl (cT 3, 9, .inl e_live)), (qMany, .inl (cT 3, 9, .inl e_any)), (qMall, .inl (cT 3, 9, .inl e_all))]) (w2 := [(qO, .inr (0, [.ref qT, .ref qR, .ref qP, .ref qL, .ref qF, .int done, .int brd, .int tup, .int tdn, .ref qOa, .int askd])), (qOa, .inl (cT 0, 149, .inl answ)), (qT, .inr (1, [.ref qTs, .int tlen, .int tpl])), (qTs, .inl (cT 2, 300, .inl tsg)), (qR, .inr (2, [.ref qRs, .int rlen, .int rsz])), (qRs, .inl (cT 2, 300, .inl rsg)), (qP, .inr (3, [.ref qPc, .ref qPl, .ref qPv, .int psz])), (qPc, .inl (cT 0, 12, .inl pcd)), (qPl, .inl (cT 0, 12, .inl pld)), (qPv, .inl (cT 1, 12, .inr (.inl pct))), (qL, .inr (4, [.ref qLj, .int lpr, .int (bI lful)])), (qLj, .inl (cT 0, 10, .inl ljn)), (qF, .inr (5, [.ref qFk, .ref qFf, .ref qFl, .int fsz_747])), (qFk, .inl (cT 0, 20, .inl fkd_747)), (qFf, .inl (cT 0, 20, .inl ffr_747)), (qFl, .inl (cT 0, 20, .inl fto_747)), (qM, .inr (6, [.int e_thrown, .ref qMtext, .int e_signs, .ref qMread, .ref qMbegins, .int e_rows, .ref qMtried, .int e_parts, .ref qMpartCode, .ref qMpartLand, .ref qMpartCents, .int e_done, .int e_barred, .ref qMjoined, .int e_pairs, .int (bI e_full), .int e_up, .int e_down, .int e_proofs, .ref qMproofKind, .ref qMproofFrom, .ref qMproofTo, .int e_asked, .ref qMtold, .ref qMlive, .ref qMany, .ref qMall])), (qMtext, .inl (cT 0, 300, .inl e_text)), (qMread, .inl (cT 0, 300, .inl e_read)), (qMbegins, .inl (cT 0, 21, .inl e_begins)), (qMtried, .inl (cT 0, 21, .inl e_tried)), (qMpartCode, .inl (cT 0, 12, .inl e_partCode)), (qMpartLand, .inl (cT 0, 12, .inl e_partLand)), (qMpartCents, .inl (cT 1, 12, .inr (.inl e_partCents))), (qMjoined, .inl (cT 3, 100, .inl e_joined)), (qMproofKind, .inl (cT 0, 20, .inl e_proofKind)), (qMproofFrom, .inl (cT 0, 20, .inl e_proofFrom)), (qMproofTo, .inl (cT 0, 20, .inl e_proofTo)), (qMtold, .inl (cT 0, 300, .inl e_told)), (qMlive, .inl (cT 3, 9, .inl e_live)), (qMany, .inl (cT 3, 9, .inl e_any)), (qMall, .inl (cT 3, 9, .inl e_all)), (qU, .inl (cT 1, 1, .inr (.inl uout_747)))]) S hE hTE hNc (c_Law_proof l hl0 D cT qO qOa qT qTs qR qRs qP qPc qPl qPv qL qLj qF qFk qFf qFl qU done brd tup tdn askd answ tlen tpl tsg rlen rsz rsg psz pcd pld pct lpr lful ljn fsz fkd ffr fto uout (xs (x4 + 1).toNatClampNeg) (xs (x4 + 2).toNatClampNeg) (xs (x4 + 3).toNatClampNeg) hc_747) gw_ce3bb3ba rfl rfl ⟨Nat.le_of_ble_eq_true rfl, Nat.le_of_ble_eq_true rfl⟩ rfl hl.1 rfl (Nat.le_of_ble_eq_true rfl) d_law_747 ⟨hc1, hs1⟩ hP hD hS hA [0, 1, 2, 3, 4, 5, 6, 7, 8, 9, 10, 11, 12, 13, 14, 15, 32] [16, 17, 18, 19, 20, 21, 22, 23, 24, 25, 26, 27, 28, 29, 30, 31] [16, 17, 18, 19, 20, 21, 22, 23, 24, 25, 26, 27, 28, 29, 30, 31, 0, 1, 2, 3, 4, 5, 6, 7, 8, 9, 10, 11, 12, 13, 14, 15, 32] rfl rfl (by decide) (by decide) rfl (by decide) (by decide) (fun H locs hP hD hS => ?_)
                                refine lv_istore (lv' := [(5, .int r_747), (0, .ref b), (1, .ref qO), (2, .ref qM), (3, .ref qU), (4, .int x4)]) hx hb d_law_750 hl (by decide) rfl (fun ls hl => ?_)
                                refine lv_aload_n hx hb d_law_752 rfl (lv_at hl 3 rfl) ?_
                                refine lv_aload_n hx hb d_law_753 rfl (lv_at hl 1 rfl) ?_
                                refine lv_iload hx hb d_law_754 (lv_at hl 5 rfl) ?_
                                refine lv_iconst (v := 1) hx hb d_law_756 (by decide) ?_
                                refine lv_iadd hx hb d_law_757 ?_
                                obtain ⟨hin_758, hM⟩ := ixT hM
                                refine va_sld hx hb hX hbl hbA hS hin_758 d_law_758 ?_
                                refine lv_aload_n hx hb d_law_759 rfl (lv_at hl 1 rfl) ?_
                                refine lv_iload hx hb d_law_760 (lv_at hl 5 rfl) ?_
                                refine lv_iconst (v := 2) hx hb d_law_762 (by decide) ?_
                                refine lv_iadd hx hb d_law_763 ?_
                                obtain ⟨hin_764, hM⟩ := ixT hM
                                refine va_sld hx hb hX hbl hbA hS hin_764 d_law_764 ?_
                                refine lv_aload_n hx hb d_law_765 rfl (lv_at hl 1 rfl) ?_
                                refine lv_iload hx hb d_law_766 (lv_at hl 5 rfl) ?_
                                refine lv_iconst (v := 3) hx hb d_law_768 (by decide) ?_
                                refine lv_iadd hx hb d_law_769 ?_
                                obtain ⟨hin_770, hM⟩ := ixT hM
                                refine va_sld hx hb hX hbl hbA hS hin_770 d_law_770 ?_
                                obtain ⟨r_771, e_thrown_771, e_proofs_771, e_proofKind_771, e_proofFrom_771, e_proofTo_771, hc_771, hM⟩ := bd6T hM
                                refine ca_V (As := [.int (xs (x4 + 1).toNatClampNeg), .int (xs (x4 + 2).toNatClampNeg), .int (xs (x4 + 3).toNatClampNeg)]) (rest := []) (wr := [(qO, .inr (0, [.ref qT, .ref qR, .ref qP, .ref qL, .ref qF, .int done, .int brd, .int tup, .int tdn, .ref qOa, .int askd])), (qOa, .inl (cT 0, 149, .inl answ)), (qT, .inr (1, [.ref qTs, .int tlen, .int tpl])), (qTs, .inl (cT 2, 300, .inl tsg)), (qR, .inr (2, [.ref qRs, .int rlen, .int rsz])), (qRs, .inl (cT 2, 300, .inl rsg)), (qP, .inr (3, [.ref qPc, .ref qPl, .ref qPv, .int psz])), (qPc, .inl (cT 0, 12, .inl pcd)), (qPl, .inl (cT 0, 12, .inl pld)), (qPv, .inl (cT 1, 12, .inr (.inl pct))), (qL, .inr (4, [.ref qLj, .int lpr, .int (bI lful)])), (qLj, .inl (cT 0, 10, .inl ljn)), (qF, .inr (5, [.ref qFk, .ref qFf, .ref qFl, .int fsz_747])), (qFk, .inl (cT 0, 20, .inl fkd_747)), (qFf, .inl (cT 0, 20, .inl ffr_747)), (qFl, .inl (cT 0, 20, .inl fto_747)), (qU, .inl (cT 1, 1, .inr (.inl uout_747)))]) (w2 := [(qO, .inr (0, [.ref qT, .ref qR, .ref qP, .ref qL, .ref qF, .int done, .int brd, .int tup, .int tdn, .ref qOa, .int askd])), (qOa, .inl (cT 0, 149, .inl answ)), (qT, .inr (1, [.ref qTs, .int tlen, .int tpl])), (qTs, .inl (cT 2, 300, .inl tsg)), (qR, .inr (2, [.ref qRs, .int rlen, .int rsz])), (qRs, .inl (cT 2, 300, .inl rsg)), (qP, .inr (3, [.ref qPc, .ref qPl, .ref qPv, .int psz])), (qPc, .inl (cT 0, 12, .inl pcd)), (qPl, .inl (cT 0, 12, .inl pld)), (qPv, .inl (cT 1, 12, .inr (.inl pct))), (qL, .inr (4, [.ref qLj, .int lpr, .int (bI lful)])), (qLj, .inl (cT 0, 10, .inl ljn)), (qF, .inr (5, [.ref qFk, .ref qFf, .ref qFl, .int fsz_747])), (qFk, .inl (cT 0, 20, .inl fkd_747)), (qFf, .inl (cT 0, 20, .inl ffr_747)), (qFl, .inl (cT 0, 20, .inl fto_747)), (qM, .inr (6, [.int e_thrown_771, .ref qMtext, .int e_signs, .ref qMread, .ref qMbegins, .int e_rows, .ref qMtried, .int e_parts, .ref qMpartCode, .ref qMpartLand, .ref qMpartCents, .int e_done, .int e_barred, .ref qMjoined, .int e_pairs, .int (bI e_full), .int e_up, .int e_down, .int e_proofs_771, .ref qMproofKind, .ref qMproofFrom, .ref qMproofTo, .int e_asked, .ref qMtold, .ref qMlive, .ref qMany, .ref qMall])), (qMtext, .inl (cT 0, 300, .inl e_text)), (qMread, .inl (cT 0, 300, .inl e_read)), (qMbegins, .inl (cT 0, 21, .inl e_begins)), (qMtried, .inl (cT 0, 21, .inl e_tried)), (qMpartCode, .inl (cT 0, 12, .inl e_partCode)), (qMpartLand, .inl (cT 0, 12, .inl e_partLand)), (qMpartCents, .inl (cT 1, 12, .inr (.inl e_partCents))), (qMjoined, .inl (cT 3, 100, .inl e_joined)), (qMproofKind, .inl (cT 0, 20, .inl e_proofKind_771)), (qMproofFrom, .inl (cT 0, 20, .inl e_proofFrom_771)), (qMproofTo, .inl (cT 0, 20, .inl e_proofTo_771)), (qMtold, .inl (cT 0, 300, .inl e_told)), (qMlive, .inl (cT 3, 9, .inl e_live)), (qMany, .inl (cT 3, 9, .inl e_any)), (qMall, .inl (cT 3, 9, .inl e_all)), (qU, .inl (cT 1, 1, .inr (.inl uout_747)))]) S hE (c_Md_proof l D cT qM qMtext qMread qMbegins qMtried qMpartCode qMpartLand qMpartCents qMjoined qMproofKind qMproofFrom qMproofTo qMtold qMlive qMany qMall e_thrown e_signs e_rows e_parts e_done e_barred e_pairs e_full e_up e_down e_proofs e_asked e_text e_read e_begins e_tried e_partCode e_partLand e_partCents e_joined e_proofKind e_proofFrom e_proofTo e_told e_live e_any e_all (xs (x4 + 1).toNatClampNeg) (xs (x4 + 2).toNatClampNeg) (xs (x4 + 3).toNatClampNeg) hc_771) gw_ac16a07f rfl rfl ⟨Nat.le_of_ble_eq_true rfl, Nat.le_of_ble_eq_true rfl⟩ (ci := 6) rfl rfl (k0 := 0) rfl rfl hl.1 rfl (Nat.le_of_ble_eq_true rfl) d_law_771 ⟨hc1, hs1⟩ hP hD hS hA [16, 17, 18, 19, 20, 21, 22, 23, 24, 25, 26, 27, 28, 29, 30, 31] [0, 1, 2, 3, 4, 5, 6, 7, 8, 9, 10, 11, 12, 13, 14, 15, 32] [0, 1, 2, 3, 4, 5, 6, 7, 8, 9, 10, 11, 12, 13, 14, 15, 17, 18, 19, 20, 21, 22, 23, 24, 25, 26, 27, 28, 29, 30, 31, 32, 16] rfl rfl (by decide) (by decide) rfl (by decide) (by decide) (fun H locs hP hD hS => ?_)
                                refine lv_istore (lv' := [(6, .int r_771), (5, .int r_747), (0, .ref b), (1, .ref qO), (2, .ref qM), (3, .ref qU), (4, .int x4)]) hx hb d_law_774 hl (by decide) rfl (fun ls hl => ?_)
                                refine lv_aload_n hx hb d_law_776 rfl (lv_at hl 4 rfl) ?_
                                obtain ⟨r_777, hc_777, hM⟩ := bd1T hM
                                refine ca_V (As := []) (rest := []) (wr := [(qO, .inr (0, [.ref qT, .ref qR, .ref qP, .ref qL, .ref qF, .int done, .int brd, .int tup, .int tdn, .ref qOa, .int askd])), (qOa, .inl (cT 0, 149, .inl answ)), (qT, .inr (1, [.ref qTs, .int tlen, .int tpl])), (qTs, .inl (cT 2, 300, .inl tsg)), (qR, .inr (2, [.ref qRs, .int rlen, .int rsz])), (qRs, .inl (cT 2, 300, .inl rsg)), (qP, .inr (3, [.ref qPc, .ref qPl, .ref qPv, .int psz])), (qPc, .inl (cT 0, 12, .inl pcd)), (qPl, .inl (cT 0, 12, .inl pld)), (qPv, .inl (cT 1, 12, .inr (.inl pct))), (qL, .inr (4, [.ref qLj, .int lpr, .int (bI lful)])), (qLj, .inl (cT 0, 10, .inl ljn)), (qF, .inr (5, [.ref qFk, .ref qFf, .ref qFl, .int fsz_747])), (qFk, .inl (cT 0, 20, .inl fkd_747)), (qFf, .inl (cT 0, 20, .inl ffr_747)), (qFl, .inl (cT 0, 20, .inl fto_747)), (qU, .inl (cT 1, 1, .inr (.inl uout_747)))]) (w2 := [(qO, .inr (0, [.ref qT, .ref qR, .ref qP, .ref qL, .ref qF, .int done, .int brd, .int tup, .int tdn, .ref qOa, .int askd])), (qOa, .inl (cT 0, 149, .inl answ)), (qT, .inr (1, [.ref qTs, .int tlen, .int tpl])), (qTs, .inl (cT 2, 300, .inl tsg)), (qR, .inr (2, [.ref qRs, .int rlen, .int rsz])), (qRs, .inl (cT 2, 300, .inl rsg)), (qP, .inr (3, [.ref qPc, .ref qPl, .ref qPv, .int psz])), (qPc, .inl (cT 0, 12, .inl pcd)), (qPl, .inl (cT 0, 12, .inl pld)), (qPv, .inl (cT 1, 12, .inr (.inl pct))), (qL, .inr (4, [.ref qLj, .int lpr, .int (bI lful)])), (qLj, .inl (cT 0, 10, .inl ljn)), (qF, .inr (5, [.ref qFk, .ref qFf, .ref qFl, .int fsz_747])), (qFk, .inl (cT 0, 20, .inl fkd_747)), (qFf, .inl (cT 0, 20, .inl ffr_747)), (qFl, .inl (cT 0, 20, .inl fto_747)), (qM, .inr (6, [.int e_thrown_771, .ref qMtext, .int e_signs, .ref qMread, .ref qMbegins, .int e_rows, .ref qMtried, .int e_parts, .ref qMpartCode, .ref qMpartLand, .ref qMpartCents, .int e_done, .int e_barred, .ref qMjoined, .int e_pairs, .int (bI e_full), .int e_up, .int e_down, .int e_proofs_771, .ref qMproofKind, .ref qMproofFrom, .ref qMproofTo, .int e_asked, .ref qMtold, .ref qMlive, .ref qMany, .ref qMall])), (qMtext, .inl (cT 0, 300, .inl e_text)), (qMread, .inl (cT 0, 300, .inl e_read)), (qMbegins, .inl (cT 0, 21, .inl e_begins)), (qMtried, .inl (cT 0, 21, .inl e_tried)), (qMpartCode, .inl (cT 0, 12, .inl e_partCode)), (qMpartLand, .inl (cT 0, 12, .inl e_partLand)), (qMpartCents, .inl (cT 1, 12, .inr (.inl e_partCents))), (qMjoined, .inl (cT 3, 100, .inl e_joined)), (qMproofKind, .inl (cT 0, 20, .inl e_proofKind_771)), (qMproofFrom, .inl (cT 0, 20, .inl e_proofFrom_771)), (qMproofTo, .inl (cT 0, 20, .inl e_proofTo_771)), (qMtold, .inl (cT 0, 300, .inl e_told)), (qMlive, .inl (cT 3, 9, .inl e_live)), (qMany, .inl (cT 3, 9, .inl e_any)), (qMall, .inl (cT 3, 9, .inl e_all)), (qU, .inl (cT 1, 1, .inr (.inl uout_747)))]) S hE (c_Md_thrown l D cT qM qMtext qMread qMbegins qMtried qMpartCode qMpartLand qMpartCents qMjoined qMproofKind qMproofFrom qMproofTo qMtold qMlive qMany qMall e_thrown_771 e_signs e_rows e_parts e_done e_barred e_pairs e_full e_up e_down e_proofs_771 e_asked e_text e_read e_begins e_tried e_partCode e_partLand e_partCents e_joined e_proofKind_771 e_proofFrom_771 e_proofTo_771 e_told e_live e_any e_all hc_777) gw_ba35c1bc rfl rfl ⟨Nat.le_of_ble_eq_true rfl, Nat.le_of_ble_eq_true rfl⟩ (ci := 6) rfl rfl (k0 := 0) rfl rfl hl.1 rfl (Nat.le_of_ble_eq_true rfl) d_law_777 ⟨hc1, hs1⟩ hP hD hS hA [16, 17, 18, 19, 20, 21, 22, 23, 24, 25, 26, 27, 28, 29, 30, 31] [0, 1, 2, 3, 4, 5, 6, 7, 8, 9, 10, 11, 12, 13, 14, 15, 32] [0, 1, 2, 3, 4, 5, 6, 7, 8, 9, 10, 11, 12, 13, 14, 15, 17, 18, 19, 20, 21, 22, 23, 24, 25, 26, 27, 28, 29, 30, 31, 32, 16] rfl rfl (by decide) (by decide) rfl (by decide) (by decide) (fun H locs hP hD hS => ?_)
                                refine lv_iload hx hb d_law_780 (lv_at hl 1 rfl) ?_
                                refine lv_icmp_eq (tgt := 787) hx hb d_law_782 (by decide) (fun c_782 => ?_) (fun c_782 => ?_)
                                · have hM := itT hM c_782
                                  refine lv_iload hx hb d_law_787 (lv_at hl 1 rfl) ?_
                                  refine lv_if_ne (tgt := 804) hx hb d_law_789 (by decide) (fun c_789 => ?_) (fun c_789 => ?_)
                                  · have hM := itF hM c_789
                                    refine lv_goto (tgt := 1014) hx hb d_law_804 (by decide) ?_
                                    refine lv_iinc (v := x4 + 5) (lv' := [(4, .int (x4 + 5)), (6, .int r_771), (5, .int r_747), (0, .ref b), (1, .ref qO), (2, .ref qM), (3, .ref qU)]) hx hb d_law_1014 hl (k := 6) rfl rfl (by decide) rfl (fun ls hl => ?_)
                                    refine lv_goto (tgt := 23) hx hb d_law_1017 (by decide) ?_
                                    refine W.widen (k := 1067 - n) (n := 10328 - 6 * n) (by omega) (by omega) ?_
                                    exact ih (by omega) (x4 + 5) done brd tup tdn askd answ tlen tpl tsg rlen rsz rsg psz pcd pld pct lpr lful ljn fsz_747 fkd_747 ffr_747 fto_747 e_thrown_771 e_signs e_rows e_parts e_done e_barred e_pairs e_full e_up e_down e_proofs_771 e_asked e_text e_read e_begins e_tried e_partCode e_partLand e_partCents e_joined e_proofKind_771 e_proofFrom_771 e_proofTo_771 e_told e_live e_any e_all uout_747 hM _ _ _ hP hD hS (lv_sub hl [3, 4, 5, 6, 0] rfl)
                                  · have hM := itT hM c_789
                                    refine lv_aload_n hx hb d_law_792 rfl (lv_at hl 5 rfl) ?_
                                    refine lv_iconst (v := 0) hx hb d_law_793 (by decide) ?_
                                    obtain ⟨hin_794, hM⟩ := ixT hM
                                    refine va_lald hx hb hK hP 32 1 rfl rfl hin_794 d_law_794 ?_
                                    refine lv_iload hx hb d_law_795 (lv_at hl 0 rfl) ?_
                                    refine lv_i2l hx hb d_law_797 rfl ?_
                                    refine W.lcmp hx hb d_law_798 ?_
                                    refine lv_if_eq (tgt := 804) hx hb d_law_799 (by decide) (fun c_799 => ?_) (fun c_799 => ?_)
                                    · have hM := itT hM c_799
                                      refine lv_goto (tgt := 1014) hx hb d_law_804 (by decide) ?_
                                      refine lv_iinc (v := x4 + 5) (lv' := [(4, .int (x4 + 5)), (6, .int r_771), (5, .int r_747), (0, .ref b), (1, .ref qO), (2, .ref qM), (3, .ref qU)]) hx hb d_law_1014 hl (k := 6) rfl rfl (by decide) rfl (fun ls hl => ?_)
                                      refine lv_goto (tgt := 23) hx hb d_law_1017 (by decide) ?_
                                      refine W.widen (k := 1067 - n) (n := 10328 - 6 * n) (by omega) (by omega) ?_
                                      exact ih (by omega) (x4 + 5) done brd tup tdn askd answ tlen tpl tsg rlen rsz rsg psz pcd pld pct lpr lful ljn fsz_747 fkd_747 ffr_747 fto_747 e_thrown_771 e_signs e_rows e_parts e_done e_barred e_pairs e_full e_up e_down e_proofs_771 e_asked e_text e_read e_begins e_tried e_partCode e_partLand e_partCents e_joined e_proofKind_771 e_proofFrom_771 e_proofTo_771 e_told e_live e_any e_all uout_747 hM _ _ _ hP hD hS (lv_sub hl [3, 4, 5, 6, 0] rfl)
                                    · have hM := itF hM c_799
                                      refine lv_iconst (v := 0) hx hb d_law_802 (by decide) ?_
                                      exact absurd hM (by simp)
                                · have hM := itF hM c_782
                                  refine lv_iconst (v := 0) hx hb d_law_785 (by decide) ?_
                                  exact absurd hM (by simp)
                              · have hM := itF hM c_39_12
                                by_cases c_39_13 : ((xs x4.toNatClampNeg) &&& 15) = 13
                                · have hM := itT hM c_39_13
                                  refine lv_tableIn (tgt := 807) hx hb d_law_39 (by rw [c_39_13]; decide) (by rw [c_39_13]; decide) (by rw [c_39_13]; rfl) (by decide) ?_
                                  refine lv_aload_n hx hb d_law_807 rfl (lv_at hl 1 rfl) ?_
                                  refine lv_aload_n hx hb d_law_808 rfl (lv_at hl 0 rfl) ?_
                                  refine lv_iload hx hb d_law_809 (lv_at hl 4 rfl) ?_
                                  refine lv_iconst (v := 1) hx hb d_law_811 (by decide) ?_
                                  refine lv_iadd hx hb d_law_812 ?_
                                  obtain ⟨hin_813, hM⟩ := ixT hM
                                  refine va_sld hx hb hX hbl hbA hS hin_813 d_law_813 ?_
                                  refine lv_aload_n hx hb d_law_814 rfl (lv_at hl 0 rfl) ?_
                                  refine lv_iload hx hb d_law_815 (lv_at hl 4 rfl) ?_
                                  refine lv_iconst (v := 2) hx hb d_law_817 (by decide) ?_
                                  refine lv_iadd hx hb d_law_818 ?_
                                  obtain ⟨hin_819, hM⟩ := ixT hM
                                  refine va_sld hx hb hX hbl hbA hS hin_819 d_law_819 ?_
                                  refine lv_i2l hx hb d_law_820 rfl ?_
                                  refine lv_bipush (v := 32) hx hb d_law_821 (by decide) ?_
                                  refine lv_lshl hx hb d_law_823 rfl ?_
                                  refine lv_aload_n hx hb d_law_824 rfl (lv_at hl 0 rfl) ?_
                                  refine lv_iload hx hb d_law_825 (lv_at hl 4 rfl) ?_
                                  refine lv_iconst (v := 3) hx hb d_law_827 (by decide) ?_
                                  refine lv_iadd hx hb d_law_828 ?_
                                  obtain ⟨hin_829, hM⟩ := ixT hM
                                  refine va_sld hx hb hX hbl hbA hS hin_829 d_law_829 ?_
                                  refine lv_i2l hx hb d_law_830 rfl ?_
                                  refine lv_ldc2 (v := 4294967295) hx hb hown (hts _ iw_14dbc7c5) d_law_831 ?_
                                  refine lv_land hx hb d_law_834 ?_
                                  refine lv_lor hx hb d_law_835 ?_
                                  refine lv_aload_n hx hb d_law_836 rfl (lv_at hl 0 rfl) ?_
                                  refine lv_iload hx hb d_law_837 (lv_at hl 4 rfl) ?_
                                  refine lv_iconst (v := 4) hx hb d_law_839 (by decide) ?_
                                  refine lv_iadd hx hb d_law_840 ?_
                                  obtain ⟨hin_841, hM⟩ := ixT hM
                                  refine va_sld hx hb hX hbl hbA hS hin_841 d_law_841 ?_
                                  refine lv_aload_n hx hb d_law_842 rfl (lv_at hl 3 rfl) ?_
                                  obtain ⟨r_843, uout_843, hc_843, hM⟩ := bd2T hM
                                  refine cl_H (As := [.ref qO, .int (xs (x4 + 1).toNatClampNeg), .long ((((xs (x4 + 2).toNatClampNeg).toInt64) <<< (((32 : Int32)).toInt64 &&& 63)) ||| (((xs (x4 + 3).toNatClampNeg).toInt64) &&& 4294967295)), .int (xs (x4 + 4).toNatClampNeg), .ref qU]) (rest := []) (wr := [(qM, .inr (6, [.int e_thrown, .ref qMtext, .int e_signs, .ref qMread, .ref qMbegins, .int e_rows, .ref qMtried, .int e_parts, .ref qMpartCode, .ref qMpartLand, .ref qMpartCents, .int e_done, .int e_barred, .ref qMjoined, .int e_pairs, .int (bI e_full), .int e_up, .int e_down, .int e_proofs, .ref qMproofKind, .ref qMproofFrom, .ref qMproofTo, .int e_asked, .ref qMtold, .ref qMlive, .ref qMany, .ref qMall])), (qMtext, .inl (cT 0, 300, .inl e_text)), (qMread, .inl (cT 0, 300, .inl e_read)), (qMbegins, .inl (cT 0, 21, .inl e_begins)), (qMtried, .inl (cT 0, 21, .inl e_tried)), (qMpartCode, .inl (cT 0, 12, .inl e_partCode)), (qMpartLand, .inl (cT 0, 12, .inl e_partLand)), (qMpartCents, .inl (cT 1, 12, .inr (.inl e_partCents))), (qMjoined, .inl (cT 3, 100, .inl e_joined)), (qMproofKind, .inl (cT 0, 20, .inl e_proofKind)), (qMproofFrom, .inl (cT 0, 20, .inl e_proofFrom)), (qMproofTo, .inl (cT 0, 20, .inl e_proofTo)), (qMtold, .inl (cT 0, 300, .inl e_told)), (qMlive, .inl (cT 3, 9, .inl e_live)), (qMany, .inl (cT 3, 9, .inl e_any)), (qMall, .inl (cT 3, 9, .inl e_all))]) (w2 := [(qO, .inr (0, [.ref qT, .ref qR, .ref qP, .ref qL, .ref qF, .int done, .int brd, .int tup, .int tdn, .ref qOa, .int askd])), (qOa, .inl (cT 0, 149, .inl answ)), (qT, .inr (1, [.ref qTs, .int tlen, .int tpl])), (qTs, .inl (cT 2, 300, .inl tsg)), (qR, .inr (2, [.ref qRs, .int rlen, .int rsz])), (qRs, .inl (cT 2, 300, .inl rsg)), (qP, .inr (3, [.ref qPc, .ref qPl, .ref qPv, .int psz])), (qPc, .inl (cT 0, 12, .inl pcd)), (qPl, .inl (cT 0, 12, .inl pld)), (qPv, .inl (cT 1, 12, .inr (.inl pct))), (qL, .inr (4, [.ref qLj, .int lpr, .int (bI lful)])), (qLj, .inl (cT 0, 10, .inl ljn)), (qF, .inr (5, [.ref qFk, .ref qFf, .ref qFl, .int fsz])), (qFk, .inl (cT 0, 20, .inl fkd)), (qFf, .inl (cT 0, 20, .inl ffr)), (qFl, .inl (cT 0, 20, .inl fto)), (qM, .inr (6, [.int e_thrown, .ref qMtext, .int e_signs, .ref qMread, .ref qMbegins, .int e_rows, .ref qMtried, .int e_parts, .ref qMpartCode, .ref qMpartLand, .ref qMpartCents, .int e_done, .int e_barred, .ref qMjoined, .int e_pairs, .int (bI e_full), .int e_up, .int e_down, .int e_proofs, .ref qMproofKind, .ref qMproofFrom, .ref qMproofTo, .int e_asked, .ref qMtold, .ref qMlive, .ref qMany, .ref qMall])), (qMtext, .inl (cT 0, 300, .inl e_text)), (qMread, .inl (cT 0, 300, .inl e_read)), (qMbegins, .inl (cT 0, 21, .inl e_begins)), (qMtried, .inl (cT 0, 21, .inl e_tried)), (qMpartCode, .inl (cT 0, 12, .inl e_partCode)), (qMpartLand, .inl (cT 0, 12, .inl e_partLand)), (qMpartCents, .inl (cT 1, 12, .inr (.inl e_partCents))), (qMjoined, .inl (cT 3, 100, .inl e_joined)), (qMproofKind, .inl (cT 0, 20, .inl e_proofKind)), (qMproofFrom, .inl (cT 0, 20, .inl e_proofFrom)), (qMproofTo, .inl (cT 0, 20, .inl e_proofTo)), (qMtold, .inl (cT 0, 300, .inl e_told)), (qMlive, .inl (cT 3, 9, .inl e_live)), (qMany, .inl (cT 3, 9, .inl e_any)), (qMall, .inl (cT 3, 9, .inl e_all)), (qU, .inl (cT 1, 1, .inr (.inl uout_843)))]) S hE hTE hNc (c_Law_good l hl0 D cT qO qOa qT qTs qR qRs qP qPc qPl qPv qL qLj qF qFk qFf qFl qU done brd tup tdn askd answ tlen tpl tsg rlen rsz rsg psz pcd pld pct lpr lful ljn fsz fkd ffr fto uout (xs (x4 + 1).toNatClampNeg) ((((xs (x4 + 2).toNatClampNeg).toInt64) <<< (((32 : Int32)).toInt64 &&& 63)) ||| (((xs (x4 + 3).toNatClampNeg).toInt64) &&& 4294967295)) (xs (x4 + 4).toNatClampNeg) hc_843) gw_4d19c659 rfl rfl ⟨Nat.le_of_ble_eq_true rfl, Nat.le_of_ble_eq_true rfl⟩ rfl hl.1 rfl (Nat.le_of_ble_eq_true rfl) d_law_843 ⟨hc1, hs1⟩ hP hD hS hA [0, 1, 2, 3, 4, 5, 6, 7, 8, 9, 10, 11, 12, 13, 14, 15, 32] [16, 17, 18, 19, 20, 21, 22, 23, 24, 25, 26, 27, 28, 29, 30, 31] [16, 17, 18, 19, 20, 21, 22, 23, 24, 25, 26, 27, 28, 29, 30, 31, 0, 1, 2, 3, 4, 5, 6, 7, 8, 9, 10, 11, 12, 13, 14, 15, 32] rfl rfl (by decide) (by decide) rfl (by decide) (by decide) (fun H locs hP hD hS => ?_)
                                  refine lv_istore (lv' := [(5, .int r_843), (0, .ref b), (1, .ref qO), (2, .ref qM), (3, .ref qU), (4, .int x4)]) hx hb d_law_846 hl (by decide) rfl (fun ls hl => ?_)
                                  refine lv_aload_n hx hb d_law_848 rfl (lv_at hl 3 rfl) ?_
                                  refine lv_aload_n hx hb d_law_849 rfl (lv_at hl 1 rfl) ?_
                                  refine lv_iload hx hb d_law_850 (lv_at hl 5 rfl) ?_
                                  refine lv_iconst (v := 1) hx hb d_law_852 (by decide) ?_
                                  refine lv_iadd hx hb d_law_853 ?_
                                  obtain ⟨hin_854, hM⟩ := ixT hM
                                  refine va_sld hx hb hX hbl hbA hS hin_854 d_law_854 ?_
                                  refine lv_aload_n hx hb d_law_855 rfl (lv_at hl 1 rfl) ?_
                                  refine lv_iload hx hb d_law_856 (lv_at hl 5 rfl) ?_
                                  refine lv_iconst (v := 2) hx hb d_law_858 (by decide) ?_
                                  refine lv_iadd hx hb d_law_859 ?_
                                  obtain ⟨hin_860, hM⟩ := ixT hM
                                  refine va_sld hx hb hX hbl hbA hS hin_860 d_law_860 ?_
                                  refine lv_i2l hx hb d_law_861 rfl ?_
                                  refine lv_bipush (v := 32) hx hb d_law_862 (by decide) ?_
                                  refine lv_lshl hx hb d_law_864 rfl ?_
                                  refine lv_aload_n hx hb d_law_865 rfl (lv_at hl 1 rfl) ?_
                                  refine lv_iload hx hb d_law_866 (lv_at hl 5 rfl) ?_
                                  refine lv_iconst (v := 3) hx hb d_law_868 (by decide) ?_
                                  refine lv_iadd hx hb d_law_869 ?_
                                  obtain ⟨hin_870, hM⟩ := ixT hM
                                  refine va_sld hx hb hX hbl hbA hS hin_870 d_law_870 ?_
                                  refine lv_i2l hx hb d_law_871 rfl ?_
                                  refine lv_ldc2 (v := 4294967295) hx hb hown (hts _ iw_14dbc7c5) d_law_872 ?_
                                  refine lv_land hx hb d_law_875 ?_
                                  refine lv_lor hx hb d_law_876 ?_
                                  refine lv_aload_n hx hb d_law_877 rfl (lv_at hl 1 rfl) ?_
                                  refine lv_iload hx hb d_law_878 (lv_at hl 5 rfl) ?_
                                  refine lv_iconst (v := 4) hx hb d_law_880 (by decide) ?_
                                  refine lv_iadd hx hb d_law_881 ?_
                                  obtain ⟨hin_882, hM⟩ := ixT hM
                                  refine va_sld hx hb hX hbl hbA hS hin_882 d_law_882 ?_
                                  obtain ⟨r_883, e_thrown_883, hc_883, hM⟩ := bd2T hM
                                  refine ca_V (As := [.int (xs (x4 + 1).toNatClampNeg), .long ((((xs (x4 + 2).toNatClampNeg).toInt64) <<< (((32 : Int32)).toInt64 &&& 63)) ||| (((xs (x4 + 3).toNatClampNeg).toInt64) &&& 4294967295)), .int (xs (x4 + 4).toNatClampNeg)]) (rest := []) (wr := [(qO, .inr (0, [.ref qT, .ref qR, .ref qP, .ref qL, .ref qF, .int done, .int brd, .int tup, .int tdn, .ref qOa, .int askd])), (qOa, .inl (cT 0, 149, .inl answ)), (qT, .inr (1, [.ref qTs, .int tlen, .int tpl])), (qTs, .inl (cT 2, 300, .inl tsg)), (qR, .inr (2, [.ref qRs, .int rlen, .int rsz])), (qRs, .inl (cT 2, 300, .inl rsg)), (qP, .inr (3, [.ref qPc, .ref qPl, .ref qPv, .int psz])), (qPc, .inl (cT 0, 12, .inl pcd)), (qPl, .inl (cT 0, 12, .inl pld)), (qPv, .inl (cT 1, 12, .inr (.inl pct))), (qL, .inr (4, [.ref qLj, .int lpr, .int (bI lful)])), (qLj, .inl (cT 0, 10, .inl ljn)), (qF, .inr (5, [.ref qFk, .ref qFf, .ref qFl, .int fsz])), (qFk, .inl (cT 0, 20, .inl fkd)), (qFf, .inl (cT 0, 20, .inl ffr)), (qFl, .inl (cT 0, 20, .inl fto)), (qU, .inl (cT 1, 1, .inr (.inl uout_843)))]) (w2 := [(qO, .inr (0, [.ref qT, .ref qR, .ref qP, .ref qL, .ref qF, .int done, .int brd, .int tup, .int tdn, .ref qOa, .int askd])), (qOa, .inl (cT 0, 149, .inl answ)), (qT, .inr (1, [.ref qTs, .int tlen, .int tpl])), (qTs, .inl (cT 2, 300, .inl tsg)), (qR, .inr (2, [.ref qRs, .int rlen, .int rsz])), (qRs, .inl (cT 2, 300, .inl rsg)), (qP, .inr (3, [.ref qPc, .ref qPl, .ref qPv, .int psz])), (qPc, .inl (cT 0, 12, .inl pcd)), (qPl, .inl (cT 0, 12, .inl pld)), (qPv, .inl (cT 1, 12, .inr (.inl pct))), (qL, .inr (4, [.ref qLj, .int lpr, .int (bI lful)])), (qLj, .inl (cT 0, 10, .inl ljn)), (qF, .inr (5, [.ref qFk, .ref qFf, .ref qFl, .int fsz])), (qFk, .inl (cT 0, 20, .inl fkd)), (qFf, .inl (cT 0, 20, .inl ffr)), (qFl, .inl (cT 0, 20, .inl fto)), (qM, .inr (6, [.int e_thrown_883, .ref qMtext, .int e_signs, .ref qMread, .ref qMbegins, .int e_rows, .ref qMtried, .int e_parts, .ref qMpartCode, .ref qMpartLand, .ref qMpartCents, .int e_done, .int e_barred, .ref qMjoined, .int e_pairs, .int (bI e_full), .int e_up, .int e_down, .int e_proofs, .ref qMproofKind, .ref qMproofFrom, .ref qMproofTo, .int e_asked, .ref qMtold, .ref qMlive, .ref qMany, .ref qMall])), (qMtext, .inl (cT 0, 300, .inl e_text)), (qMread, .inl (cT 0, 300, .inl e_read)), (qMbegins, .inl (cT 0, 21, .inl e_begins)), (qMtried, .inl (cT 0, 21, .inl e_tried)), (qMpartCode, .inl (cT 0, 12, .inl e_partCode)), (qMpartLand, .inl (cT 0, 12, .inl e_partLand)), (qMpartCents, .inl (cT 1, 12, .inr (.inl e_partCents))), (qMjoined, .inl (cT 3, 100, .inl e_joined)), (qMproofKind, .inl (cT 0, 20, .inl e_proofKind)), (qMproofFrom, .inl (cT 0, 20, .inl e_proofFrom)), (qMproofTo, .inl (cT 0, 20, .inl e_proofTo)), (qMtold, .inl (cT 0, 300, .inl e_told)), (qMlive, .inl (cT 3, 9, .inl e_live)), (qMany, .inl (cT 3, 9, .inl e_any)), (qMall, .inl (cT 3, 9, .inl e_all)), (qU, .inl (cT 1, 1, .inr (.inl uout_843)))]) S hE (c_Md_good l D cT qM qMtext qMread qMbegins qMtried qMpartCode qMpartLand qMpartCents qMjoined qMproofKind qMproofFrom qMproofTo qMtold qMlive qMany qMall e_thrown e_signs e_rows e_parts e_done e_barred e_pairs e_full e_up e_down e_proofs e_asked e_text e_read e_begins e_tried e_partCode e_partLand e_partCents e_joined e_proofKind e_proofFrom e_proofTo e_told e_live e_any e_all (xs (x4 + 1).toNatClampNeg) ((((xs (x4 + 2).toNatClampNeg).toInt64) <<< (((32 : Int32)).toInt64 &&& 63)) ||| (((xs (x4 + 3).toNatClampNeg).toInt64) &&& 4294967295)) (xs (x4 + 4).toNatClampNeg) hc_883) gw_60fa6b7c rfl rfl ⟨Nat.le_of_ble_eq_true rfl, Nat.le_of_ble_eq_true rfl⟩ (ci := 6) rfl rfl (k0 := 0) rfl rfl hl.1 rfl (Nat.le_of_ble_eq_true rfl) d_law_883 ⟨hc1, hs1⟩ hP hD hS hA [16, 17, 18, 19, 20, 21, 22, 23, 24, 25, 26, 27, 28, 29, 30, 31] [0, 1, 2, 3, 4, 5, 6, 7, 8, 9, 10, 11, 12, 13, 14, 15, 32] [0, 1, 2, 3, 4, 5, 6, 7, 8, 9, 10, 11, 12, 13, 14, 15, 17, 18, 19, 20, 21, 22, 23, 24, 25, 26, 27, 28, 29, 30, 31, 32, 16] rfl rfl (by decide) (by decide) rfl (by decide) (by decide) (fun H locs hP hD hS => ?_)
                                  refine lv_istore (lv' := [(6, .int (bI r_883)), (5, .int r_843), (0, .ref b), (1, .ref qO), (2, .ref qM), (3, .ref qU), (4, .int x4)]) hx hb d_law_886 hl (by decide) rfl (fun ls hl => ?_)
                                  refine lv_aload_n hx hb d_law_888 rfl (lv_at hl 4 rfl) ?_
                                  obtain ⟨r_889, hc_889, hM⟩ := bd1T hM
                                  refine ca_V (As := []) (rest := []) (wr := [(qO, .inr (0, [.ref qT, .ref qR, .ref qP, .ref qL, .ref qF, .int done, .int brd, .int tup, .int tdn, .ref qOa, .int askd])), (qOa, .inl (cT 0, 149, .inl answ)), (qT, .inr (1, [.ref qTs, .int tlen, .int tpl])), (qTs, .inl (cT 2, 300, .inl tsg)), (qR, .inr (2, [.ref qRs, .int rlen, .int rsz])), (qRs, .inl (cT 2, 300, .inl rsg)), (qP, .inr (3, [.ref qPc, .ref qPl, .ref qPv, .int psz])), (qPc, .inl (cT 0, 12, .inl pcd)), (qPl, .inl (cT 0, 12, .inl pld)), (qPv, .inl (cT 1, 12, .inr (.inl pct))), (qL, .inr (4, [.ref qLj, .int lpr, .int (bI lful)])), (qLj, .inl (cT 0, 10, .inl ljn)), (qF, .inr (5, [.ref qFk, .ref qFf, .ref qFl, .int fsz])), (qFk, .inl (cT 0, 20, .inl fkd)), (qFf, .inl (cT 0, 20, .inl ffr)), (qFl, .inl (cT 0, 20, .inl fto)), (qU, .inl (cT 1, 1, .inr (.inl uout_843)))]) (w2 := [(qO, .inr (0, [.ref qT, .ref qR, .ref qP, .ref qL, .ref qF, .int done, .int brd, .int tup, .int tdn, .ref qOa, .int askd])), (qOa, .inl (cT 0, 149, .inl answ)), (qT, .inr (1, [.ref qTs, .int tlen, .int tpl])), (qTs, .inl (cT 2, 300, .inl tsg)), (qR, .inr (2, [.ref qRs, .int rlen, .int rsz])), (qRs, .inl (cT 2, 300, .inl rsg)), (qP, .inr (3, [.ref qPc, .ref qPl, .ref qPv, .int psz])), (qPc, .inl (cT 0, 12, .inl pcd)), (qPl, .inl (cT 0, 12, .inl pld)), (qPv, .inl (cT 1, 12, .inr (.inl pct))), (qL, .inr (4, [.ref qLj, .int lpr, .int (bI lful)])), (qLj, .inl (cT 0, 10, .inl ljn)), (qF, .inr (5, [.ref qFk, .ref qFf, .ref qFl, .int fsz])), (qFk, .inl (cT 0, 20, .inl fkd)), (qFf, .inl (cT 0, 20, .inl ffr)), (qFl, .inl (cT 0, 20, .inl fto)), (qM, .inr (6, [.int e_thrown_883, .ref qMtext, .int e_signs, .ref qMread, .ref qMbegins, .int e_rows, .ref qMtried, .int e_parts, .ref qMpartCode, .ref qMpartLand, .ref qMpartCents, .int e_done, .int e_barred, .ref qMjoined, .int e_pairs, .int (bI e_full), .int e_up, .int e_down, .int e_proofs, .ref qMproofKind, .ref qMproofFrom, .ref qMproofTo, .int e_asked, .ref qMtold, .ref qMlive, .ref qMany, .ref qMall])), (qMtext, .inl (cT 0, 300, .inl e_text)), (qMread, .inl (cT 0, 300, .inl e_read)), (qMbegins, .inl (cT 0, 21, .inl e_begins)), (qMtried, .inl (cT 0, 21, .inl e_tried)), (qMpartCode, .inl (cT 0, 12, .inl e_partCode)), (qMpartLand, .inl (cT 0, 12, .inl e_partLand)), (qMpartCents, .inl (cT 1, 12, .inr (.inl e_partCents))), (qMjoined, .inl (cT 3, 100, .inl e_joined)), (qMproofKind, .inl (cT 0, 20, .inl e_proofKind)), (qMproofFrom, .inl (cT 0, 20, .inl e_proofFrom)), (qMproofTo, .inl (cT 0, 20, .inl e_proofTo)), (qMtold, .inl (cT 0, 300, .inl e_told)), (qMlive, .inl (cT 3, 9, .inl e_live)), (qMany, .inl (cT 3, 9, .inl e_any)), (qMall, .inl (cT 3, 9, .inl e_all)), (qU, .inl (cT 1, 1, .inr (.inl uout_843)))]) S hE (c_Md_thrown l D cT qM qMtext qMread qMbegins qMtried qMpartCode qMpartLand qMpartCents qMjoined qMproofKind qMproofFrom qMproofTo qMtold qMlive qMany qMall e_thrown_883 e_signs e_rows e_parts e_done e_barred e_pairs e_full e_up e_down e_proofs e_asked e_text e_read e_begins e_tried e_partCode e_partLand e_partCents e_joined e_proofKind e_proofFrom e_proofTo e_told e_live e_any e_all hc_889) gw_ba35c1bc rfl rfl ⟨Nat.le_of_ble_eq_true rfl, Nat.le_of_ble_eq_true rfl⟩ (ci := 6) rfl rfl (k0 := 0) rfl rfl hl.1 rfl (Nat.le_of_ble_eq_true rfl) d_law_889 ⟨hc1, hs1⟩ hP hD hS hA [16, 17, 18, 19, 20, 21, 22, 23, 24, 25, 26, 27, 28, 29, 30, 31] [0, 1, 2, 3, 4, 5, 6, 7, 8, 9, 10, 11, 12, 13, 14, 15, 32] [0, 1, 2, 3, 4, 5, 6, 7, 8, 9, 10, 11, 12, 13, 14, 15, 17, 18, 19, 20, 21, 22, 23, 24, 25, 26, 27, 28, 29, 30, 31, 32, 16] rfl rfl (by decide) (by decide) rfl (by decide) (by decide) (fun H locs hP hD hS => ?_)
                                  refine lv_iload hx hb d_law_892 (lv_at hl 1 rfl) ?_
                                  refine lv_icmp_eq (tgt := 899) hx hb d_law_894 (by decide) (fun c_894 => ?_) (fun c_894 => ?_)
                                  · have hM := itT hM c_894
                                    refine lv_iload hx hb d_law_899 (lv_at hl 1 rfl) ?_
                                    refine lv_if_ne (tgt := 923) hx hb d_law_901 (by decide) (fun c_901 => ?_) (fun c_901 => ?_)
                                    · have hM := itF hM c_901
                                      refine lv_goto (tgt := 1014) hx hb d_law_923 (by decide) ?_
                                      refine lv_iinc (v := x4 + 5) (lv' := [(4, .int (x4 + 5)), (6, .int (bI r_883)), (5, .int r_843), (0, .ref b), (1, .ref qO), (2, .ref qM), (3, .ref qU)]) hx hb d_law_1014 hl (k := 6) rfl rfl (by decide) rfl (fun ls hl => ?_)
                                      refine lv_goto (tgt := 23) hx hb d_law_1017 (by decide) ?_
                                      refine W.widen (k := 1067 - n) (n := 10328 - 6 * n) (by omega) (by omega) ?_
                                      exact ih (by omega) (x4 + 5) done brd tup tdn askd answ tlen tpl tsg rlen rsz rsg psz pcd pld pct lpr lful ljn fsz fkd ffr fto e_thrown_883 e_signs e_rows e_parts e_done e_barred e_pairs e_full e_up e_down e_proofs e_asked e_text e_read e_begins e_tried e_partCode e_partLand e_partCents e_joined e_proofKind e_proofFrom e_proofTo e_told e_live e_any e_all uout_843 hM _ _ _ hP hD hS (lv_sub hl [3, 4, 5, 6, 0] rfl)
                                    · have hM := itT hM c_901
                                      refine lv_aload_n hx hb d_law_904 rfl (lv_at hl 5 rfl) ?_
                                      refine lv_iconst (v := 0) hx hb d_law_905 (by decide) ?_
                                      obtain ⟨hin_906, hM⟩ := ixT hM
                                      refine va_lald hx hb hK hP 32 1 rfl rfl hin_906 d_law_906 ?_
                                      refine lv_iload hx hb d_law_907 (lv_at hl 0 rfl) ?_
                                      refine lv_if_eq (tgt := 916) hx hb d_law_909 (by decide) (fun c_909 => ?_) (fun c_909 => ?_)
                                      · have hM := itT hM c_909
                                        refine lv_lconst (v := 0) hx hb d_law_916 (by decide) ?_
                                        refine W.lcmp hx hb d_law_917 ?_
                                        refine lv_if_eq (tgt := 923) hx hb d_law_918 (by decide) (fun c_918 => ?_) (fun c_918 => ?_)
                                        · have hM := itT hM c_918
                                          refine lv_goto (tgt := 1014) hx hb d_law_923 (by decide) ?_
                                          refine lv_iinc (v := x4 + 5) (lv' := [(4, .int (x4 + 5)), (6, .int (bI r_883)), (5, .int r_843), (0, .ref b), (1, .ref qO), (2, .ref qM), (3, .ref qU)]) hx hb d_law_1014 hl (k := 6) rfl rfl (by decide) rfl (fun ls hl => ?_)
                                          refine lv_goto (tgt := 23) hx hb d_law_1017 (by decide) ?_
                                          refine W.widen (k := 1067 - n) (n := 10328 - 6 * n) (by omega) (by omega) ?_
                                          exact ih (by omega) (x4 + 5) done brd tup tdn askd answ tlen tpl tsg rlen rsz rsg psz pcd pld pct lpr lful ljn fsz fkd ffr fto e_thrown_883 e_signs e_rows e_parts e_done e_barred e_pairs e_full e_up e_down e_proofs e_asked e_text e_read e_begins e_tried e_partCode e_partLand e_partCents e_joined e_proofKind e_proofFrom e_proofTo e_told e_live e_any e_all uout_843 hM _ _ _ hP hD hS (lv_sub hl [3, 4, 5, 6, 0] rfl)
                                        · have hM := itF hM c_918
                                          refine lv_iconst (v := 0) hx hb d_law_921 (by decide) ?_
                                          exact absurd hM (by simp)
                                      · have hM := itF hM c_909
                                        refine lv_lconst (v := 1) hx hb d_law_912 (by decide) ?_
                                        refine lv_goto (tgt := 917) hx hb d_law_913 (by decide) ?_
                                        refine W.lcmp hx hb d_law_917 ?_
                                        refine lv_if_eq (tgt := 923) hx hb d_law_918 (by decide) (fun c_918 => ?_) (fun c_918 => ?_)
                                        · have hM := itT hM c_918
                                          refine lv_goto (tgt := 1014) hx hb d_law_923 (by decide) ?_
                                          refine lv_iinc (v := x4 + 5) (lv' := [(4, .int (x4 + 5)), (6, .int (bI r_883)), (5, .int r_843), (0, .ref b), (1, .ref qO), (2, .ref qM), (3, .ref qU)]) hx hb d_law_1014 hl (k := 6) rfl rfl (by decide) rfl (fun ls hl => ?_)
                                          refine lv_goto (tgt := 23) hx hb d_law_1017 (by decide) ?_
                                          refine W.widen (k := 1067 - n) (n := 10328 - 6 * n) (by omega) (by omega) ?_
                                          exact ih (by omega) (x4 + 5) done brd tup tdn askd answ tlen tpl tsg rlen rsz rsg psz pcd pld pct lpr lful ljn fsz fkd ffr fto e_thrown_883 e_signs e_rows e_parts e_done e_barred e_pairs e_full e_up e_down e_proofs e_asked e_text e_read e_begins e_tried e_partCode e_partLand e_partCents e_joined e_proofKind e_proofFrom e_proofTo e_told e_live e_any e_all uout_843 hM _ _ _ hP hD hS (lv_sub hl [3, 4, 5, 6, 0] rfl)
                                        · have hM := itF hM c_918
                                          refine lv_iconst (v := 0) hx hb d_law_921 (by decide) ?_
                                          exact absurd hM (by simp)
                                  · have hM := itF hM c_894
                                    refine lv_iconst (v := 0) hx hb d_law_897 (by decide) ?_
                                    exact absurd hM (by simp)
                                · have hM := itF hM c_39_13
                                  by_cases c_39_14 : ((xs x4.toNatClampNeg) &&& 15) = 14
                                  · have hM := itT hM c_39_14
                                    refine lv_tableIn (tgt := 926) hx hb d_law_39 (by rw [c_39_14]; decide) (by rw [c_39_14]; decide) (by rw [c_39_14]; rfl) (by decide) ?_
                                    refine lv_aload_n hx hb d_law_926 rfl (lv_at hl 1 rfl) ?_
                                    refine lv_aload_n hx hb d_law_927 rfl (lv_at hl 0 rfl) ?_
                                    refine lv_iload hx hb d_law_928 (lv_at hl 4 rfl) ?_
                                    refine lv_iconst (v := 1) hx hb d_law_930 (by decide) ?_
                                    refine lv_iadd hx hb d_law_931 ?_
                                    obtain ⟨hin_932, hM⟩ := ixT hM
                                    refine va_sld hx hb hX hbl hbA hS hin_932 d_law_932 ?_
                                    refine lv_aload_n hx hb d_law_933 rfl (lv_at hl 3 rfl) ?_
                                    obtain ⟨r_934, uout_934, hc_934, hM⟩ := bd2T hM
                                    refine cl_H (As := [.ref qO, .int (xs (x4 + 1).toNatClampNeg), .ref qU]) (rest := []) (wr := [(qM, .inr (6, [.int e_thrown, .ref qMtext, .int e_signs, .ref qMread, .ref qMbegins, .int e_rows, .ref qMtried, .int e_parts, .ref qMpartCode, .ref qMpartLand, .ref qMpartCents, .int e_done, .int e_barred, .ref qMjoined, .int e_pairs, .int (bI e_full), .int e_up, .int e_down, .int e_proofs, .ref qMproofKind, .ref qMproofFrom, .ref qMproofTo, .int e_asked, .ref qMtold, .ref qMlive, .ref qMany, .ref qMall])), (qMtext, .inl (cT 0, 300, .inl e_text)), (qMread, .inl (cT 0, 300, .inl e_read)), (qMbegins, .inl (cT 0, 21, .inl e_begins)), (qMtried, .inl (cT 0, 21, .inl e_tried)), (qMpartCode, .inl (cT 0, 12, .inl e_partCode)), (qMpartLand, .inl (cT 0, 12, .inl e_partLand)), (qMpartCents, .inl (cT 1, 12, .inr (.inl e_partCents))), (qMjoined, .inl (cT 3, 100, .inl e_joined)), (qMproofKind, .inl (cT 0, 20, .inl e_proofKind)), (qMproofFrom, .inl (cT 0, 20, .inl e_proofFrom)), (qMproofTo, .inl (cT 0, 20, .inl e_proofTo)), (qMtold, .inl (cT 0, 300, .inl e_told)), (qMlive, .inl (cT 3, 9, .inl e_live)), (qMany, .inl (cT 3, 9, .inl e_any)), (qMall, .inl (cT 3, 9, .inl e_all))]) (w2 := [(qO, .inr (0, [.ref qT, .ref qR, .ref qP, .ref qL, .ref qF, .int done, .int brd, .int tup, .int tdn, .ref qOa, .int askd])), (qOa, .inl (cT 0, 149, .inl answ)), (qT, .inr (1, [.ref qTs, .int tlen, .int tpl])), (qTs, .inl (cT 2, 300, .inl tsg)), (qR, .inr (2, [.ref qRs, .int rlen, .int rsz])), (qRs, .inl (cT 2, 300, .inl rsg)), (qP, .inr (3, [.ref qPc, .ref qPl, .ref qPv, .int psz])), (qPc, .inl (cT 0, 12, .inl pcd)), (qPl, .inl (cT 0, 12, .inl pld)), (qPv, .inl (cT 1, 12, .inr (.inl pct))), (qL, .inr (4, [.ref qLj, .int lpr, .int (bI lful)])), (qLj, .inl (cT 0, 10, .inl ljn)), (qF, .inr (5, [.ref qFk, .ref qFf, .ref qFl, .int fsz])), (qFk, .inl (cT 0, 20, .inl fkd)), (qFf, .inl (cT 0, 20, .inl ffr)), (qFl, .inl (cT 0, 20, .inl fto)), (qM, .inr (6, [.int e_thrown, .ref qMtext, .int e_signs, .ref qMread, .ref qMbegins, .int e_rows, .ref qMtried, .int e_parts, .ref qMpartCode, .ref qMpartLand, .ref qMpartCents, .int e_done, .int e_barred, .ref qMjoined, .int e_pairs, .int (bI e_full), .int e_up, .int e_down, .int e_proofs, .ref qMproofKind, .ref qMproofFrom, .ref qMproofTo, .int e_asked, .ref qMtold, .ref qMlive, .ref qMany, .ref qMall])), (qMtext, .inl (cT 0, 300, .inl e_text)), (qMread, .inl (cT 0, 300, .inl e_read)), (qMbegins, .inl (cT 0, 21, .inl e_begins)), (qMtried, .inl (cT 0, 21, .inl e_tried)), (qMpartCode, .inl (cT 0, 12, .inl e_partCode)), (qMpartLand, .inl (cT 0, 12, .inl e_partLand)), (qMpartCents, .inl (cT 1, 12, .inr (.inl e_partCents))), (qMjoined, .inl (cT 3, 100, .inl e_joined)), (qMproofKind, .inl (cT 0, 20, .inl e_proofKind)), (qMproofFrom, .inl (cT 0, 20, .inl e_proofFrom)), (qMproofTo, .inl (cT 0, 20, .inl e_proofTo)), (qMtold, .inl (cT 0, 300, .inl e_told)), (qMlive, .inl (cT 3, 9, .inl e_live)), (qMany, .inl (cT 3, 9, .inl e_any)), (qMall, .inl (cT 3, 9, .inl e_all)), (qU, .inl (cT 1, 1, .inr (.inl uout_934)))]) S hE hTE hNc (c_Law_own l hl0 D cT qO qOa qT qTs qR qRs qP qPc qPl qPv qL qLj qF qFk qFf qFl qU done brd tup tdn askd answ tlen tpl tsg rlen rsz rsg psz pcd pld pct lpr lful ljn fsz fkd ffr fto uout (xs (x4 + 1).toNatClampNeg) hc_934) gw_8490ddbf rfl rfl ⟨Nat.le_of_ble_eq_true rfl, Nat.le_of_ble_eq_true rfl⟩ rfl hl.1 rfl (Nat.le_of_ble_eq_true rfl) d_law_934 ⟨hc1, hs1⟩ hP hD hS hA [0, 1, 2, 3, 4, 5, 6, 7, 8, 9, 10, 11, 12, 13, 14, 15, 32] [16, 17, 18, 19, 20, 21, 22, 23, 24, 25, 26, 27, 28, 29, 30, 31] [16, 17, 18, 19, 20, 21, 22, 23, 24, 25, 26, 27, 28, 29, 30, 31, 0, 1, 2, 3, 4, 5, 6, 7, 8, 9, 10, 11, 12, 13, 14, 15, 32] rfl rfl (by decide) (by decide) rfl (by decide) (by decide) (fun H locs hP hD hS => ?_)
                                    refine lv_istore (lv' := [(5, .int r_934), (0, .ref b), (1, .ref qO), (2, .ref qM), (3, .ref qU), (4, .int x4)]) hx hb d_law_937 hl (by decide) rfl (fun ls hl => ?_)
                                    refine lv_aload_n hx hb d_law_939 rfl (lv_at hl 3 rfl) ?_
                                    refine lv_aload_n hx hb d_law_940 rfl (lv_at hl 1 rfl) ?_
                                    refine lv_iload hx hb d_law_941 (lv_at hl 5 rfl) ?_
                                    refine lv_iconst (v := 1) hx hb d_law_943 (by decide) ?_
                                    refine lv_iadd hx hb d_law_944 ?_
                                    obtain ⟨hin_945, hM⟩ := ixT hM
                                    refine va_sld hx hb hX hbl hbA hS hin_945 d_law_945 ?_
                                    obtain ⟨r_946, e_thrown_946, hc_946, hM⟩ := bd2T hM
                                    refine ca_V (As := [.int (xs (x4 + 1).toNatClampNeg)]) (rest := []) (wr := [(qO, .inr (0, [.ref qT, .ref qR, .ref qP, .ref qL, .ref qF, .int done, .int brd, .int tup, .int tdn, .ref qOa, .int askd])), (qOa, .inl (cT 0, 149, .inl answ)), (qT, .inr (1, [.ref qTs, .int tlen, .int tpl])), (qTs, .inl (cT 2, 300, .inl tsg)), (qR, .inr (2, [.ref qRs, .int rlen, .int rsz])), (qRs, .inl (cT 2, 300, .inl rsg)), (qP, .inr (3, [.ref qPc, .ref qPl, .ref qPv, .int psz])), (qPc, .inl (cT 0, 12, .inl pcd)), (qPl, .inl (cT 0, 12, .inl pld)), (qPv, .inl (cT 1, 12, .inr (.inl pct))), (qL, .inr (4, [.ref qLj, .int lpr, .int (bI lful)])), (qLj, .inl (cT 0, 10, .inl ljn)), (qF, .inr (5, [.ref qFk, .ref qFf, .ref qFl, .int fsz])), (qFk, .inl (cT 0, 20, .inl fkd)), (qFf, .inl (cT 0, 20, .inl ffr)), (qFl, .inl (cT 0, 20, .inl fto)), (qU, .inl (cT 1, 1, .inr (.inl uout_934)))]) (w2 := [(qO, .inr (0, [.ref qT, .ref qR, .ref qP, .ref qL, .ref qF, .int done, .int brd, .int tup, .int tdn, .ref qOa, .int askd])), (qOa, .inl (cT 0, 149, .inl answ)), (qT, .inr (1, [.ref qTs, .int tlen, .int tpl])), (qTs, .inl (cT 2, 300, .inl tsg)), (qR, .inr (2, [.ref qRs, .int rlen, .int rsz])), (qRs, .inl (cT 2, 300, .inl rsg)), (qP, .inr (3, [.ref qPc, .ref qPl, .ref qPv, .int psz])), (qPc, .inl (cT 0, 12, .inl pcd)), (qPl, .inl (cT 0, 12, .inl pld)), (qPv, .inl (cT 1, 12, .inr (.inl pct))), (qL, .inr (4, [.ref qLj, .int lpr, .int (bI lful)])), (qLj, .inl (cT 0, 10, .inl ljn)), (qF, .inr (5, [.ref qFk, .ref qFf, .ref qFl, .int fsz])), (qFk, .inl (cT 0, 20, .inl fkd)), (qFf, .inl (cT 0, 20, .inl ffr)), (qFl, .inl (cT 0, 20, .inl fto)), (qM, .inr (6, [.int e_thrown_946, .ref qMtext, .int e_signs, .ref qMread, .ref qMbegins, .int e_rows, .ref qMtried, .int e_parts, .ref qMpartCode, .ref qMpartLand, .ref qMpartCents, .int e_done, .int e_barred, .ref qMjoined, .int e_pairs, .int (bI e_full), .int e_up, .int e_down, .int e_proofs, .ref qMproofKind, .ref qMproofFrom, .ref qMproofTo, .int e_asked, .ref qMtold, .ref qMlive, .ref qMany, .ref qMall])), (qMtext, .inl (cT 0, 300, .inl e_text)), (qMread, .inl (cT 0, 300, .inl e_read)), (qMbegins, .inl (cT 0, 21, .inl e_begins)), (qMtried, .inl (cT 0, 21, .inl e_tried)), (qMpartCode, .inl (cT 0, 12, .inl e_partCode)), (qMpartLand, .inl (cT 0, 12, .inl e_partLand)), (qMpartCents, .inl (cT 1, 12, .inr (.inl e_partCents))), (qMjoined, .inl (cT 3, 100, .inl e_joined)), (qMproofKind, .inl (cT 0, 20, .inl e_proofKind)), (qMproofFrom, .inl (cT 0, 20, .inl e_proofFrom)), (qMproofTo, .inl (cT 0, 20, .inl e_proofTo)), (qMtold, .inl (cT 0, 300, .inl e_told)), (qMlive, .inl (cT 3, 9, .inl e_live)), (qMany, .inl (cT 3, 9, .inl e_any)), (qMall, .inl (cT 3, 9, .inl e_all)), (qU, .inl (cT 1, 1, .inr (.inl uout_934)))]) S hE (c_Md_own l D cT qM qMtext qMread qMbegins qMtried qMpartCode qMpartLand qMpartCents qMjoined qMproofKind qMproofFrom qMproofTo qMtold qMlive qMany qMall e_thrown e_signs e_rows e_parts e_done e_barred e_pairs e_full e_up e_down e_proofs e_asked e_text e_read e_begins e_tried e_partCode e_partLand e_partCents e_joined e_proofKind e_proofFrom e_proofTo e_told e_live e_any e_all (xs (x4 + 1).toNatClampNeg) hc_946) gw_ab3105fb rfl rfl ⟨Nat.le_of_ble_eq_true rfl, Nat.le_of_ble_eq_true rfl⟩ (ci := 6) rfl rfl (k0 := 0) rfl rfl hl.1 rfl (Nat.le_of_ble_eq_true rfl) d_law_946 ⟨hc1, hs1⟩ hP hD hS hA [16, 17, 18, 19, 20, 21, 22, 23, 24, 25, 26, 27, 28, 29, 30, 31] [0, 1, 2, 3, 4, 5, 6, 7, 8, 9, 10, 11, 12, 13, 14, 15, 32] [0, 1, 2, 3, 4, 5, 6, 7, 8, 9, 10, 11, 12, 13, 14, 15, 17, 18, 19, 20, 21, 22, 23, 24, 25, 26, 27, 28, 29, 30, 31, 32, 16] rfl rfl (by decide) (by decide) rfl (by decide) (by decide) (fun H locs hP hD hS => ?_)
                                    refine lv_istore (lv' := [(6, .int (bI r_946)), (5, .int r_934), (0, .ref b), (1, .ref qO), (2, .ref qM), (3, .ref qU), (4, .int x4)]) hx hb d_law_949 hl (by decide) rfl (fun ls hl => ?_)
                                    refine lv_aload_n hx hb d_law_951 rfl (lv_at hl 4 rfl) ?_
                                    obtain ⟨r_952, hc_952, hM⟩ := bd1T hM
                                    refine ca_V (As := []) (rest := []) (wr := [(qO, .inr (0, [.ref qT, .ref qR, .ref qP, .ref qL, .ref qF, .int done, .int brd, .int tup, .int tdn, .ref qOa, .int askd])), (qOa, .inl (cT 0, 149, .inl answ)), (qT, .inr (1, [.ref qTs, .int tlen, .int tpl])), (qTs, .inl (cT 2, 300, .inl tsg)), (qR, .inr (2, [.ref qRs, .int rlen, .int rsz])), (qRs, .inl (cT 2, 300, .inl rsg)), (qP, .inr (3, [.ref qPc, .ref qPl, .ref qPv, .int psz])), (qPc, .inl (cT 0, 12, .inl pcd)), (qPl, .inl (cT 0, 12, .inl pld)), (qPv, .inl (cT 1, 12, .inr (.inl pct))), (qL, .inr (4, [.ref qLj, .int lpr, .int (bI lful)])), (qLj, .inl (cT 0, 10, .inl ljn)), (qF, .inr (5, [.ref qFk, .ref qFf, .ref qFl, .int fsz])), (qFk, .inl (cT 0, 20, .inl fkd)), (qFf, .inl (cT 0, 20, .inl ffr)), (qFl, .inl (cT 0, 20, .inl fto)), (qU, .inl (cT 1, 1, .inr (.inl uout_934)))]) (w2 := [(qO, .inr (0, [.ref qT, .ref qR, .ref qP, .ref qL, .ref qF, .int done, .int brd, .int tup, .int tdn, .ref qOa, .int askd])), (qOa, .inl (cT 0, 149, .inl answ)), (qT, .inr (1, [.ref qTs, .int tlen, .int tpl])), (qTs, .inl (cT 2, 300, .inl tsg)), (qR, .inr (2, [.ref qRs, .int rlen, .int rsz])), (qRs, .inl (cT 2, 300, .inl rsg)), (qP, .inr (3, [.ref qPc, .ref qPl, .ref qPv, .int psz])), (qPc, .inl (cT 0, 12, .inl pcd)), (qPl, .inl (cT 0, 12, .inl pld)), (qPv, .inl (cT 1, 12, .inr (.inl pct))), (qL, .inr (4, [.ref qLj, .int lpr, .int (bI lful)])), (qLj, .inl (cT 0, 10, .inl ljn)), (qF, .inr (5, [.ref qFk, .ref qFf, .ref qFl, .int fsz])), (qFk, .inl (cT 0, 20, .inl fkd)), (qFf, .inl (cT 0, 20, .inl ffr)), (qFl, .inl (cT 0, 20, .inl fto)), (qM, .inr (6, [.int e_thrown_946, .ref qMtext, .int e_signs, .ref qMread, .ref qMbegins, .int e_rows, .ref qMtried, .int e_parts, .ref qMpartCode, .ref qMpartLand, .ref qMpartCents, .int e_done, .int e_barred, .ref qMjoined, .int e_pairs, .int (bI e_full), .int e_up, .int e_down, .int e_proofs, .ref qMproofKind, .ref qMproofFrom, .ref qMproofTo, .int e_asked, .ref qMtold, .ref qMlive, .ref qMany, .ref qMall])), (qMtext, .inl (cT 0, 300, .inl e_text)), (qMread, .inl (cT 0, 300, .inl e_read)), (qMbegins, .inl (cT 0, 21, .inl e_begins)), (qMtried, .inl (cT 0, 21, .inl e_tried)), (qMpartCode, .inl (cT 0, 12, .inl e_partCode)), (qMpartLand, .inl (cT 0, 12, .inl e_partLand)), (qMpartCents, .inl (cT 1, 12, .inr (.inl e_partCents))), (qMjoined, .inl (cT 3, 100, .inl e_joined)), (qMproofKind, .inl (cT 0, 20, .inl e_proofKind)), (qMproofFrom, .inl (cT 0, 20, .inl e_proofFrom)), (qMproofTo, .inl (cT 0, 20, .inl e_proofTo)), (qMtold, .inl (cT 0, 300, .inl e_told)), (qMlive, .inl (cT 3, 9, .inl e_live)), (qMany, .inl (cT 3, 9, .inl e_any)), (qMall, .inl (cT 3, 9, .inl e_all)), (qU, .inl (cT 1, 1, .inr (.inl uout_934)))]) S hE (c_Md_thrown l D cT qM qMtext qMread qMbegins qMtried qMpartCode qMpartLand qMpartCents qMjoined qMproofKind qMproofFrom qMproofTo qMtold qMlive qMany qMall e_thrown_946 e_signs e_rows e_parts e_done e_barred e_pairs e_full e_up e_down e_proofs e_asked e_text e_read e_begins e_tried e_partCode e_partLand e_partCents e_joined e_proofKind e_proofFrom e_proofTo e_told e_live e_any e_all hc_952) gw_ba35c1bc rfl rfl ⟨Nat.le_of_ble_eq_true rfl, Nat.le_of_ble_eq_true rfl⟩ (ci := 6) rfl rfl (k0 := 0) rfl rfl hl.1 rfl (Nat.le_of_ble_eq_true rfl) d_law_952 ⟨hc1, hs1⟩ hP hD hS hA [16, 17, 18, 19, 20, 21, 22, 23, 24, 25, 26, 27, 28, 29, 30, 31] [0, 1, 2, 3, 4, 5, 6, 7, 8, 9, 10, 11, 12, 13, 14, 15, 32] [0, 1, 2, 3, 4, 5, 6, 7, 8, 9, 10, 11, 12, 13, 14, 15, 17, 18, 19, 20, 21, 22, 23, 24, 25, 26, 27, 28, 29, 30, 31, 32, 16] rfl rfl (by decide) (by decide) rfl (by decide) (by decide) (fun H locs hP hD hS => ?_)
                                    refine lv_iload hx hb d_law_955 (lv_at hl 1 rfl) ?_
                                    refine lv_icmp_eq (tgt := 962) hx hb d_law_957 (by decide) (fun c_957 => ?_) (fun c_957 => ?_)
                                    · have hM := itT hM c_957
                                      refine lv_iload hx hb d_law_962 (lv_at hl 1 rfl) ?_
                                      refine lv_if_ne (tgt := 986) hx hb d_law_964 (by decide) (fun c_964 => ?_) (fun c_964 => ?_)
                                      · have hM := itF hM c_964
                                        refine lv_goto (tgt := 1014) hx hb d_law_986 (by decide) ?_
                                        refine lv_iinc (v := x4 + 5) (lv' := [(4, .int (x4 + 5)), (6, .int (bI r_946)), (5, .int r_934), (0, .ref b), (1, .ref qO), (2, .ref qM), (3, .ref qU)]) hx hb d_law_1014 hl (k := 6) rfl rfl (by decide) rfl (fun ls hl => ?_)
                                        refine lv_goto (tgt := 23) hx hb d_law_1017 (by decide) ?_
                                        refine W.widen (k := 1067 - n) (n := 10328 - 6 * n) (by omega) (by omega) ?_
                                        exact ih (by omega) (x4 + 5) done brd tup tdn askd answ tlen tpl tsg rlen rsz rsg psz pcd pld pct lpr lful ljn fsz fkd ffr fto e_thrown_946 e_signs e_rows e_parts e_done e_barred e_pairs e_full e_up e_down e_proofs e_asked e_text e_read e_begins e_tried e_partCode e_partLand e_partCents e_joined e_proofKind e_proofFrom e_proofTo e_told e_live e_any e_all uout_934 hM _ _ _ hP hD hS (lv_sub hl [3, 4, 5, 6, 0] rfl)
                                      · have hM := itT hM c_964
                                        refine lv_aload_n hx hb d_law_967 rfl (lv_at hl 5 rfl) ?_
                                        refine lv_iconst (v := 0) hx hb d_law_968 (by decide) ?_
                                        obtain ⟨hin_969, hM⟩ := ixT hM
                                        refine va_lald hx hb hK hP 32 1 rfl rfl hin_969 d_law_969 ?_
                                        refine lv_iload hx hb d_law_970 (lv_at hl 0 rfl) ?_
                                        refine lv_if_eq (tgt := 979) hx hb d_law_972 (by decide) (fun c_972 => ?_) (fun c_972 => ?_)
                                        · have hM := itT hM c_972
                                          refine lv_lconst (v := 0) hx hb d_law_979 (by decide) ?_
                                          refine W.lcmp hx hb d_law_980 ?_
                                          refine lv_if_eq (tgt := 986) hx hb d_law_981 (by decide) (fun c_981 => ?_) (fun c_981 => ?_)
                                          · have hM := itT hM c_981
                                            refine lv_goto (tgt := 1014) hx hb d_law_986 (by decide) ?_
                                            refine lv_iinc (v := x4 + 5) (lv' := [(4, .int (x4 + 5)), (6, .int (bI r_946)), (5, .int r_934), (0, .ref b), (1, .ref qO), (2, .ref qM), (3, .ref qU)]) hx hb d_law_1014 hl (k := 6) rfl rfl (by decide) rfl (fun ls hl => ?_)
                                            refine lv_goto (tgt := 23) hx hb d_law_1017 (by decide) ?_
                                            refine W.widen (k := 1067 - n) (n := 10328 - 6 * n) (by omega) (by omega) ?_
                                            exact ih (by omega) (x4 + 5) done brd tup tdn askd answ tlen tpl tsg rlen rsz rsg psz pcd pld pct lpr lful ljn fsz fkd ffr fto e_thrown_946 e_signs e_rows e_parts e_done e_barred e_pairs e_full e_up e_down e_proofs e_asked e_text e_read e_begins e_tried e_partCode e_partLand e_partCents e_joined e_proofKind e_proofFrom e_proofTo e_told e_live e_any e_all uout_934 hM _ _ _ hP hD hS (lv_sub hl [3, 4, 5, 6, 0] rfl)
                                          · have hM := itF hM c_981
                                            refine lv_iconst (v := 0) hx hb d_law_984 (by decide) ?_
                                            exact absurd hM (by simp)
                                        · have hM := itF hM c_972
                                          refine lv_lconst (v := 1) hx hb d_law_975 (by decide) ?_
                                          refine lv_goto (tgt := 980) hx hb d_law_976 (by decide) ?_
                                          refine W.lcmp hx hb d_law_980 ?_
                                          refine lv_if_eq (tgt := 986) hx hb d_law_981 (by decide) (fun c_981 => ?_) (fun c_981 => ?_)
                                          · have hM := itT hM c_981
                                            refine lv_goto (tgt := 1014) hx hb d_law_986 (by decide) ?_
                                            refine lv_iinc (v := x4 + 5) (lv' := [(4, .int (x4 + 5)), (6, .int (bI r_946)), (5, .int r_934), (0, .ref b), (1, .ref qO), (2, .ref qM), (3, .ref qU)]) hx hb d_law_1014 hl (k := 6) rfl rfl (by decide) rfl (fun ls hl => ?_)
                                            refine lv_goto (tgt := 23) hx hb d_law_1017 (by decide) ?_
                                            refine W.widen (k := 1067 - n) (n := 10328 - 6 * n) (by omega) (by omega) ?_
                                            exact ih (by omega) (x4 + 5) done brd tup tdn askd answ tlen tpl tsg rlen rsz rsg psz pcd pld pct lpr lful ljn fsz fkd ffr fto e_thrown_946 e_signs e_rows e_parts e_done e_barred e_pairs e_full e_up e_down e_proofs e_asked e_text e_read e_begins e_tried e_partCode e_partLand e_partCents e_joined e_proofKind e_proofFrom e_proofTo e_told e_live e_any e_all uout_934 hM _ _ _ hP hD hS (lv_sub hl [3, 4, 5, 6, 0] rfl)
                                          · have hM := itF hM c_981
                                            refine lv_iconst (v := 0) hx hb d_law_984 (by decide) ?_
                                            exact absurd hM (by simp)
                                    · have hM := itF hM c_957
                                      refine lv_iconst (v := 0) hx hb d_law_960 (by decide) ?_
                                      exact absurd hM (by simp)
                                  · have hM := itF hM c_39_14
                                    by_cases c_39_15 : ((xs x4.toNatClampNeg) &&& 15) = 15
                                    · have hM := itT hM c_39_15
                                      refine lv_tableIn (tgt := 989) hx hb d_law_39 (by rw [c_39_15]; decide) (by rw [c_39_15]; decide) (by rw [c_39_15]; rfl) (by decide) ?_
                                      refine lv_aload_n hx hb d_law_989 rfl (lv_at hl 1 rfl) ?_
                                      refine lv_aload_n hx hb d_law_990 rfl (lv_at hl 0 rfl) ?_
                                      refine lv_iload hx hb d_law_991 (lv_at hl 4 rfl) ?_
                                      refine lv_iconst (v := 1) hx hb d_law_993 (by decide) ?_
                                      refine lv_iadd hx hb d_law_994 ?_
                                      obtain ⟨hin_995, hM⟩ := ixT hM
                                      refine va_sld hx hb hX hbl hbA hS hin_995 d_law_995 ?_
                                      obtain ⟨r_996, hc_996, hM⟩ := bd1T hM
                                      refine ca_V (As := [.int (xs (x4 + 1).toNatClampNeg)]) (rest := []) (wr := [(qM, .inr (6, [.int e_thrown, .ref qMtext, .int e_signs, .ref qMread, .ref qMbegins, .int e_rows, .ref qMtried, .int e_parts, .ref qMpartCode, .ref qMpartLand, .ref qMpartCents, .int e_done, .int e_barred, .ref qMjoined, .int e_pairs, .int (bI e_full), .int e_up, .int e_down, .int e_proofs, .ref qMproofKind, .ref qMproofFrom, .ref qMproofTo, .int e_asked, .ref qMtold, .ref qMlive, .ref qMany, .ref qMall])), (qMtext, .inl (cT 0, 300, .inl e_text)), (qMread, .inl (cT 0, 300, .inl e_read)), (qMbegins, .inl (cT 0, 21, .inl e_begins)), (qMtried, .inl (cT 0, 21, .inl e_tried)), (qMpartCode, .inl (cT 0, 12, .inl e_partCode)), (qMpartLand, .inl (cT 0, 12, .inl e_partLand)), (qMpartCents, .inl (cT 1, 12, .inr (.inl e_partCents))), (qMjoined, .inl (cT 3, 100, .inl e_joined)), (qMproofKind, .inl (cT 0, 20, .inl e_proofKind)), (qMproofFrom, .inl (cT 0, 20, .inl e_proofFrom)), (qMproofTo, .inl (cT 0, 20, .inl e_proofTo)), (qMtold, .inl (cT 0, 300, .inl e_told)), (qMlive, .inl (cT 3, 9, .inl e_live)), (qMany, .inl (cT 3, 9, .inl e_any)), (qMall, .inl (cT 3, 9, .inl e_all)), (qU, .inl (cT 1, 1, .inr (.inl uout)))]) (w2 := [(qO, .inr (0, [.ref qT, .ref qR, .ref qP, .ref qL, .ref qF, .int done, .int brd, .int tup, .int tdn, .ref qOa, .int askd])), (qOa, .inl (cT 0, 149, .inl answ)), (qT, .inr (1, [.ref qTs, .int tlen, .int tpl])), (qTs, .inl (cT 2, 300, .inl tsg)), (qR, .inr (2, [.ref qRs, .int rlen, .int rsz])), (qRs, .inl (cT 2, 300, .inl rsg)), (qP, .inr (3, [.ref qPc, .ref qPl, .ref qPv, .int psz])), (qPc, .inl (cT 0, 12, .inl pcd)), (qPl, .inl (cT 0, 12, .inl pld)), (qPv, .inl (cT 1, 12, .inr (.inl pct))), (qL, .inr (4, [.ref qLj, .int lpr, .int (bI lful)])), (qLj, .inl (cT 0, 10, .inl ljn)), (qF, .inr (5, [.ref qFk, .ref qFf, .ref qFl, .int fsz])), (qFk, .inl (cT 0, 20, .inl fkd)), (qFf, .inl (cT 0, 20, .inl ffr)), (qFl, .inl (cT 0, 20, .inl fto)), (qM, .inr (6, [.int e_thrown, .ref qMtext, .int e_signs, .ref qMread, .ref qMbegins, .int e_rows, .ref qMtried, .int e_parts, .ref qMpartCode, .ref qMpartLand, .ref qMpartCents, .int e_done, .int e_barred, .ref qMjoined, .int e_pairs, .int (bI e_full), .int e_up, .int e_down, .int e_proofs, .ref qMproofKind, .ref qMproofFrom, .ref qMproofTo, .int e_asked, .ref qMtold, .ref qMlive, .ref qMany, .ref qMall])), (qMtext, .inl (cT 0, 300, .inl e_text)), (qMread, .inl (cT 0, 300, .inl e_read)), (qMbegins, .inl (cT 0, 21, .inl e_begins)), (qMtried, .inl (cT 0, 21, .inl e_tried)), (qMpartCode, .inl (cT 0, 12, .inl e_partCode)), (qMpartLand, .inl (cT 0, 12, .inl e_partLand)), (qMpartCents, .inl (cT 1, 12, .inr (.inl e_partCents))), (qMjoined, .inl (cT 3, 100, .inl e_joined)), (qMproofKind, .inl (cT 0, 20, .inl e_proofKind)), (qMproofFrom, .inl (cT 0, 20, .inl e_proofFrom)), (qMproofTo, .inl (cT 0, 20, .inl e_proofTo)), (qMtold, .inl (cT 0, 300, .inl e_told)), (qMlive, .inl (cT 3, 9, .inl e_live)), (qMany, .inl (cT 3, 9, .inl e_any)), (qMall, .inl (cT 3, 9, .inl e_all)), (qU, .inl (cT 1, 1, .inr (.inl uout)))]) S hE (c_Or_count l D cT qO qOa qT qTs qR qRs qP qPc qPl qPv qL qLj qF qFk qFf qFl done brd tup tdn askd answ tlen tpl tsg rlen rsz rsg psz pcd pld pct lpr lful ljn fsz fkd ffr fto (xs (x4 + 1).toNatClampNeg) hc_996) gw_5e3c88f9 rfl rfl ⟨Nat.le_of_ble_eq_true rfl, Nat.le_of_ble_eq_true rfl⟩ (ci := 0) rfl rfl (k0 := 0) rfl rfl hl.1 rfl (Nat.le_of_ble_eq_true rfl) d_law_996 ⟨hc0, hs0⟩ hP hD hS hA [0, 1, 2, 3, 4, 5, 6, 7, 8, 9, 10, 11, 12, 13, 14, 15] [16, 17, 18, 19, 20, 21, 22, 23, 24, 25, 26, 27, 28, 29, 30, 31, 32] [17, 18, 19, 20, 21, 22, 23, 24, 25, 26, 27, 28, 29, 30, 31, 32, 0, 1, 2, 3, 4, 5, 6, 7, 8, 9, 10, 11, 12, 13, 14, 15, 16] rfl rfl (by decide) (by decide) rfl (by decide) (by decide) (fun H locs hP hD hS => ?_)
                                      refine lv_aload_n hx hb d_law_999 rfl (lv_at hl 2 rfl) ?_
                                      refine lv_aload_n hx hb d_law_1000 rfl (lv_at hl 0 rfl) ?_
                                      refine lv_iload hx hb d_law_1001 (lv_at hl 4 rfl) ?_
                                      refine lv_iconst (v := 1) hx hb d_law_1003 (by decide) ?_
                                      refine lv_iadd hx hb d_law_1004 ?_
                                      obtain ⟨hin_1005, hM⟩ := ixT hM
                                      refine va_sld hx hb hX hbl hbA hS hin_1005 d_law_1005 ?_
                                      obtain ⟨r_1006, e_thrown_1006, hc_1006, hM⟩ := bd2T hM
                                      refine ca_V (As := [.int (xs (x4 + 1).toNatClampNeg)]) (rest := [.int r_996]) (wr := [(qO, .inr (0, [.ref qT, .ref qR, .ref qP, .ref qL, .ref qF, .int done, .int brd, .int tup, .int tdn, .ref qOa, .int askd])), (qOa, .inl (cT 0, 149, .inl answ)), (qT, .inr (1, [.ref qTs, .int tlen, .int tpl])), (qTs, .inl (cT 2, 300, .inl tsg)), (qR, .inr (2, [.ref qRs, .int rlen, .int rsz])), (qRs, .inl (cT 2, 300, .inl rsg)), (qP, .inr (3, [.ref qPc, .ref qPl, .ref qPv, .int psz])), (qPc, .inl (cT 0, 12, .inl pcd)), (qPl, .inl (cT 0, 12, .inl pld)), (qPv, .inl (cT 1, 12, .inr (.inl pct))), (qL, .inr (4, [.ref qLj, .int lpr, .int (bI lful)])), (qLj, .inl (cT 0, 10, .inl ljn)), (qF, .inr (5, [.ref qFk, .ref qFf, .ref qFl, .int fsz])), (qFk, .inl (cT 0, 20, .inl fkd)), (qFf, .inl (cT 0, 20, .inl ffr)), (qFl, .inl (cT 0, 20, .inl fto)), (qU, .inl (cT 1, 1, .inr (.inl uout)))]) (w2 := [(qO, .inr (0, [.ref qT, .ref qR, .ref qP, .ref qL, .ref qF, .int done, .int brd, .int tup, .int tdn, .ref qOa, .int askd])), (qOa, .inl (cT 0, 149, .inl answ)), (qT, .inr (1, [.ref qTs, .int tlen, .int tpl])), (qTs, .inl (cT 2, 300, .inl tsg)), (qR, .inr (2, [.ref qRs, .int rlen, .int rsz])), (qRs, .inl (cT 2, 300, .inl rsg)), (qP, .inr (3, [.ref qPc, .ref qPl, .ref qPv, .int psz])), (qPc, .inl (cT 0, 12, .inl pcd)), (qPl, .inl (cT 0, 12, .inl pld)), (qPv, .inl (cT 1, 12, .inr (.inl pct))), (qL, .inr (4, [.ref qLj, .int lpr, .int (bI lful)])), (qLj, .inl (cT 0, 10, .inl ljn)), (qF, .inr (5, [.ref qFk, .ref qFf, .ref qFl, .int fsz])), (qFk, .inl (cT 0, 20, .inl fkd)), (qFf, .inl (cT 0, 20, .inl ffr)), (qFl, .inl (cT 0, 20, .inl fto)), (qM, .inr (6, [.int e_thrown_1006, .ref qMtext, .int e_signs, .ref qMread, .ref qMbegins, .int e_rows, .ref qMtried, .int e_parts, .ref qMpartCode, .ref qMpartLand, .ref qMpartCents, .int e_done, .int e_barred, .ref qMjoined, .int e_pairs, .int (bI e_full), .int e_up, .int e_down, .int e_proofs, .ref qMproofKind, .ref qMproofFrom, .ref qMproofTo, .int e_asked, .ref qMtold, .ref qMlive, .ref qMany, .ref qMall])), (qMtext, .inl (cT 0, 300, .inl e_text)), (qMread, .inl (cT 0, 300, .inl e_read)), (qMbegins, .inl (cT 0, 21, .inl e_begins)), (qMtried, .inl (cT 0, 21, .inl e_tried)), (qMpartCode, .inl (cT 0, 12, .inl e_partCode)), (qMpartLand, .inl (cT 0, 12, .inl e_partLand)), (qMpartCents, .inl (cT 1, 12, .inr (.inl e_partCents))), (qMjoined, .inl (cT 3, 100, .inl e_joined)), (qMproofKind, .inl (cT 0, 20, .inl e_proofKind)), (qMproofFrom, .inl (cT 0, 20, .inl e_proofFrom)), (qMproofTo, .inl (cT 0, 20, .inl e_proofTo)), (qMtold, .inl (cT 0, 300, .inl e_told)), (qMlive, .inl (cT 3, 9, .inl e_live)), (qMany, .inl (cT 3, 9, .inl e_any)), (qMall, .inl (cT 3, 9, .inl e_all)), (qU, .inl (cT 1, 1, .inr (.inl uout)))]) S hE (c_Md_count l D cT qM qMtext qMread qMbegins qMtried qMpartCode qMpartLand qMpartCents qMjoined qMproofKind qMproofFrom qMproofTo qMtold qMlive qMany qMall e_thrown e_signs e_rows e_parts e_done e_barred e_pairs e_full e_up e_down e_proofs e_asked e_text e_read e_begins e_tried e_partCode e_partLand e_partCents e_joined e_proofKind e_proofFrom e_proofTo e_told e_live e_any e_all (xs (x4 + 1).toNatClampNeg) hc_1006) gw_826082b5 rfl rfl ⟨Nat.le_of_ble_eq_true rfl, Nat.le_of_ble_eq_true rfl⟩ (ci := 6) rfl rfl (k0 := 0) rfl rfl hl.1 rfl (Nat.le_of_ble_eq_true rfl) d_law_1006 ⟨hc0, hs0⟩ hP hD hS hA [16, 17, 18, 19, 20, 21, 22, 23, 24, 25, 26, 27, 28, 29, 30, 31] [0, 1, 2, 3, 4, 5, 6, 7, 8, 9, 10, 11, 12, 13, 14, 15, 32] [0, 1, 2, 3, 4, 5, 6, 7, 8, 9, 10, 11, 12, 13, 14, 15, 17, 18, 19, 20, 21, 22, 23, 24, 25, 26, 27, 28, 29, 30, 31, 32, 16] rfl rfl (by decide) (by decide) rfl (by decide) (by decide) (fun H locs hP hD hS => ?_)
                                      refine lv_icmp_eq (tgt := 1014) hx hb d_law_1009 (by decide) (fun c_1009 => ?_) (fun c_1009 => ?_)
                                      · have hM := itT hM c_1009
                                        refine lv_iinc (v := x4 + 5) (lv' := [(4, .int (x4 + 5)), (0, .ref b), (1, .ref qO), (2, .ref qM), (3, .ref qU)]) hx hb d_law_1014 hl (k := 4) rfl rfl (by decide) rfl (fun ls hl => ?_)
                                        refine lv_goto (tgt := 23) hx hb d_law_1017 (by decide) ?_
                                        refine W.widen (k := 1067 - n) (n := 10328 - 6 * n) (by omega) (by omega) ?_
                                        exact ih (by omega) (x4 + 5) done brd tup tdn askd answ tlen tpl tsg rlen rsz rsg psz pcd pld pct lpr lful ljn fsz fkd ffr fto e_thrown_1006 e_signs e_rows e_parts e_done e_barred e_pairs e_full e_up e_down e_proofs e_asked e_text e_read e_begins e_tried e_partCode e_partLand e_partCents e_joined e_proofKind e_proofFrom e_proofTo e_told e_live e_any e_all uout hM _ _ _ hP hD hS (lv_sub hl [1, 2, 3, 4, 0] rfl)
                                      · have hM := itF hM c_1009
                                        refine lv_iconst (v := 0) hx hb d_law_1012 (by decide) ?_
                                        exact absurd hM (by simp)
                                    · have hM := itF hM c_39_15
                                      refine lv_tableOut (tgt := 1014) hx hb d_law_39 (tsw16 c_39_0 c_39_1 c_39_2 c_39_3 c_39_4 c_39_5 c_39_6 c_39_7 c_39_8 c_39_9 c_39_10 c_39_11 c_39_12 c_39_13 c_39_14 c_39_15) (by decide) ?_
                                      refine lv_iinc (v := x4 + 5) (lv' := [(4, .int (x4 + 5)), (0, .ref b), (1, .ref qO), (2, .ref qM), (3, .ref qU)]) hx hb d_law_1014 hl (k := 4) rfl rfl (by decide) rfl (fun ls hl => ?_)
                                      refine lv_goto (tgt := 23) hx hb d_law_1017 (by decide) ?_
                                      refine W.widen (k := 1067 - n) (n := 10328 - 6 * n) (by omega) (by omega) ?_
                                      exact ih (by omega) (x4 + 5) done brd tup tdn askd answ tlen tpl tsg rlen rsz rsg psz pcd pld pct lpr lful ljn fsz fkd ffr fto e_thrown e_signs e_rows e_parts e_done e_barred e_pairs e_full e_up e_down e_proofs e_asked e_text e_read e_begins e_tried e_partCode e_partLand e_partCents e_joined e_proofKind e_proofFrom e_proofTo e_told e_live e_any e_all uout hM _ _ _ hP hD hS (lv_sub hl [1, 2, 3, 4, 0] rfl)
