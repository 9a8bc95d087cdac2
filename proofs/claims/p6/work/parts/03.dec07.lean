theorem dX13_sequence_171 : decode cX13_sequence 171 = .ok (.bipush 18, 2) := by decide +kernel
theorem dX13_sequence_173 : decode cX13_sequence 173 = .ok (.iload 5, 2) := by decide +kernel
theorem dX13_sequence_175 : decode cX13_sequence 175 = .ok (.invokevirtual 263, 3) := by decide +kernel
theorem dX13_sequence_178 : decode cX13_sequence 178 = .ok (.pop, 1) := by decide +kernel
theorem dX13_sequence_179 : decode cX13_sequence 179 = .ok (.return_, 1) := by decide +kernel
theorem dX13_sequence_180 : decode cX13_sequence 180 = .ok (.aload_n 0, 1) := by decide +kernel
theorem dX13_sequence_181 : decode cX13_sequence 181 = .ok (.getfield 344, 3) := by decide +kernel
theorem dX13_sequence_184 : decode cX13_sequence 184 = .ok (.i2l, 1) := by decide +kernel
theorem dX13_sequence_185 : decode cX13_sequence 185 = .ok (.iload_n 1, 1) := by decide +kernel
theorem dX13_sequence_186 : decode cX13_sequence 186 = .ok (.i2l, 1) := by decide +kernel
theorem dX13_sequence_187 : decode cX13_sequence 187 = .ok (.ladd, 1) := by decide +kernel
theorem dX13_sequence_188 : decode cX13_sequence 188 = .ok (.iload_n 2, 1) := by decide +kernel
theorem dX13_sequence_189 : decode cX13_sequence 189 = .ok (.i2l, 1) := by decide +kernel
theorem dX13_sequence_190 : decode cX13_sequence 190 = .ok (.ladd, 1) := by decide +kernel
theorem dX13_sequence_191 : decode cX13_sequence 191 = .ok (.aload_n 0, 1) := by decide +kernel
theorem dX13_sequence_192 : decode cX13_sequence 192 = .ok (.getfield 324, 3) := by decide +kernel
theorem dX13_sequence_195 : decode cX13_sequence 195 = .ok (.i2l, 1) := by decide +kernel
theorem dX13_sequence_196 : decode cX13_sequence 196 = .ok (.lcmp, 1) := by decide +kernel
theorem dX13_sequence_197 : decode cX13_sequence 197 = .ok (.ifCond .le 13, 3) := by decide +kernel
theorem dX13_sequence_200 : decode cX13_sequence 200 = .ok (.aload_n 0, 1) := by decide +kernel
theorem dX13_sequence_201 : decode cX13_sequence 201 = .ok (.bipush 20, 2) := by decide +kernel
theorem dX13_sequence_203 : decode cX13_sequence 203 = .ok (.iload 5, 2) := by decide +kernel
theorem dX13_sequence_205 : decode cX13_sequence 205 = .ok (.invokevirtual 263, 3) := by decide +kernel
theorem dX13_sequence_208 : decode cX13_sequence 208 = .ok (.pop, 1) := by decide +kernel
theorem dX13_sequence_209 : decode cX13_sequence 209 = .ok (.return_, 1) := by decide +kernel
theorem dX13_sequence_210 : decode cX13_sequence 210 = .ok (.aload_n 0, 1) := by decide +kernel
theorem dX13_sequence_211 : decode cX13_sequence 211 = .ok (.aload_n 0, 1) := by decide +kernel
theorem dX13_sequence_212 : decode cX13_sequence 212 = .ok (.getfield 85, 3) := by decide +kernel
theorem dX13_sequence_215 : decode cX13_sequence 215 = .ok (.lload_n 3, 1) := by decide +kernel
theorem dX13_sequence_216 : decode cX13_sequence 216 = .ok (.iload_n 1, 1) := by decide +kernel
theorem dX13_sequence_217 : decode cX13_sequence 217 = .ok (.invokevirtual 408, 3) := by decide +kernel
theorem dX13_sequence_220 : decode cX13_sequence 220 = .ok (.lstore 7, 2) := by decide +kernel
theorem dX13_sequence_222 : decode cX13_sequence 222 = .ok (.iconst 0, 1) := by decide +kernel
theorem dX13_sequence_223 : decode cX13_sequence 223 = .ok (.istore 14, 2) := by decide +kernel
theorem dX13_sequence_225 : decode cX13_sequence 225 = .ok (.iload 14, 2) := by decide +kernel
theorem dX13_sequence_227 : decode cX13_sequence 227 = .ok (.iload_n 1, 1) := by decide +kernel
theorem dX13_sequence_228 : decode cX13_sequence 228 = .ok (.if_icmp .ge 47, 3) := by decide +kernel
theorem dX13_sequence_231 : decode cX13_sequence 231 = .ok (.aload_n 0, 1) := by decide +kernel
theorem dX13_sequence_232 : decode cX13_sequence 232 = .ok (.getfield 75, 3) := by decide +kernel
theorem dX13_sequence_235 : decode cX13_sequence 235 = .ok (.aload_n 0, 1) := by decide +kernel
theorem dX13_sequence_236 : decode cX13_sequence 236 = .ok (.getfield 344, 3) := by decide +kernel
theorem dX13_sequence_239 : decode cX13_sequence 239 = .ok (.aload_n 0, 1) := by decide +kernel
theorem dX13_sequence_240 : decode cX13_sequence 240 = .ok (.getfield 79, 3) := by decide +kernel
theorem dX13_sequence_243 : decode cX13_sequence 243 = .ok (.aload_n 0, 1) := by decide +kernel
theorem dX13_sequence_244 : decode cX13_sequence 244 = .ok (.getfield 376, 3) := by decide +kernel
theorem dX13_sequence_247 : decode cX13_sequence 247 = .ok (.baload, 1) := by decide +kernel
theorem dX13_sequence_248 : decode cX13_sequence 248 = .ok (.bastore, 1) := by decide +kernel
theorem dX13_sequence_249 : decode cX13_sequence 249 = .ok (.aload_n 0, 1) := by decide +kernel
theorem dX13_sequence_250 : decode cX13_sequence 250 = .ok (.dup, 1) := by decide +kernel
theorem dX13_sequence_251 : decode cX13_sequence 251 = .ok (.getfield 344, 3) := by decide +kernel
theorem dX13_sequence_254 : decode cX13_sequence 254 = .ok (.iconst 1, 1) := by decide +kernel
theorem dX13_sequence_255 : decode cX13_sequence 255 = .ok (.iadd, 1) := by decide +kernel
theorem dX13_sequence_256 : decode cX13_sequence 256 = .ok (.putfield 344, 3) := by decide +kernel
theorem dX13_sequence_259 : decode cX13_sequence 259 = .ok (.aload_n 0, 1) := by decide +kernel
theorem dX13_sequence_260 : decode cX13_sequence 260 = .ok (.dup, 1) := by decide +kernel
theorem dX13_sequence_261 : decode cX13_sequence 261 = .ok (.getfield 376, 3) := by decide +kernel
theorem dX13_sequence_264 : decode cX13_sequence 264 = .ok (.iconst 1, 1) := by decide +kernel
theorem dX13_sequence_265 : decode cX13_sequence 265 = .ok (.iadd, 1) := by decide +kernel
theorem dX13_sequence_266 : decode cX13_sequence 266 = .ok (.putfield 376, 3) := by decide +kernel
theorem dX13_sequence_269 : decode cX13_sequence 269 = .ok (.iinc 14 1, 3) := by decide +kernel
theorem dX13_sequence_272 : decode cX13_sequence 272 = .ok (.goto (-47), 3) := by decide +kernel
theorem dX13_sequence_275 : decode cX13_sequence 275 = .ok (.iconst 0, 1) := by decide +kernel
theorem dX13_sequence_276 : decode cX13_sequence 276 = .ok (.istore 14, 2) := by decide +kernel
theorem dX13_sequence_278 : decode cX13_sequence 278 = .ok (.iload 14, 2) := by decide +kernel
theorem dX13_sequence_280 : decode cX13_sequence 280 = .ok (.iload_n 2, 1) := by decide +kernel
theorem dX13_sequence_281 : decode cX13_sequence 281 = .ok (.if_icmp .ge 121, 3) := by decide +kernel
theorem dX13_sequence_284 : decode cX13_sequence 284 = .ok (.aload_n 0, 1) := by decide +kernel
theorem dX13_sequence_285 : decode cX13_sequence 285 = .ok (.getfield 286, 3) := by decide +kernel
theorem dX13_sequence_288 : decode cX13_sequence 288 = .ok (.aload_n 0, 1) := by decide +kernel
theorem dX13_sequence_289 : decode cX13_sequence 289 = .ok (.getfield 334, 3) := by decide +kernel
theorem dX13_sequence_292 : decode cX13_sequence 292 = .ok (.isub, 1) := by decide +kernel
theorem dX13_sequence_293 : decode cX13_sequence 293 = .ok (.aload_n 0, 1) := by decide +kernel
theorem dX13_sequence_294 : decode cX13_sequence 294 = .ok (.getfield 344, 3) := by decide +kernel
theorem dX13_sequence_297 : decode cX13_sequence 297 = .ok (.iadd, 1) := by decide +kernel
theorem dX13_sequence_298 : decode cX13_sequence 298 = .ok (.i2l, 1) := by decide +kernel
theorem dX13_sequence_299 : decode cX13_sequence 299 = .ok (.lload 7, 2) := by decide +kernel
theorem dX13_sequence_301 : decode cX13_sequence 301 = .ok (.lsub, 1) := by decide +kernel
theorem dX13_sequence_302 : decode cX13_sequence 302 = .ok (.lstore 15, 2) := by decide +kernel
theorem dX13_sequence_304 : decode cX13_sequence 304 = .ok (.lload 15, 2) := by decide +kernel
theorem dX13_sequence_306 : decode cX13_sequence 306 = .ok (.l2i, 1) := by decide +kernel
theorem dX13_sequence_307 : decode cX13_sequence 307 = .ok (.istore 17, 2) := by decide +kernel
theorem dX13_sequence_309 : decode cX13_sequence 309 = .ok (.aload_n 0, 1) := by decide +kernel
theorem dX13_sequence_310 : decode cX13_sequence 310 = .ok (.getfield 75, 3) := by decide +kernel
theorem dX13_sequence_313 : decode cX13_sequence 313 = .ok (.aload_n 0, 1) := by decide +kernel
theorem dX13_sequence_314 : decode cX13_sequence 314 = .ok (.getfield 344, 3) := by decide +kernel
theorem dX13_sequence_317 : decode cX13_sequence 317 = .ok (.lload 15, 2) := by decide +kernel
theorem dX13_sequence_319 : decode cX13_sequence 319 = .ok (.lconst 0, 1) := by decide +kernel
theorem dX13_sequence_320 : decode cX13_sequence 320 = .ok (.lcmp, 1) := by decide +kernel
theorem dX13_sequence_321 : decode cX13_sequence 321 = .ok (.ifCond .ge 18, 3) := by decide +kernel
theorem dX13_sequence_324 : decode cX13_sequence 324 = .ok (.aload_n 0, 1) := by decide +kernel
theorem dX13_sequence_325 : decode cX13_sequence 325 = .ok (.getfield 62, 3) := by decide +kernel
theorem dX13_sequence_328 : decode cX13_sequence 328 = .ok (.aload_n 0, 1) := by decide +kernel
theorem dX13_sequence_329 : decode cX13_sequence 329 = .ok (.getfield 273, 3) := by decide +kernel
theorem dX13_sequence_332 : decode cX13_sequence 332 = .ok (.iload 17, 2) := by decide +kernel
theorem dX13_sequence_334 : decode cX13_sequence 334 = .ok (.iadd, 1) := by decide +kernel
theorem dX13_sequence_335 : decode cX13_sequence 335 = .ok (.baload, 1) := by decide +kernel
theorem dX13_sequence_336 : decode cX13_sequence 336 = .ok (.goto 49, 3) := by decide +kernel
theorem dX13_sequence_339 : decode cX13_sequence 339 = .ok (.iload 17, 2) := by decide +kernel
theorem dX13_sequence_341 : decode cX13_sequence 341 = .ok (.aload_n 0, 1) := by decide +kernel
theorem dX13_sequence_342 : decode cX13_sequence 342 = .ok (.getfield 286, 3) := by decide +kernel
theorem dX13_sequence_345 : decode cX13_sequence 345 = .ok (.aload_n 0, 1) := by decide +kernel
theorem dX13_sequence_346 : decode cX13_sequence 346 = .ok (.getfield 334, 3) := by decide +kernel
theorem dX13_sequence_349 : decode cX13_sequence 349 = .ok (.isub, 1) := by decide +kernel
theorem dX13_sequence_350 : decode cX13_sequence 350 = .ok (.if_icmp .ge 18, 3) := by decide +kernel
theorem dX13_sequence_353 : decode cX13_sequence 353 = .ok (.aload_n 0, 1) := by decide +kernel
theorem dX13_sequence_354 : decode cX13_sequence 354 = .ok (.getfield 71, 3) := by decide +kernel
theorem dX13_sequence_357 : decode cX13_sequence 357 = .ok (.aload_n 0, 1) := by decide +kernel
theorem dX13_sequence_358 : decode cX13_sequence 358 = .ok (.getfield 334, 3) := by decide +kernel
theorem dX13_sequence_361 : decode cX13_sequence 361 = .ok (.iload 17, 2) := by decide +kernel
theorem dX13_sequence_363 : decode cX13_sequence 363 = .ok (.iadd, 1) := by decide +kernel
theorem dX13_sequence_364 : decode cX13_sequence 364 = .ok (.baload, 1) := by decide +kernel
theorem dX13_sequence_365 : decode cX13_sequence 365 = .ok (.goto 20, 3) := by decide +kernel
theorem dX13_sequence_368 : decode cX13_sequence 368 = .ok (.aload_n 0, 1) := by decide +kernel
theorem dX13_sequence_369 : decode cX13_sequence 369 = .ok (.getfield 75, 3) := by decide +kernel
theorem dX13_sequence_372 : decode cX13_sequence 372 = .ok (.iload 17, 2) := by decide +kernel
theorem dX13_sequence_374 : decode cX13_sequence 374 = .ok (.aload_n 0, 1) := by decide +kernel
theorem dX13_sequence_375 : decode cX13_sequence 375 = .ok (.getfield 286, 3) := by decide +kernel
theorem dX13_sequence_378 : decode cX13_sequence 378 = .ok (.aload_n 0, 1) := by decide +kernel
theorem dX13_sequence_379 : decode cX13_sequence 379 = .ok (.getfield 334, 3) := by decide +kernel
theorem dX13_sequence_382 : decode cX13_sequence 382 = .ok (.isub, 1) := by decide +kernel
theorem dX13_sequence_383 : decode cX13_sequence 383 = .ok (.isub, 1) := by decide +kernel
theorem dX13_sequence_384 : decode cX13_sequence 384 = .ok (.baload, 1) := by decide +kernel
theorem dX13_sequence_385 : decode cX13_sequence 385 = .ok (.bastore, 1) := by decide +kernel
theorem dX13_sequence_386 : decode cX13_sequence 386 = .ok (.aload_n 0, 1) := by decide +kernel
theorem dX13_sequence_387 : decode cX13_sequence 387 = .ok (.dup, 1) := by decide +kernel
theorem dX13_sequence_388 : decode cX13_sequence 388 = .ok (.getfield 344, 3) := by decide +kernel
theorem dX13_sequence_391 : decode cX13_sequence 391 = .ok (.iconst 1, 1) := by decide +kernel
theorem dX13_sequence_392 : decode cX13_sequence 392 = .ok (.iadd, 1) := by decide +kernel
theorem dX13_sequence_393 : decode cX13_sequence 393 = .ok (.putfield 344, 3) := by decide +kernel
theorem dX13_sequence_396 : decode cX13_sequence 396 = .ok (.iinc 14 1, 3) := by decide +kernel
theorem dX13_sequence_399 : decode cX13_sequence 399 = .ok (.goto (-121), 3) := by decide +kernel
theorem dX13_sequence_402 : decode cX13_sequence 402 = .ok (.aload_n 0, 1) := by decide +kernel
theorem dX13_sequence_403 : decode cX13_sequence 403 = .ok (.getfield 289, 3) := by decide +kernel
theorem dX13_sequence_406 : decode cX13_sequence 406 = .ok (.sipush 2000, 3) := by decide +kernel
theorem dX13_sequence_409 : decode cX13_sequence 409 = .ok (.if_icmp .ge 56, 3) := by decide +kernel
theorem dX13_sequence_412 : decode cX13_sequence 412 = .ok (.aload_n 0, 1) := by decide +kernel
theorem dX13_sequence_413 : decode cX13_sequence 413 = .ok (.getfield 92, 3) := by decide +kernel
theorem dX13_sequence_416 : decode cX13_sequence 416 = .ok (.aload_n 0, 1) := by decide +kernel
theorem dX13_sequence_417 : decode cX13_sequence 417 = .ok (.getfield 289, 3) := by decide +kernel
theorem dX13_sequence_420 : decode cX13_sequence 420 = .ok (.iload_n 1, 1) := by decide +kernel
theorem dX13_sequence_421 : decode cX13_sequence 421 = .ok (.iastore, 1) := by decide +kernel
theorem dX13_sequence_422 : decode cX13_sequence 422 = .ok (.aload_n 0, 1) := by decide +kernel
theorem dX13_sequence_423 : decode cX13_sequence 423 = .ok (.getfield 95, 3) := by decide +kernel
theorem dX13_sequence_426 : decode cX13_sequence 426 = .ok (.aload_n 0, 1) := by decide +kernel
theorem dX13_sequence_427 : decode cX13_sequence 427 = .ok (.getfield 289, 3) := by decide +kernel
theorem dX13_sequence_430 : decode cX13_sequence 430 = .ok (.iload_n 2, 1) := by decide +kernel
theorem dX13_sequence_431 : decode cX13_sequence 431 = .ok (.iastore, 1) := by decide +kernel
theorem dX13_sequence_432 : decode cX13_sequence 432 = .ok (.aload_n 0, 1) := by decide +kernel
theorem dX13_sequence_433 : decode cX13_sequence 433 = .ok (.getfield 98, 3) := by decide +kernel
theorem dX13_sequence_436 : decode cX13_sequence 436 = .ok (.aload_n 0, 1) := by decide +kernel
theorem dX13_sequence_437 : decode cX13_sequence 437 = .ok (.getfield 289, 3) := by decide +kernel
theorem dX13_sequence_440 : decode cX13_sequence 440 = .ok (.lload_n 3, 1) := by decide +kernel
theorem dX13_sequence_441 : decode cX13_sequence 441 = .ok (.l2i, 1) := by decide +kernel
theorem dX13_sequence_442 : decode cX13_sequence 442 = .ok (.iastore, 1) := by decide +kernel
theorem dX13_sequence_443 : decode cX13_sequence 443 = .ok (.aload_n 0, 1) := by decide +kernel
theorem dX13_sequence_444 : decode cX13_sequence 444 = .ok (.getfield 101, 3) := by decide +kernel
theorem dX13_sequence_447 : decode cX13_sequence 447 = .ok (.aload_n 0, 1) := by decide +kernel
theorem dX13_sequence_448 : decode cX13_sequence 448 = .ok (.getfield 289, 3) := by decide +kernel
theorem dX13_sequence_451 : decode cX13_sequence 451 = .ok (.lload 7, 2) := by decide +kernel
theorem dX13_sequence_453 : decode cX13_sequence 453 = .ok (.l2i, 1) := by decide +kernel
theorem dX13_sequence_454 : decode cX13_sequence 454 = .ok (.iastore, 1) := by decide +kernel
theorem dX13_sequence_455 : decode cX13_sequence 455 = .ok (.aload_n 0, 1) := by decide +kernel
theorem dX13_sequence_456 : decode cX13_sequence 456 = .ok (.dup, 1) := by decide +kernel
theorem dX13_sequence_457 : decode cX13_sequence 457 = .ok (.getfield 289, 3) := by decide +kernel
theorem dX13_sequence_460 : decode cX13_sequence 460 = .ok (.iconst 1, 1) := by decide +kernel
theorem dX13_sequence_461 : decode cX13_sequence 461 = .ok (.iadd, 1) := by decide +kernel
theorem dX13_sequence_462 : decode cX13_sequence 462 = .ok (.putfield 289, 3) := by decide +kernel
theorem dX13_sequence_465 : decode cX13_sequence 465 = .ok (.aload_n 0, 1) := by decide +kernel
theorem dX13_sequence_466 : decode cX13_sequence 466 = .ok (.getfield 89, 3) := by decide +kernel
theorem dX13_sequence_469 : decode cX13_sequence 469 = .ok (.iconst 4, 1) := by decide +kernel
theorem dX13_sequence_470 : decode cX13_sequence 470 = .ok (.dup2, 1) := by decide +kernel
theorem dX13_sequence_471 : decode cX13_sequence 471 = .ok (.iaload, 1) := by decide +kernel
theorem dX13_sequence_472 : decode cX13_sequence 472 = .ok (.iconst 1, 1) := by decide +kernel
theorem dX13_sequence_473 : decode cX13_sequence 473 = .ok (.iadd, 1) := by decide +kernel
theorem dX13_sequence_474 : decode cX13_sequence 474 = .ok (.iastore, 1) := by decide +kernel
theorem dX13_sequence_475 : decode cX13_sequence 475 = .ok (.return_, 1) := by decide +kernel
theorem dX13_told_0 : decode cX13_told 0 = .ok (.iload_n 1, 1) := by decide +kernel
theorem dX13_told_1 : decode cX13_told 1 = .ok (.ifCond .lt 9, 3) := by decide +kernel
theorem dX13_told_4 : decode cX13_told 4 = .ok (.iload_n 1, 1) := by decide +kernel
theorem dX13_told_5 : decode cX13_told 5 = .ok (.bipush 11, 2) := by decide +kernel
theorem dX13_told_7 : decode cX13_told 7 = .ok (.if_icmp .le 8, 3) := by decide +kernel
theorem dX13_told_10 : decode cX13_told 10 = .ok (.bipush (-2), 2) := by decide +kernel
theorem dX13_told_12 : decode cX13_told 12 = .ok (.goto 9, 3) := by decide +kernel
theorem dX13_told_15 : decode cX13_told 15 = .ok (.aload_n 0, 1) := by decide +kernel
theorem dX13_told_16 : decode cX13_told 16 = .ok (.getfield 89, 3) := by decide +kernel
theorem dX13_told_19 : decode cX13_told 19 = .ok (.iload_n 1, 1) := by decide +kernel
theorem dX13_told_20 : decode cX13_told 20 = .ok (.iaload, 1) := by decide +kernel
theorem dX13_told_21 : decode cX13_told 21 = .ok (.ireturn, 1) := by decide +kernel
theorem dX13_sequence__0 : decode cX13_sequence_ 0 = .ok (.iload_n 1, 1) := by decide +kernel
theorem dX13_sequence__1 : decode cX13_sequence_ 1 = .ok (.ifCond .lt 20, 3) := by decide +kernel
theorem dX13_sequence__4 : decode cX13_sequence_ 4 = .ok (.iload_n 1, 1) := by decide +kernel
theorem dX13_sequence__5 : decode cX13_sequence_ 5 = .ok (.aload_n 0, 1) := by decide +kernel
theorem dX13_sequence__6 : decode cX13_sequence_ 6 = .ok (.getfield 289, 3) := by decide +kernel
theorem dX13_sequence__9 : decode cX13_sequence_ 9 = .ok (.if_icmp .ge 12, 3) := by decide +kernel
theorem dX13_sequence__12 : decode cX13_sequence_ 12 = .ok (.iload_n 2, 1) := by decide +kernel
theorem dX13_sequence__13 : decode cX13_sequence_ 13 = .ok (.ifCond .lt 8, 3) := by decide +kernel
theorem dX13_sequence__16 : decode cX13_sequence_ 16 = .ok (.iload_n 2, 1) := by decide +kernel
theorem dX13_sequence__17 : decode cX13_sequence_ 17 = .ok (.iconst 3, 1) := by decide +kernel
theorem dX13_sequence__18 : decode cX13_sequence_ 18 = .ok (.if_icmp .le 6, 3) := by decide +kernel
theorem dX13_sequence__21 : decode cX13_sequence_ 21 = .ok (.bipush (-2), 2) := by decide +kernel
theorem dX13_sequence__23 : decode cX13_sequence_ 23 = .ok (.ireturn, 1) := by decide +kernel
theorem dX13_sequence__24 : decode cX13_sequence_ 24 = .ok (.iload_n 2, 1) := by decide +kernel
theorem dX13_sequence__25 : decode cX13_sequence_ 25 = .ok (.ifCond .ne 12, 3) := by decide +kernel
theorem dX13_sequence__28 : decode cX13_sequence_ 28 = .ok (.aload_n 0, 1) := by decide +kernel
theorem dX13_sequence__29 : decode cX13_sequence_ 29 = .ok (.getfield 92, 3) := by decide +kernel
theorem dX13_sequence__32 : decode cX13_sequence_ 32 = .ok (.iload_n 1, 1) := by decide +kernel
theorem dX13_sequence__33 : decode cX13_sequence_ 33 = .ok (.iaload, 1) := by decide +kernel
theorem dX13_sequence__34 : decode cX13_sequence_ 34 = .ok (.goto 37, 3) := by decide +kernel
theorem dX13_sequence__37 : decode cX13_sequence_ 37 = .ok (.iload_n 2, 1) := by decide +kernel
theorem dX13_sequence__38 : decode cX13_sequence_ 38 = .ok (.iconst 1, 1) := by decide +kernel
theorem dX13_sequence__39 : decode cX13_sequence_ 39 = .ok (.if_icmp .ne 12, 3) := by decide +kernel
theorem dX13_sequence__42 : decode cX13_sequence_ 42 = .ok (.aload_n 0, 1) := by decide +kernel
theorem dX13_sequence__43 : decode cX13_sequence_ 43 = .ok (.getfield 95, 3) := by decide +kernel
theorem dX13_sequence__46 : decode cX13_sequence_ 46 = .ok (.iload_n 1, 1) := by decide +kernel
theorem dX13_sequence__47 : decode cX13_sequence_ 47 = .ok (.iaload, 1) := by decide +kernel
theorem dX13_sequence__48 : decode cX13_sequence_ 48 = .ok (.goto 23, 3) := by decide +kernel
theorem dX13_sequence__51 : decode cX13_sequence_ 51 = .ok (.iload_n 2, 1) := by decide +kernel
theorem dX13_sequence__52 : decode cX13_sequence_ 52 = .ok (.iconst 2, 1) := by decide +kernel
theorem dX13_sequence__53 : decode cX13_sequence_ 53 = .ok (.if_icmp .ne 12, 3) := by decide +kernel
theorem dX13_sequence__56 : decode cX13_sequence_ 56 = .ok (.aload_n 0, 1) := by decide +kernel
theorem dX13_sequence__57 : decode cX13_sequence_ 57 = .ok (.getfield 98, 3) := by decide +kernel
theorem dX13_sequence__60 : decode cX13_sequence_ 60 = .ok (.iload_n 1, 1) := by decide +kernel
theorem dX13_sequence__61 : decode cX13_sequence_ 61 = .ok (.iaload, 1) := by decide +kernel
theorem dX13_sequence__62 : decode cX13_sequence_ 62 = .ok (.goto 9, 3) := by decide +kernel
theorem dX13_sequence__65 : decode cX13_sequence_ 65 = .ok (.aload_n 0, 1) := by decide +kernel
theorem dX13_sequence__66 : decode cX13_sequence_ 66 = .ok (.getfield 101, 3) := by decide +kernel
theorem dX13_sequence__69 : decode cX13_sequence_ 69 = .ok (.iload_n 1, 1) := by decide +kernel
theorem dX13_sequence__70 : decode cX13_sequence_ 70 = .ok (.iaload, 1) := by decide +kernel
theorem dX13_sequence__71 : decode cX13_sequence_ 71 = .ok (.ireturn, 1) := by decide +kernel
theorem dX13_table__0 : decode cX13_table_ 0 = .ok (.iload_n 1, 1) := by decide +kernel
theorem dX13_table__1 : decode cX13_table_ 1 = .ok (.ifCond .lt 17, 3) := by decide +kernel
theorem dX13_table__4 : decode cX13_table_ 4 = .ok (.iload_n 1, 1) := by decide +kernel
theorem dX13_table__5 : decode cX13_table_ 5 = .ok (.iconst 2, 1) := by decide +kernel
theorem dX13_table__6 : decode cX13_table_ 6 = .ok (.if_icmp .gt 12, 3) := by decide +kernel
theorem dX13_table__9 : decode cX13_table_ 9 = .ok (.iload_n 3, 1) := by decide +kernel
theorem dX13_table__10 : decode cX13_table_ 10 = .ok (.ifCond .lt 8, 3) := by decide +kernel
theorem dX13_table__13 : decode cX13_table_ 13 = .ok (.iload_n 3, 1) := by decide +kernel
theorem dX13_table__14 : decode cX13_table_ 14 = .ok (.iconst 2, 1) := by decide +kernel
theorem dX13_table__15 : decode cX13_table_ 15 = .ok (.if_icmp .le 6, 3) := by decide +kernel
theorem dX13_table__18 : decode cX13_table_ 18 = .ok (.bipush (-2), 2) := by decide +kernel
theorem dX13_table__20 : decode cX13_table_ 20 = .ok (.ireturn, 1) := by decide +kernel
theorem dX13_table__21 : decode cX13_table_ 21 = .ok (.aload_n 0, 1) := by decide +kernel
theorem dX13_table__22 : decode cX13_table_ 22 = .ok (.getfield 40, 3) := by decide +kernel
theorem dX13_table__25 : decode cX13_table_ 25 = .ok (.iload_n 1, 1) := by decide +kernel
theorem dX13_table__26 : decode cX13_table_ 26 = .ok (.baload, 1) := by decide +kernel
theorem dX13_table__27 : decode cX13_table_ 27 = .ok (.ifCond .ne 6, 3) := by decide +kernel
theorem dX13_table__30 : decode cX13_table_ 30 = .ok (.bipush (-3), 2) := by decide +kernel
theorem dX13_table__32 : decode cX13_table_ 32 = .ok (.ireturn, 1) := by decide +kernel
theorem dX13_table__33 : decode cX13_table_ 33 = .ok (.iload_n 2, 1) := by decide +kernel
theorem dX13_table__34 : decode cX13_table_ 34 = .ok (.iconst (-1), 1) := by decide +kernel
theorem dX13_table__35 : decode cX13_table_ 35 = .ok (.if_icmp .lt 15, 3) := by decide +kernel
theorem dX13_table__38 : decode cX13_table_ 38 = .ok (.iload_n 2, 1) := by decide +kernel
theorem dX13_table__39 : decode cX13_table_ 39 = .ok (.iconst 1, 1) := by decide +kernel
theorem dX13_table__40 : decode cX13_table_ 40 = .ok (.aload_n 0, 1) := by decide +kernel
theorem dX13_table__41 : decode cX13_table_ 41 = .ok (.getfield 37, 3) := by decide +kernel
theorem dX13_table__44 : decode cX13_table_ 44 = .ok (.iload_n 1, 1) := by decide +kernel
theorem dX13_table__45 : decode cX13_table_ 45 = .ok (.iaload, 1) := by decide +kernel
theorem dX13_table__46 : decode cX13_table_ 46 = .ok (.ishl, 1) := by decide +kernel
theorem dX13_table__47 : decode cX13_table_ 47 = .ok (.if_icmp .lt 6, 3) := by decide +kernel
theorem dX13_table__50 : decode cX13_table_ 50 = .ok (.bipush (-2), 2) := by decide +kernel
theorem dX13_table__52 : decode cX13_table_ 52 = .ok (.ireturn, 1) := by decide +kernel
theorem dX13_table__53 : decode cX13_table_ 53 = .ok (.sipush 512, 3) := by decide +kernel
theorem dX13_table__56 : decode cX13_table_ 56 = .ok (.iload_n 1, 1) := by decide +kernel
theorem dX13_table__57 : decode cX13_table_ 57 = .ok (.imul, 1) := by decide +kernel
theorem dX13_table__58 : decode cX13_table_ 58 = .ok (.iload_n 2, 1) := by decide +kernel
theorem dX13_table__59 : decode cX13_table_ 59 = .ok (.iadd, 1) := by decide +kernel
theorem dX13_table__60 : decode cX13_table_ 60 = .ok (.istore 4, 2) := by decide +kernel
theorem dX13_table__62 : decode cX13_table_ 62 = .ok (.iload_n 2, 1) := by decide +kernel
theorem dX13_table__63 : decode cX13_table_ 63 = .ok (.ifCond .ge 12, 3) := by decide +kernel
theorem dX13_table__66 : decode cX13_table_ 66 = .ok (.aload_n 0, 1) := by decide +kernel
theorem dX13_table__67 : decode cX13_table_ 67 = .ok (.getfield 37, 3) := by decide +kernel
theorem dX13_table__70 : decode cX13_table_ 70 = .ok (.iload_n 1, 1) := by decide +kernel
theorem dX13_table__71 : decode cX13_table_ 71 = .ok (.iaload, 1) := by decide +kernel
theorem dX13_table__72 : decode cX13_table_ 72 = .ok (.goto 39, 3) := by decide +kernel
theorem dX13_table__75 : decode cX13_table_ 75 = .ok (.iload_n 3, 1) := by decide +kernel
theorem dX13_table__76 : decode cX13_table_ 76 = .ok (.ifCond .ne 13, 3) := by decide +kernel
theorem dX13_table__79 : decode cX13_table_ 79 = .ok (.aload_n 0, 1) := by decide +kernel
theorem dX13_table__80 : decode cX13_table_ 80 = .ok (.getfield 27, 3) := by decide +kernel
theorem dX13_table__83 : decode cX13_table_ 83 = .ok (.iload 4, 2) := by decide +kernel
theorem dX13_table__85 : decode cX13_table_ 85 = .ok (.saload, 1) := by decide +kernel
theorem dX13_table__86 : decode cX13_table_ 86 = .ok (.goto 25, 3) := by decide +kernel
theorem dX13_table__89 : decode cX13_table_ 89 = .ok (.iload_n 3, 1) := by decide +kernel
theorem dX13_table__90 : decode cX13_table_ 90 = .ok (.iconst 1, 1) := by decide +kernel
theorem dX13_table__91 : decode cX13_table_ 91 = .ok (.if_icmp .ne 13, 3) := by decide +kernel
theorem dX13_table__94 : decode cX13_table_ 94 = .ok (.aload_n 0, 1) := by decide +kernel
theorem dX13_table__95 : decode cX13_table_ 95 = .ok (.getfield 31, 3) := by decide +kernel
theorem dX13_table__98 : decode cX13_table_ 98 = .ok (.iload 4, 2) := by decide +kernel
theorem dX13_table__100 : decode cX13_table_ 100 = .ok (.baload, 1) := by decide +kernel
theorem dX13_table__101 : decode cX13_table_ 101 = .ok (.goto 10, 3) := by decide +kernel
theorem dX13_table__104 : decode cX13_table_ 104 = .ok (.aload_n 0, 1) := by decide +kernel
theorem dX13_table__105 : decode cX13_table_ 105 = .ok (.getfield 34, 3) := by decide +kernel
theorem dX13_table__108 : decode cX13_table_ 108 = .ok (.iload 4, 2) := by decide +kernel
theorem dX13_table__110 : decode cX13_table_ 110 = .ok (.iaload, 1) := by decide +kernel
theorem dX13_table__111 : decode cX13_table_ 111 = .ok (.ireturn, 1) := by decide +kernel
theorem dX13_bits_0 : decode cX13_bits 0 = .ok (.iload_n 1, 1) := by decide +kernel
theorem dX13_bits_1 : decode cX13_bits 1 = .ok (.ifCond .lt 10, 3) := by decide +kernel
theorem dX13_bits_4 : decode cX13_bits 4 = .ok (.iload_n 1, 1) := by decide +kernel
theorem dX13_bits_5 : decode cX13_bits 5 = .ok (.sipush 255, 3) := by decide +kernel
theorem dX13_bits_8 : decode cX13_bits 8 = .ok (.if_icmp .le 8, 3) := by decide +kernel
theorem dX13_bits_11 : decode cX13_bits 11 = .ok (.bipush (-2), 2) := by decide +kernel
theorem dX13_bits_13 : decode cX13_bits 13 = .ok (.goto 23, 3) := by decide +kernel
theorem dX13_bits_16 : decode cX13_bits 16 = .ok (.aload_n 0, 1) := by decide +kernel
theorem dX13_bits_17 : decode cX13_bits 17 = .ok (.getfield 50, 3) := by decide +kernel
theorem dX13_bits_20 : decode cX13_bits 20 = .ok (.iconst 0, 1) := by decide +kernel
theorem dX13_bits_21 : decode cX13_bits 21 = .ok (.baload, 1) := by decide +kernel
theorem dX13_bits_22 : decode cX13_bits 22 = .ok (.ifCond .eq 12, 3) := by decide +kernel
theorem dX13_bits_25 : decode cX13_bits 25 = .ok (.aload_n 0, 1) := by decide +kernel
theorem dX13_bits_26 : decode cX13_bits 26 = .ok (.getfield 47, 3) := by decide +kernel
theorem dX13_bits_29 : decode cX13_bits 29 = .ok (.iload_n 1, 1) := by decide +kernel
theorem dX13_bits_30 : decode cX13_bits 30 = .ok (.iaload, 1) := by decide +kernel
theorem dX13_bits_31 : decode cX13_bits 31 = .ok (.goto 5, 3) := by decide +kernel
theorem dX13_bits_34 : decode cX13_bits 34 = .ok (.bipush (-3), 2) := by decide +kernel
theorem dX13_bits_36 : decode cX13_bits 36 = .ok (.ireturn, 1) := by decide +kernel
theorem dX13_say_0 : decode cX13_say 0 = .ok (.iconst 0, 1) := by decide +kernel
theorem dX13_say_1 : decode cX13_say 1 = .ok (.istore 4, 2) := by decide +kernel
theorem dX13_say_3 : decode cX13_say 3 = .ok (.iload 4, 2) := by decide +kernel
theorem dX13_say_5 : decode cX13_say 5 = .ok (.iload_n 3, 1) := by decide +kernel
theorem dX13_say_6 : decode cX13_say 6 = .ok (.if_icmp .ge 37, 3) := by decide +kernel
theorem dX13_say_9 : decode cX13_say 9 = .ok (.aload_n 0, 1) := by decide +kernel
theorem dX13_say_10 : decode cX13_say 10 = .ok (.getfield 104, 3) := by decide +kernel
theorem dX13_say_13 : decode cX13_say 13 = .ok (.aload_n 0, 1) := by decide +kernel
theorem dX13_say_14 : decode cX13_say 14 = .ok (.getfield 412, 3) := by decide +kernel
theorem dX13_say_17 : decode cX13_say 17 = .ok (.lload_n 1, 1) := by decide +kernel
theorem dX13_say_18 : decode cX13_say 18 = .ok (.bipush 8, 2) := by decide +kernel
theorem dX13_say_20 : decode cX13_say 20 = .ok (.iload 4, 2) := by decide +kernel
theorem dX13_say_22 : decode cX13_say 22 = .ok (.imul, 1) := by decide +kernel
theorem dX13_say_23 : decode cX13_say 23 = .ok (.lushr, 1) := by decide +kernel
theorem dX13_say_24 : decode cX13_say 24 = .ok (.l2i, 1) := by decide +kernel
theorem dX13_say_25 : decode cX13_say 25 = .ok (.i2b, 1) := by decide +kernel
theorem dX13_say_26 : decode cX13_say 26 = .ok (.bastore, 1) := by decide +kernel
theorem dX13_say_27 : decode cX13_say 27 = .ok (.aload_n 0, 1) := by decide +kernel
theorem dX13_say_28 : decode cX13_say 28 = .ok (.dup, 1) := by decide +kernel
theorem dX13_say_29 : decode cX13_say 29 = .ok (.getfield 412, 3) := by decide +kernel
theorem dX13_say_32 : decode cX13_say 32 = .ok (.iconst 1, 1) := by decide +kernel
theorem dX13_say_33 : decode cX13_say 33 = .ok (.iadd, 1) := by decide +kernel
theorem dX13_say_34 : decode cX13_say 34 = .ok (.putfield 412, 3) := by decide +kernel
theorem dX13_say_37 : decode cX13_say 37 = .ok (.iinc 4 1, 3) := by decide +kernel
theorem dX13_say_40 : decode cX13_say 40 = .ok (.goto (-37), 3) := by decide +kernel
theorem dX13_say_43 : decode cX13_say 43 = .ok (.return_, 1) := by decide +kernel
theorem dX13_digit_0 : decode cX13_digit 0 = .ok (.iload_n 3, 1) := by decide +kernel
theorem dX13_digit_1 : decode cX13_digit 1 = .ok (.iconst 1, 1) := by decide +kernel
theorem dX13_digit_2 : decode cX13_digit 2 = .ok (.isub, 1) := by decide +kernel
theorem dX13_digit_3 : decode cX13_digit 3 = .ok (.istore 4, 2) := by decide +kernel
theorem dX13_digit_5 : decode cX13_digit 5 = .ok (.iload 4, 2) := by decide +kernel
theorem dX13_digit_7 : decode cX13_digit 7 = .ok (.ifCond .lt 36, 3) := by decide +kernel
theorem dX13_digit_10 : decode cX13_digit 10 = .ok (.aload_n 0, 1) := by decide +kernel
theorem dX13_digit_11 : decode cX13_digit 11 = .ok (.getfield 108, 3) := by decide +kernel
theorem dX13_digit_14 : decode cX13_digit 14 = .ok (.aload_n 0, 1) := by decide +kernel
theorem dX13_digit_15 : decode cX13_digit 15 = .ok (.getfield 415, 3) := by decide +kernel
theorem dX13_digit_18 : decode cX13_digit 18 = .ok (.lload_n 1, 1) := by decide +kernel
theorem dX13_digit_19 : decode cX13_digit 19 = .ok (.iload 4, 2) := by decide +kernel
theorem dX13_digit_21 : decode cX13_digit 21 = .ok (.lushr, 1) := by decide +kernel
theorem dX13_digit_22 : decode cX13_digit 22 = .ok (.lconst 1, 1) := by decide +kernel
theorem dX13_digit_23 : decode cX13_digit 23 = .ok (.land, 1) := by decide +kernel
theorem dX13_digit_24 : decode cX13_digit 24 = .ok (.l2i, 1) := by decide +kernel
theorem dX13_digit_25 : decode cX13_digit 25 = .ok (.i2b, 1) := by decide +kernel
theorem dX13_digit_26 : decode cX13_digit 26 = .ok (.bastore, 1) := by decide +kernel
theorem dX13_digit_27 : decode cX13_digit 27 = .ok (.aload_n 0, 1) := by decide +kernel
theorem dX13_digit_28 : decode cX13_digit 28 = .ok (.dup, 1) := by decide +kernel
theorem dX13_digit_29 : decode cX13_digit 29 = .ok (.getfield 415, 3) := by decide +kernel
theorem dX13_digit_32 : decode cX13_digit 32 = .ok (.iconst 1, 1) := by decide +kernel
theorem dX13_digit_33 : decode cX13_digit 33 = .ok (.iadd, 1) := by decide +kernel
theorem dX13_digit_34 : decode cX13_digit 34 = .ok (.putfield 415, 3) := by decide +kernel
theorem dX13_digit_37 : decode cX13_digit 37 = .ok (.iinc 4 (-1), 3) := by decide +kernel
theorem dX13_digit_40 : decode cX13_digit 40 = .ok (.goto (-35), 3) := by decide +kernel
theorem dX13_digit_43 : decode cX13_digit 43 = .ok (.return_, 1) := by decide +kernel
theorem dX13_sayDigits_0 : decode cX13_sayDigits 0 = .ok (.aload_n 0, 1) := by decide +kernel
theorem dX13_sayDigits_1 : decode cX13_sayDigits 1 = .ok (.getfield 415, 3) := by decide +kernel
theorem dX13_sayDigits_4 : decode cX13_sayDigits 4 = .ok (.bipush 8, 2) := by decide +kernel
theorem dX13_sayDigits_6 : decode cX13_sayDigits 6 = .ok (.idiv, 1) := by decide +kernel
theorem dX13_sayDigits_7 : decode cX13_sayDigits 7 = .ok (.iconst 1, 1) := by decide +kernel
theorem dX13_sayDigits_8 : decode cX13_sayDigits 8 = .ok (.iadd, 1) := by decide +kernel
theorem dX13_sayDigits_9 : decode cX13_sayDigits 9 = .ok (.istore_n 1, 1) := by decide +kernel
theorem dX13_sayDigits_10 : decode cX13_sayDigits 10 = .ok (.iconst 0, 1) := by decide +kernel
theorem dX13_sayDigits_11 : decode cX13_sayDigits 11 = .ok (.istore_n 2, 1) := by decide +kernel
theorem dX13_sayDigits_12 : decode cX13_sayDigits 12 = .ok (.iload_n 2, 1) := by decide +kernel
theorem dX13_sayDigits_13 : decode cX13_sayDigits 13 = .ok (.iload_n 1, 1) := by decide +kernel
theorem dX13_sayDigits_14 : decode cX13_sayDigits 14 = .ok (.if_icmp .ge 92, 3) := by decide +kernel
theorem dX13_sayDigits_17 : decode cX13_sayDigits 17 = .ok (.iconst 0, 1) := by decide +kernel
theorem dX13_sayDigits_18 : decode cX13_sayDigits 18 = .ok (.istore_n 3, 1) := by decide +kernel
theorem dX13_sayDigits_19 : decode cX13_sayDigits 19 = .ok (.iconst 0, 1) := by decide +kernel
theorem dX13_sayDigits_20 : decode cX13_sayDigits 20 = .ok (.istore 4, 2) := by decide +kernel
theorem dX13_sayDigits_22 : decode cX13_sayDigits 22 = .ok (.iload 4, 2) := by decide +kernel
theorem dX13_sayDigits_24 : decode cX13_sayDigits 24 = .ok (.bipush 8, 2) := by decide +kernel
theorem dX13_sayDigits_26 : decode cX13_sayDigits 26 = .ok (.if_icmp .ge 67, 3) := by decide +kernel
theorem dX13_sayDigits_29 : decode cX13_sayDigits 29 = .ok (.bipush 8, 2) := by decide +kernel
theorem dX13_sayDigits_31 : decode cX13_sayDigits 31 = .ok (.iload_n 2, 1) := by decide +kernel
theorem dX13_sayDigits_32 : decode cX13_sayDigits 32 = .ok (.imul, 1) := by decide +kernel
theorem dX13_sayDigits_33 : decode cX13_sayDigits 33 = .ok (.iload 4, 2) := by decide +kernel
theorem dX13_sayDigits_35 : decode cX13_sayDigits 35 = .ok (.iadd, 1) := by decide +kernel
theorem dX13_sayDigits_36 : decode cX13_sayDigits 36 = .ok (.istore 5, 2) := by decide +kernel
theorem dX13_sayDigits_38 : decode cX13_sayDigits 38 = .ok (.iload_n 3, 1) := by decide +kernel
theorem dX13_sayDigits_39 : decode cX13_sayDigits 39 = .ok (.iload 5, 2) := by decide +kernel
theorem dX13_sayDigits_41 : decode cX13_sayDigits 41 = .ok (.aload_n 0, 1) := by decide +kernel
theorem dX13_sayDigits_42 : decode cX13_sayDigits 42 = .ok (.getfield 415, 3) := by decide +kernel
theorem dX13_sayDigits_45 : decode cX13_sayDigits 45 = .ok (.if_icmp .ge 23, 3) := by decide +kernel
theorem dX13_sayDigits_48 : decode cX13_sayDigits 48 = .ok (.aload_n 0, 1) := by decide +kernel
theorem dX13_sayDigits_49 : decode cX13_sayDigits 49 = .ok (.getfield 108, 3) := by decide +kernel
theorem dX13_sayDigits_52 : decode cX13_sayDigits 52 = .ok (.aload_n 0, 1) := by decide +kernel
theorem dX13_sayDigits_53 : decode cX13_sayDigits 53 = .ok (.getfield 415, 3) := by decide +kernel
theorem dX13_sayDigits_56 : decode cX13_sayDigits 56 = .ok (.iconst 1, 1) := by decide +kernel
theorem dX13_sayDigits_57 : decode cX13_sayDigits 57 = .ok (.isub, 1) := by decide +kernel
theorem dX13_sayDigits_58 : decode cX13_sayDigits 58 = .ok (.iload 5, 2) := by decide +kernel
theorem dX13_sayDigits_60 : decode cX13_sayDigits 60 = .ok (.isub, 1) := by decide +kernel
theorem dX13_sayDigits_61 : decode cX13_sayDigits 61 = .ok (.baload, 1) := by decide +kernel
theorem dX13_sayDigits_62 : decode cX13_sayDigits 62 = .ok (.iload 4, 2) := by decide +kernel
theorem dX13_sayDigits_64 : decode cX13_sayDigits 64 = .ok (.ishl, 1) := by decide +kernel
theorem dX13_sayDigits_65 : decode cX13_sayDigits 65 = .ok (.goto 20, 3) := by decide +kernel
theorem dX13_sayDigits_68 : decode cX13_sayDigits 68 = .ok (.iload 5, 2) := by decide +kernel
theorem dX13_sayDigits_70 : decode cX13_sayDigits 70 = .ok (.aload_n 0, 1) := by decide +kernel
theorem dX13_sayDigits_71 : decode cX13_sayDigits 71 = .ok (.getfield 415, 3) := by decide +kernel
theorem dX13_sayDigits_74 : decode cX13_sayDigits 74 = .ok (.if_icmp .ne 10, 3) := by decide +kernel
theorem dX13_sayDigits_77 : decode cX13_sayDigits 77 = .ok (.iconst 1, 1) := by decide +kernel
theorem dX13_sayDigits_78 : decode cX13_sayDigits 78 = .ok (.iload 4, 2) := by decide +kernel
theorem dX13_sayDigits_80 : decode cX13_sayDigits 80 = .ok (.ishl, 1) := by decide +kernel
theorem dX13_sayDigits_81 : decode cX13_sayDigits 81 = .ok (.goto 4, 3) := by decide +kernel
theorem dX13_sayDigits_84 : decode cX13_sayDigits 84 = .ok (.iconst 0, 1) := by decide +kernel
theorem dX13_sayDigits_85 : decode cX13_sayDigits 85 = .ok (.ior, 1) := by decide +kernel
theorem dX13_sayDigits_86 : decode cX13_sayDigits 86 = .ok (.istore_n 3, 1) := by decide +kernel
theorem dX13_sayDigits_87 : decode cX13_sayDigits 87 = .ok (.iinc 4 1, 3) := by decide +kernel
theorem dX13_sayDigits_90 : decode cX13_sayDigits 90 = .ok (.goto (-68), 3) := by decide +kernel
theorem dX13_sayDigits_93 : decode cX13_sayDigits 93 = .ok (.aload_n 0, 1) := by decide +kernel
theorem dX13_sayDigits_94 : decode cX13_sayDigits 94 = .ok (.iload_n 3, 1) := by decide +kernel
theorem dX13_sayDigits_95 : decode cX13_sayDigits 95 = .ok (.i2l, 1) := by decide +kernel
theorem dX13_sayDigits_96 : decode cX13_sayDigits 96 = .ok (.iconst 1, 1) := by decide +kernel
theorem dX13_sayDigits_97 : decode cX13_sayDigits 97 = .ok (.invokevirtual 418, 3) := by decide +kernel
theorem dX13_sayDigits_100 : decode cX13_sayDigits 100 = .ok (.iinc 2 1, 3) := by decide +kernel
theorem dX13_sayDigits_103 : decode cX13_sayDigits 103 = .ok (.goto (-91), 3) := by decide +kernel
theorem dX13_sayDigits_106 : decode cX13_sayDigits 106 = .ok (.aload_n 0, 1) := by decide +kernel
theorem dX13_sayDigits_107 : decode cX13_sayDigits 107 = .ok (.iconst 0, 1) := by decide +kernel
theorem dX13_sayDigits_108 : decode cX13_sayDigits 108 = .ok (.putfield 415, 3) := by decide +kernel
theorem dX13_sayDigits_111 : decode cX13_sayDigits 111 = .ok (.return_, 1) := by decide +kernel
theorem dX13_pack_0 : decode cX13_pack 0 = .ok (.iload_n 1, 1) := by decide +kernel
theorem dX13_pack_1 : decode cX13_pack 1 = .ok (.ifCond .lt 18, 3) := by decide +kernel
theorem dX13_pack_4 : decode cX13_pack 4 = .ok (.iload_n 1, 1) := by decide +kernel
theorem dX13_pack_5 : decode cX13_pack 5 = .ok (.iconst 2, 1) := by decide +kernel
theorem dX13_pack_6 : decode cX13_pack 6 = .ok (.if_icmp .gt 13, 3) := by decide +kernel
theorem dX13_pack_9 : decode cX13_pack 9 = .ok (.iload_n 2, 1) := by decide +kernel
theorem dX13_pack_10 : decode cX13_pack 10 = .ok (.ifCond .lt 9, 3) := by decide +kernel
theorem dX13_pack_13 : decode cX13_pack 13 = .ok (.iload_n 2, 1) := by decide +kernel
theorem dX13_pack_14 : decode cX13_pack 14 = .ok (.bipush 7, 2) := by decide +kernel
theorem dX13_pack_16 : decode cX13_pack 16 = .ok (.if_icmp .le 6, 3) := by decide +kernel
theorem dX13_pack_19 : decode cX13_pack 19 = .ok (.bipush (-2), 2) := by decide +kernel
theorem dX13_pack_21 : decode cX13_pack 21 = .ok (.ireturn, 1) := by decide +kernel
theorem dX13_pack_22 : decode cX13_pack 22 = .ok (.iload_n 2, 1) := by decide +kernel
theorem dX13_pack_23 : decode cX13_pack 23 = .ok (.iconst 4, 1) := by decide +kernel
theorem dX13_pack_24 : decode cX13_pack 24 = .ok (.iand, 1) := by decide +kernel
theorem dX13_pack_25 : decode cX13_pack 25 = .ok (.ifCond .le 13, 3) := by decide +kernel
theorem dX13_pack_28 : decode cX13_pack 28 = .ok (.aload_n 0, 1) := by decide +kernel
theorem dX13_pack_29 : decode cX13_pack 29 = .ok (.getfield 245, 3) := by decide +kernel
theorem dX13_pack_32 : decode cX13_pack 32 = .ok (.ifCond .ne 6, 3) := by decide +kernel
theorem dX13_pack_35 : decode cX13_pack 35 = .ok (.bipush (-3), 2) := by decide +kernel
theorem dX13_pack_37 : decode cX13_pack 37 = .ok (.ireturn, 1) := by decide +kernel
theorem dX13_pack_38 : decode cX13_pack 38 = .ok (.aload_n 0, 1) := by decide +kernel
theorem dX13_pack_39 : decode cX13_pack 39 = .ok (.getfield 150, 3) := by decide +kernel
theorem dX13_pack_42 : decode cX13_pack 42 = .ok (.sipush 6000, 3) := by decide +kernel
theorem dX13_pack_45 : decode cX13_pack 45 = .ok (.if_icmp .le 6, 3) := by decide +kernel
theorem dX13_pack_48 : decode cX13_pack 48 = .ok (.bipush (-4), 2) := by decide +kernel
theorem dX13_pack_50 : decode cX13_pack 50 = .ok (.ireturn, 1) := by decide +kernel
theorem dX13_pack_51 : decode cX13_pack 51 = .ok (.aload_n 0, 1) := by decide +kernel
theorem dX13_pack_52 : decode cX13_pack 52 = .ok (.iconst 0, 1) := by decide +kernel
theorem dX13_pack_53 : decode cX13_pack 53 = .ok (.putfield 412, 3) := by decide +kernel
theorem dX13_pack_56 : decode cX13_pack 56 = .ok (.aload_n 0, 1) := by decide +kernel
theorem dX13_pack_57 : decode cX13_pack 57 = .ok (.iconst 0, 1) := by decide +kernel
theorem dX13_pack_58 : decode cX13_pack 58 = .ok (.putfield 415, 3) := by decide +kernel
theorem dX13_pack_61 : decode cX13_pack 61 = .ok (.iload_n 2, 1) := by decide +kernel
theorem dX13_pack_62 : decode cX13_pack 62 = .ok (.iconst 4, 1) := by decide +kernel
theorem dX13_pack_63 : decode cX13_pack 63 = .ok (.iand, 1) := by decide +kernel
theorem dX13_pack_64 : decode cX13_pack 64 = .ok (.ifCond .le 7, 3) := by decide +kernel
theorem dX13_pack_67 : decode cX13_pack 67 = .ok (.iconst 1, 1) := by decide +kernel
theorem dX13_pack_68 : decode cX13_pack 68 = .ok (.goto 4, 3) := by decide +kernel
theorem dX13_pack_71 : decode cX13_pack 71 = .ok (.iconst 0, 1) := by decide +kernel
theorem dX13_pack_72 : decode cX13_pack 72 = .ok (.istore_n 3, 1) := by decide +kernel
theorem dX13_pack_73 : decode cX13_pack 73 = .ok (.iload_n 2, 1) := by decide +kernel
theorem dX13_pack_74 : decode cX13_pack 74 = .ok (.iconst 2, 1) := by decide +kernel
theorem dX13_pack_75 : decode cX13_pack 75 = .ok (.iand, 1) := by decide +kernel
theorem dX13_pack_76 : decode cX13_pack 76 = .ok (.ifCond .le 7, 3) := by decide +kernel
theorem dX13_pack_79 : decode cX13_pack 79 = .ok (.iconst 1, 1) := by decide +kernel
theorem dX13_pack_80 : decode cX13_pack 80 = .ok (.goto 4, 3) := by decide +kernel
theorem dX13_pack_83 : decode cX13_pack 83 = .ok (.iconst 0, 1) := by decide +kernel
theorem dX13_pack_84 : decode cX13_pack 84 = .ok (.istore 4, 2) := by decide +kernel
theorem dX13_pack_86 : decode cX13_pack 86 = .ok (.iload_n 3, 1) := by decide +kernel
theorem dX13_pack_87 : decode cX13_pack 87 = .ok (.ifCond .eq 15, 3) := by decide +kernel
theorem dX13_pack_90 : decode cX13_pack 90 = .ok (.aload_n 0, 1) := by decide +kernel
theorem dX13_pack_91 : decode cX13_pack 91 = .ok (.getfield 251, 3) := by decide +kernel
theorem dX13_pack_94 : decode cX13_pack 94 = .ok (.i2l, 1) := by decide +kernel
theorem dX13_pack_95 : decode cX13_pack 95 = .ok (.ldc2_w 337, 3) := by decide +kernel
theorem dX13_pack_98 : decode cX13_pack 98 = .ok (.land, 1) := by decide +kernel
theorem dX13_pack_99 : decode cX13_pack 99 = .ok (.goto 4, 3) := by decide +kernel
theorem dX13_pack_102 : decode cX13_pack 102 = .ok (.lconst 0, 1) := by decide +kernel
theorem dX13_pack_103 : decode cX13_pack 103 = .ok (.lstore 5, 2) := by decide +kernel
theorem dX13_pack_105 : decode cX13_pack 105 = .ok (.lload 5, 2) := by decide +kernel
theorem dX13_pack_107 : decode cX13_pack 107 = .ok (.lconst 0, 1) := by decide +kernel
theorem dX13_pack_108 : decode cX13_pack 108 = .ok (.lcmp, 1) := by decide +kernel
theorem dX13_pack_109 : decode cX13_pack 109 = .ok (.ifCond .ne 7, 3) := by decide +kernel
theorem dX13_pack_112 : decode cX13_pack 112 = .ok (.iconst 0, 1) := by decide +kernel
theorem dX13_pack_113 : decode cX13_pack 113 = .ok (.goto 30, 3) := by decide +kernel
theorem dX13_pack_116 : decode cX13_pack 116 = .ok (.lload 5, 2) := by decide +kernel
theorem dX13_pack_118 : decode cX13_pack 118 = .ok (.ldc2_w 319, 3) := by decide +kernel
theorem dX13_pack_121 : decode cX13_pack 121 = .ok (.lcmp, 1) := by decide +kernel
theorem dX13_pack_122 : decode cX13_pack 122 = .ok (.ifCond .ge 7, 3) := by decide +kernel
theorem dX13_pack_125 : decode cX13_pack 125 = .ok (.iconst 1, 1) := by decide +kernel
theorem dX13_pack_126 : decode cX13_pack 126 = .ok (.goto 17, 3) := by decide +kernel
theorem dX13_pack_129 : decode cX13_pack 129 = .ok (.lload 5, 2) := by decide +kernel
theorem dX13_pack_131 : decode cX13_pack 131 = .ok (.ldc2_w 422, 3) := by decide +kernel
theorem dX13_pack_134 : decode cX13_pack 134 = .ok (.lcmp, 1) := by decide +kernel
theorem dX13_pack_135 : decode cX13_pack 135 = .ok (.ifCond .ge 7, 3) := by decide +kernel
theorem dX13_pack_138 : decode cX13_pack 138 = .ok (.iconst 2, 1) := by decide +kernel
theorem dX13_pack_139 : decode cX13_pack 139 = .ok (.goto 4, 3) := by decide +kernel
theorem dX13_pack_142 : decode cX13_pack 142 = .ok (.iconst 3, 1) := by decide +kernel
theorem dX13_pack_143 : decode cX13_pack 143 = .ok (.istore 7, 2) := by decide +kernel
theorem dX13_pack_145 : decode cX13_pack 145 = .ok (.iload 4, 2) := by decide +kernel
theorem dX13_pack_147 : decode cX13_pack 147 = .ok (.ifCond .eq 17, 3) := by decide +kernel
theorem dX13_pack_150 : decode cX13_pack 150 = .ok (.aload_n 0, 1) := by decide +kernel
theorem dX13_pack_151 : decode cX13_pack 151 = .ok (.getfield 150, 3) := by decide +kernel
theorem dX13_pack_154 : decode cX13_pack 154 = .ok (.sipush 255, 3) := by decide +kernel
theorem dX13_pack_157 : decode cX13_pack 157 = .ok (.if_icmp .le 7, 3) := by decide +kernel
theorem dX13_pack_160 : decode cX13_pack 160 = .ok (.iconst 1, 1) := by decide +kernel
theorem dX13_pack_161 : decode cX13_pack 161 = .ok (.goto 4, 3) := by decide +kernel
theorem dX13_pack_164 : decode cX13_pack 164 = .ok (.iconst 0, 1) := by decide +kernel
theorem dX13_pack_165 : decode cX13_pack 165 = .ok (.istore 8, 2) := by decide +kernel
theorem dX13_pack_167 : decode cX13_pack 167 = .ok (.aload_n 0, 1) := by decide +kernel
theorem dX13_pack_168 : decode cX13_pack 168 = .ok (.ldc2_w 304, 3) := by decide +kernel
theorem dX13_pack_171 : decode cX13_pack 171 = .ok (.iconst 4, 1) := by decide +kernel
theorem dX13_pack_172 : decode cX13_pack 172 = .ok (.invokevirtual 418, 3) := by decide +kernel
theorem dX13_pack_175 : decode cX13_pack 175 = .ok (.aload_n 0, 1) := by decide +kernel
theorem dX13_pack_176 : decode cX13_pack 176 = .ok (.iload 8, 2) := by decide +kernel
theorem dX13_pack_178 : decode cX13_pack 178 = .ok (.ifCond .eq 8, 3) := by decide +kernel
theorem dX13_pack_181 : decode cX13_pack 181 = .ok (.bipush 64, 2) := by decide +kernel
theorem dX13_pack_183 : decode cX13_pack 183 = .ok (.goto 4, 3) := by decide +kernel
theorem dX13_pack_186 : decode cX13_pack 186 = .ok (.iconst 0, 1) := by decide +kernel
theorem dX13_pack_187 : decode cX13_pack 187 = .ok (.iload 4, 2) := by decide +kernel
theorem dX13_pack_189 : decode cX13_pack 189 = .ok (.ifCond .eq 8, 3) := by decide +kernel
theorem dX13_pack_192 : decode cX13_pack 192 = .ok (.bipush 32, 2) := by decide +kernel
theorem dX13_pack_194 : decode cX13_pack 194 = .ok (.goto 4, 3) := by decide +kernel
theorem dX13_pack_197 : decode cX13_pack 197 = .ok (.iconst 0, 1) := by decide +kernel
theorem dX13_pack_198 : decode cX13_pack 198 = .ok (.iadd, 1) := by decide +kernel
theorem dX13_pack_199 : decode cX13_pack 199 = .ok (.iload_n 2, 1) := by decide +kernel
theorem dX13_pack_200 : decode cX13_pack 200 = .ok (.iconst 1, 1) := by decide +kernel
theorem dX13_pack_201 : decode cX13_pack 201 = .ok (.iand, 1) := by decide +kernel
theorem dX13_pack_202 : decode cX13_pack 202 = .ok (.ifCond .le 7, 3) := by decide +kernel
theorem dX13_pack_205 : decode cX13_pack 205 = .ok (.iconst 4, 1) := by decide +kernel
theorem dX13_pack_206 : decode cX13_pack 206 = .ok (.goto 4, 3) := by decide +kernel
theorem dX13_pack_209 : decode cX13_pack 209 = .ok (.iconst 0, 1) := by decide +kernel
theorem dX13_pack_210 : decode cX13_pack 210 = .ok (.iadd, 1) := by decide +kernel
theorem dX13_pack_211 : decode cX13_pack 211 = .ok (.iload 7, 2) := by decide +kernel
theorem dX13_pack_213 : decode cX13_pack 213 = .ok (.iadd, 1) := by decide +kernel
theorem dX13_pack_214 : decode cX13_pack 214 = .ok (.i2l, 1) := by decide +kernel
theorem dX13_pack_215 : decode cX13_pack 215 = .ok (.iconst 1, 1) := by decide +kernel
theorem dX13_pack_216 : decode cX13_pack 216 = .ok (.invokevirtual 418, 3) := by decide +kernel
theorem dX13_pack_219 : decode cX13_pack 219 = .ok (.iload 4, 2) := by decide +kernel
theorem dX13_pack_221 : decode cX13_pack 221 = .ok (.ifCond .ne 37, 3) := by decide +kernel
theorem dX13_pack_224 : decode cX13_pack 224 = .ok (.iconst 0, 1) := by decide +kernel
theorem dX13_pack_225 : decode cX13_pack 225 = .ok (.istore 9, 2) := by decide +kernel
theorem dX13_pack_227 : decode cX13_pack 227 = .ok (.iconst 1, 1) := by decide +kernel
theorem dX13_pack_228 : decode cX13_pack 228 = .ok (.bipush 10, 2) := by decide +kernel
theorem dX13_pack_230 : decode cX13_pack 230 = .ok (.iload 9, 2) := by decide +kernel
theorem dX13_pack_232 : decode cX13_pack 232 = .ok (.iadd, 1) := by decide +kernel
theorem dX13_pack_233 : decode cX13_pack 233 = .ok (.ishl, 1) := by decide +kernel
theorem dX13_pack_234 : decode cX13_pack 234 = .ok (.aload_n 0, 1) := by decide +kernel
theorem dX13_pack_235 : decode cX13_pack 235 = .ok (.getfield 150, 3) := by decide +kernel
theorem dX13_pack_238 : decode cX13_pack 238 = .ok (.if_icmp .ge 9, 3) := by decide +kernel
theorem dX13_pack_241 : decode cX13_pack 241 = .ok (.iinc 9 1, 3) := by decide +kernel
theorem dX13_pack_244 : decode cX13_pack 244 = .ok (.goto (-17), 3) := by decide +kernel
theorem dX13_pack_247 : decode cX13_pack 247 = .ok (.aload_n 0, 1) := by decide +kernel
theorem dX13_pack_248 : decode cX13_pack 248 = .ok (.bipush 8, 2) := by decide +kernel
theorem dX13_pack_250 : decode cX13_pack 250 = .ok (.iload 9, 2) := by decide +kernel
theorem dX13_pack_252 : decode cX13_pack 252 = .ok (.imul, 1) := by decide +kernel
theorem dX13_pack_253 : decode cX13_pack 253 = .ok (.i2l, 1) := by decide +kernel
theorem dX13_pack_254 : decode cX13_pack 254 = .ok (.iconst 1, 1) := by decide +kernel
theorem dX13_pack_255 : decode cX13_pack 255 = .ok (.invokevirtual 418, 3) := by decide +kernel
theorem dX13_pack_258 : decode cX13_pack 258 = .ok (.aload_n 0, 1) := by decide +kernel
theorem dX13_pack_259 : decode cX13_pack 259 = .ok (.lload 5, 2) := by decide +kernel
theorem dX13_pack_261 : decode cX13_pack 261 = .ok (.iload 7, 2) := by decide +kernel
theorem dX13_pack_263 : decode cX13_pack 263 = .ok (.iconst 3, 1) := by decide +kernel
theorem dX13_pack_264 : decode cX13_pack 264 = .ok (.if_icmp .ne 7, 3) := by decide +kernel
theorem dX13_pack_267 : decode cX13_pack 267 = .ok (.iconst 4, 1) := by decide +kernel
theorem dX13_pack_268 : decode cX13_pack 268 = .ok (.goto 5, 3) := by decide +kernel
theorem dX13_pack_271 : decode cX13_pack 271 = .ok (.iload 7, 2) := by decide +kernel
theorem dX13_pack_273 : decode cX13_pack 273 = .ok (.invokevirtual 418, 3) := by decide +kernel
theorem dX13_pack_276 : decode cX13_pack 276 = .ok (.iload 4, 2) := by decide +kernel
theorem dX13_pack_278 : decode cX13_pack 278 = .ok (.ifCond .eq 39, 3) := by decide +kernel
theorem dX13_pack_281 : decode cX13_pack 281 = .ok (.aload_n 0, 1) := by decide +kernel
theorem dX13_pack_282 : decode cX13_pack 282 = .ok (.iload 8, 2) := by decide +kernel
theorem dX13_pack_284 : decode cX13_pack 284 = .ok (.ifCond .eq 15, 3) := by decide +kernel
theorem dX13_pack_287 : decode cX13_pack 287 = .ok (.aload_n 0, 1) := by decide +kernel
theorem dX13_pack_288 : decode cX13_pack 288 = .ok (.getfield 150, 3) := by decide +kernel
theorem dX13_pack_291 : decode cX13_pack 291 = .ok (.sipush 256, 3) := by decide +kernel
theorem dX13_pack_294 : decode cX13_pack 294 = .ok (.isub, 1) := by decide +kernel
theorem dX13_pack_295 : decode cX13_pack 295 = .ok (.i2l, 1) := by decide +kernel
theorem dX13_pack_296 : decode cX13_pack 296 = .ok (.goto 8, 3) := by decide +kernel
theorem dX13_pack_299 : decode cX13_pack 299 = .ok (.aload_n 0, 1) := by decide +kernel
theorem dX13_pack_300 : decode cX13_pack 300 = .ok (.getfield 150, 3) := by decide +kernel
theorem dX13_pack_303 : decode cX13_pack 303 = .ok (.i2l, 1) := by decide +kernel
theorem dX13_pack_304 : decode cX13_pack 304 = .ok (.iload 8, 2) := by decide +kernel
theorem dX13_pack_306 : decode cX13_pack 306 = .ok (.ifCond .eq 7, 3) := by decide +kernel
theorem dX13_pack_309 : decode cX13_pack 309 = .ok (.iconst 2, 1) := by decide +kernel
theorem dX13_pack_310 : decode cX13_pack 310 = .ok (.goto 4, 3) := by decide +kernel
theorem dX13_pack_313 : decode cX13_pack 313 = .ok (.iconst 1, 1) := by decide +kernel
theorem dX13_pack_314 : decode cX13_pack 314 = .ok (.invokevirtual 418, 3) := by decide +kernel
theorem dX13_pack_317 : decode cX13_pack 317 = .ok (.aload_n 0, 1) := by decide +kernel
theorem dX13_pack_318 : decode cX13_pack 318 = .ok (.iload_n 3, 1) := by decide +kernel
theorem dX13_pack_319 : decode cX13_pack 319 = .ok (.ifCond .eq 10, 3) := by decide +kernel
theorem dX13_pack_322 : decode cX13_pack 322 = .ok (.aload_n 0, 1) := by decide +kernel
theorem dX13_pack_323 : decode cX13_pack 323 = .ok (.getfield 273, 3) := by decide +kernel
theorem dX13_pack_326 : decode cX13_pack 326 = .ok (.goto 4, 3) := by decide +kernel
theorem dX13_pack_329 : decode cX13_pack 329 = .ok (.iconst 0, 1) := by decide +kernel
theorem dX13_pack_330 : decode cX13_pack 330 = .ok (.putfield 424, 3) := by decide +kernel
theorem dX13_pack_333 : decode cX13_pack 333 = .ok (.iconst 0, 1) := by decide +kernel
theorem dX13_pack_334 : decode cX13_pack 334 = .ok (.istore 9, 2) := by decide +kernel
theorem dX13_pack_336 : decode cX13_pack 336 = .ok (.iload 9, 2) := by decide +kernel
theorem dX13_pack_338 : decode cX13_pack 338 = .ok (.aload_n 0, 1) := by decide +kernel
theorem dX13_pack_339 : decode cX13_pack 339 = .ok (.getfield 424, 3) := by decide +kernel
theorem dX13_pack_342 : decode cX13_pack 342 = .ok (.if_icmp .ge 23, 3) := by decide +kernel
theorem dX13_pack_345 : decode cX13_pack 345 = .ok (.aload_n 0, 1) := by decide +kernel
theorem dX13_pack_346 : decode cX13_pack 346 = .ok (.getfield 111, 3) := by decide +kernel
theorem dX13_pack_349 : decode cX13_pack 349 = .ok (.iload 9, 2) := by decide +kernel
theorem dX13_pack_351 : decode cX13_pack 351 = .ok (.aload_n 0, 1) := by decide +kernel
theorem dX13_pack_352 : decode cX13_pack 352 = .ok (.getfield 62, 3) := by decide +kernel
theorem dX13_pack_355 : decode cX13_pack 355 = .ok (.iload 9, 2) := by decide +kernel
theorem dX13_pack_357 : decode cX13_pack 357 = .ok (.baload, 1) := by decide +kernel
theorem dX13_pack_358 : decode cX13_pack 358 = .ok (.bastore, 1) := by decide +kernel
theorem dX13_pack_359 : decode cX13_pack 359 = .ok (.iinc 9 1, 3) := by decide +kernel
theorem dX13_pack_362 : decode cX13_pack 362 = .ok (.goto (-26), 3) := by decide +kernel
theorem dX13_pack_365 : decode cX13_pack 365 = .ok (.iconst 0, 1) := by decide +kernel
theorem dX13_pack_366 : decode cX13_pack 366 = .ok (.istore 9, 2) := by decide +kernel
theorem dX13_pack_368 : decode cX13_pack 368 = .ok (.iload 9, 2) := by decide +kernel
theorem dX13_pack_370 : decode cX13_pack 370 = .ok (.aload_n 0, 1) := by decide +kernel
theorem dX13_pack_371 : decode cX13_pack 371 = .ok (.getfield 150, 3) := by decide +kernel
theorem dX13_pack_374 : decode cX13_pack 374 = .ok (.if_icmp .ge 28, 3) := by decide +kernel
theorem dX13_pack_377 : decode cX13_pack 377 = .ok (.aload_n 0, 1) := by decide +kernel
theorem dX13_pack_378 : decode cX13_pack 378 = .ok (.getfield 111, 3) := by decide +kernel
theorem dX13_pack_381 : decode cX13_pack 381 = .ok (.aload_n 0, 1) := by decide +kernel
theorem dX13_pack_382 : decode cX13_pack 382 = .ok (.getfield 424, 3) := by decide +kernel
theorem dX13_pack_385 : decode cX13_pack 385 = .ok (.iload 9, 2) := by decide +kernel
theorem dX13_pack_387 : decode cX13_pack 387 = .ok (.iadd, 1) := by decide +kernel
theorem dX13_pack_388 : decode cX13_pack 388 = .ok (.aload_n 0, 1) := by decide +kernel
theorem dX13_pack_389 : decode cX13_pack 389 = .ok (.getfield 7, 3) := by decide +kernel
theorem dX13_pack_392 : decode cX13_pack 392 = .ok (.iload 9, 2) := by decide +kernel
theorem dX13_pack_394 : decode cX13_pack 394 = .ok (.baload, 1) := by decide +kernel
theorem dX13_pack_395 : decode cX13_pack 395 = .ok (.bastore, 1) := by decide +kernel
theorem dX13_pack_396 : decode cX13_pack 396 = .ok (.iinc 9 1, 3) := by decide +kernel
theorem dX13_pack_399 : decode cX13_pack 399 = .ok (.goto (-31), 3) := by decide +kernel
theorem dX13_pack_402 : decode cX13_pack 402 = .ok (.iconst 0, 1) := by decide +kernel
theorem dX13_pack_403 : decode cX13_pack 403 = .ok (.istore 9, 2) := by decide +kernel
theorem dX13_pack_405 : decode cX13_pack 405 = .ok (.iload 9, 2) := by decide +kernel
theorem dX13_pack_407 : decode cX13_pack 407 = .ok (.iconst 3, 1) := by decide +kernel
theorem dX13_pack_408 : decode cX13_pack 408 = .ok (.if_icmp .ge 58, 3) := by decide +kernel
theorem dX13_pack_411 : decode cX13_pack 411 = .ok (.aload_n 0, 1) := by decide +kernel
theorem dX13_pack_412 : decode cX13_pack 412 = .ok (.getfield 114, 3) := by decide +kernel
theorem dX13_pack_415 : decode cX13_pack 415 = .ok (.iload 9, 2) := by decide +kernel
theorem dX13_pack_417 : decode cX13_pack 417 = .ok (.iload_n 3, 1) := by decide +kernel
theorem dX13_pack_418 : decode cX13_pack 418 = .ok (.ifCond .eq 25, 3) := by decide +kernel
theorem dX13_pack_421 : decode cX13_pack 421 = .ok (.aload_n 0, 1) := by decide +kernel
theorem dX13_pack_422 : decode cX13_pack 422 = .ok (.getfield 248, 3) := by decide +kernel
theorem dX13_pack_425 : decode cX13_pack 425 = .ok (.ifCond .eq 18, 3) := by decide +kernel
theorem dX13_pack_428 : decode cX13_pack 428 = .ok (.aload_n 0, 1) := by decide +kernel
theorem dX13_pack_429 : decode cX13_pack 429 = .ok (.getfield 65, 3) := by decide +kernel
theorem dX13_pack_432 : decode cX13_pack 432 = .ok (.iload 9, 2) := by decide +kernel
theorem dX13_pack_434 : decode cX13_pack 434 = .ok (.iaload, 1) := by decide +kernel
theorem dX13_pack_435 : decode cX13_pack 435 = .ok (.i2l, 1) := by decide +kernel
theorem dX13_pack_436 : decode cX13_pack 436 = .ok (.ldc2_w 337, 3) := by decide +kernel
theorem dX13_pack_439 : decode cX13_pack 439 = .ok (.land, 1) := by decide +kernel
theorem dX13_pack_440 : decode cX13_pack 440 = .ok (.goto 19, 3) := by decide +kernel
theorem dX13_pack_443 : decode cX13_pack 443 = .ok (.iload 9, 2) := by decide +kernel
theorem dX13_pack_445 : decode cX13_pack 445 = .ok (.ifCond .ne 7, 3) := by decide +kernel
theorem dX13_pack_448 : decode cX13_pack 448 = .ok (.lconst 1, 1) := by decide +kernel
theorem dX13_pack_449 : decode cX13_pack 449 = .ok (.goto 10, 3) := by decide +kernel
theorem dX13_pack_452 : decode cX13_pack 452 = .ok (.ldc2_w 342, 3) := by decide +kernel
theorem dX13_pack_455 : decode cX13_pack 455 = .ok (.iload 9, 2) := by decide +kernel
theorem dX13_pack_457 : decode cX13_pack 457 = .ok (.i2l, 1) := by decide +kernel
theorem dX13_pack_458 : decode cX13_pack 458 = .ok (.lmul, 1) := by decide +kernel
theorem dX13_pack_459 : decode cX13_pack 459 = .ok (.lastore, 1) := by decide +kernel
theorem dX13_pack_460 : decode cX13_pack 460 = .ok (.iinc 9 1, 3) := by decide +kernel
theorem dX13_pack_463 : decode cX13_pack 463 = .ok (.goto (-58), 3) := by decide +kernel
theorem dX13_pack_466 : decode cX13_pack 466 = .ok (.iconst 0, 1) := by decide +kernel
theorem dX13_pack_467 : decode cX13_pack 467 = .ok (.istore 9, 2) := by decide +kernel
theorem dX13_pack_469 : decode cX13_pack 469 = .ok (.iload 9, 2) := by decide +kernel
theorem dX13_pack_471 : decode cX13_pack 471 = .ok (.sipush 2048, 3) := by decide +kernel
theorem dX13_pack_474 : decode cX13_pack 474 = .ok (.iadd, 1) := by decide +kernel
theorem dX13_pack_475 : decode cX13_pack 475 = .ok (.aload_n 0, 1) := by decide +kernel
theorem dX13_pack_476 : decode cX13_pack 476 = .ok (.getfield 150, 3) := by decide +kernel
theorem dX13_pack_479 : decode cX13_pack 479 = .ok (.if_icmp .ge 12, 3) := by decide +kernel
theorem dX13_pack_482 : decode cX13_pack 482 = .ok (.iload 9, 2) := by decide +kernel
theorem dX13_pack_484 : decode cX13_pack 484 = .ok (.sipush 2048, 3) := by decide +kernel
theorem dX13_pack_487 : decode cX13_pack 487 = .ok (.iadd, 1) := by decide +kernel
theorem dX13_pack_488 : decode cX13_pack 488 = .ok (.goto 7, 3) := by decide +kernel
theorem dX13_pack_491 : decode cX13_pack 491 = .ok (.aload_n 0, 1) := by decide +kernel
theorem dX13_pack_492 : decode cX13_pack 492 = .ok (.getfield 150, 3) := by decide +kernel
theorem dX13_pack_495 : decode cX13_pack 495 = .ok (.istore 10, 2) := by decide +kernel
theorem dX13_pack_497 : decode cX13_pack 497 = .ok (.aload_n 0, 1) := by decide +kernel
theorem dX13_pack_498 : decode cX13_pack 498 = .ok (.iload_n 1, 1) := by decide +kernel
theorem dX13_pack_499 : decode cX13_pack 499 = .ok (.iload 9, 2) := by decide +kernel
theorem dX13_pack_501 : decode cX13_pack 501 = .ok (.iload 10, 2) := by decide +kernel
theorem dX13_pack_503 : decode cX13_pack 503 = .ok (.invokevirtual 427, 3) := by decide +kernel
theorem dX13_pack_506 : decode cX13_pack 506 = .ok (.iload 10, 2) := by decide +kernel
theorem dX13_pack_508 : decode cX13_pack 508 = .ok (.istore 9, 2) := by decide +kernel
theorem dX13_pack_510 : decode cX13_pack 510 = .ok (.iload 9, 2) := by decide +kernel
theorem dX13_pack_512 : decode cX13_pack 512 = .ok (.aload_n 0, 1) := by decide +kernel
theorem dX13_pack_513 : decode cX13_pack 513 = .ok (.getfield 150, 3) := by decide +kernel
theorem dX13_pack_516 : decode cX13_pack 516 = .ok (.if_icmp .lt (-47), 3) := by decide +kernel
theorem dX13_pack_519 : decode cX13_pack 519 = .ok (.iload_n 2, 1) := by decide +kernel
theorem dX13_pack_520 : decode cX13_pack 520 = .ok (.iconst 1, 1) := by decide +kernel
theorem dX13_pack_521 : decode cX13_pack 521 = .ok (.iand, 1) := by decide +kernel
theorem dX13_pack_522 : decode cX13_pack 522 = .ok (.ifCond .le 20, 3) := by decide +kernel
theorem dX13_pack_525 : decode cX13_pack 525 = .ok (.aload_n 0, 1) := by decide +kernel
theorem dX13_pack_526 : decode cX13_pack 526 = .ok (.aload_n 0, 1) := by decide +kernel
theorem dX13_pack_527 : decode cX13_pack 527 = .ok (.getfield 7, 3) := by decide +kernel
theorem dX13_pack_530 : decode cX13_pack 530 = .ok (.iconst 0, 1) := by decide +kernel
theorem dX13_pack_531 : decode cX13_pack 531 = .ok (.aload_n 0, 1) := by decide +kernel
theorem dX13_pack_532 : decode cX13_pack 532 = .ok (.getfield 150, 3) := by decide +kernel
theorem dX13_pack_535 : decode cX13_pack 535 = .ok (.invokestatic 187, 3) := by decide +kernel
theorem dX13_pack_538 : decode cX13_pack 538 = .ok (.iconst 4, 1) := by decide +kernel
theorem dX13_pack_539 : decode cX13_pack 539 = .ok (.invokevirtual 418, 3) := by decide +kernel
theorem dX13_pack_542 : decode cX13_pack 542 = .ok (.iconst 0, 1) := by decide +kernel
theorem dX13_pack_543 : decode cX13_pack 543 = .ok (.istore 10, 2) := by decide +kernel
theorem dX13_pack_545 : decode cX13_pack 545 = .ok (.iload 10, 2) := by decide +kernel
theorem dX13_pack_547 : decode cX13_pack 547 = .ok (.aload_n 0, 1) := by decide +kernel
theorem dX13_pack_548 : decode cX13_pack 548 = .ok (.getfield 412, 3) := by decide +kernel
theorem dX13_pack_551 : decode cX13_pack 551 = .ok (.if_icmp .ge 23, 3) := by decide +kernel
theorem dX13_pack_554 : decode cX13_pack 554 = .ok (.aload_n 0, 1) := by decide +kernel
theorem dX13_pack_555 : decode cX13_pack 555 = .ok (.getfield 13, 3) := by decide +kernel
theorem dX13_pack_558 : decode cX13_pack 558 = .ok (.iload 10, 2) := by decide +kernel
theorem dX13_pack_560 : decode cX13_pack 560 = .ok (.aload_n 0, 1) := by decide +kernel
theorem dX13_pack_561 : decode cX13_pack 561 = .ok (.getfield 104, 3) := by decide +kernel
theorem dX13_pack_564 : decode cX13_pack 564 = .ok (.iload 10, 2) := by decide +kernel
theorem dX13_pack_566 : decode cX13_pack 566 = .ok (.baload, 1) := by decide +kernel
theorem dX13_pack_567 : decode cX13_pack 567 = .ok (.bastore, 1) := by decide +kernel
theorem dX13_pack_568 : decode cX13_pack 568 = .ok (.iinc 10 1, 3) := by decide +kernel
theorem dX13_pack_571 : decode cX13_pack 571 = .ok (.goto (-26), 3) := by decide +kernel
theorem dX13_pack_574 : decode cX13_pack 574 = .ok (.aload_n 0, 1) := by decide +kernel
theorem dX13_pack_575 : decode cX13_pack 575 = .ok (.aload_n 0, 1) := by decide +kernel
theorem dX13_pack_576 : decode cX13_pack 576 = .ok (.getfield 412, 3) := by decide +kernel
theorem dX13_pack_579 : decode cX13_pack 579 = .ok (.putfield 155, 3) := by decide +kernel
theorem dX13_pack_582 : decode cX13_pack 582 = .ok (.aload_n 0, 1) := by decide +kernel
theorem dX13_pack_583 : decode cX13_pack 583 = .ok (.getfield 155, 3) := by decide +kernel
theorem dX13_pack_586 : decode cX13_pack 586 = .ok (.ireturn, 1) := by decide +kernel
theorem dX13_areSame_0 : decode cX13_areSame 0 = .ok (.iload_n 2, 1) := by decide +kernel
theorem dX13_areSame_1 : decode cX13_areSame 1 = .ok (.iconst 1, 1) := by decide +kernel
theorem dX13_areSame_2 : decode cX13_areSame 2 = .ok (.iadd, 1) := by decide +kernel
theorem dX13_areSame_3 : decode cX13_areSame 3 = .ok (.istore 4, 2) := by decide +kernel
theorem dX13_areSame_5 : decode cX13_areSame 5 = .ok (.iload 4, 2) := by decide +kernel
theorem dX13_areSame_7 : decode cX13_areSame 7 = .ok (.iload_n 3, 1) := by decide +kernel
theorem dX13_areSame_8 : decode cX13_areSame 8 = .ok (.if_icmp .ge 21, 3) := by decide +kernel
theorem dX13_areSame_11 : decode cX13_areSame 11 = .ok (.aload_n 1, 1) := by decide +kernel
theorem dX13_areSame_12 : decode cX13_areSame 12 = .ok (.iload 4, 2) := by decide +kernel
theorem dX13_areSame_14 : decode cX13_areSame 14 = .ok (.baload, 1) := by decide +kernel
theorem dX13_areSame_15 : decode cX13_areSame 15 = .ok (.aload_n 1, 1) := by decide +kernel
theorem dX13_areSame_16 : decode cX13_areSame 16 = .ok (.iload_n 2, 1) := by decide +kernel
theorem dX13_areSame_17 : decode cX13_areSame 17 = .ok (.baload, 1) := by decide +kernel
theorem dX13_areSame_18 : decode cX13_areSame 18 = .ok (.if_icmp .eq 5, 3) := by decide +kernel
theorem dX13_areSame_21 : decode cX13_areSame 21 = .ok (.iconst 0, 1) := by decide +kernel
theorem dX13_areSame_22 : decode cX13_areSame 22 = .ok (.ireturn, 1) := by decide +kernel
theorem dX13_areSame_23 : decode cX13_areSame 23 = .ok (.iinc 4 1, 3) := by decide +kernel
theorem dX13_areSame_26 : decode cX13_areSame 26 = .ok (.goto (-21), 3) := by decide +kernel
theorem dX13_areSame_29 : decode cX13_areSame 29 = .ok (.iload_n 3, 1) := by decide +kernel
theorem dX13_areSame_30 : decode cX13_areSame 30 = .ok (.iload_n 2, 1) := by decide +kernel
theorem dX13_areSame_31 : decode cX13_areSame 31 = .ok (.if_icmp .le 7, 3) := by decide +kernel
theorem dX13_areSame_34 : decode cX13_areSame 34 = .ok (.iconst 1, 1) := by decide +kernel
theorem dX13_areSame_35 : decode cX13_areSame 35 = .ok (.goto 4, 3) := by decide +kernel
theorem dX13_areSame_38 : decode cX13_areSame 38 = .ok (.iconst 0, 1) := by decide +kernel
theorem dX13_areSame_39 : decode cX13_areSame 39 = .ok (.ireturn, 1) := by decide +kernel
theorem dX13_sayBlock_0 : decode cX13_sayBlock 0 = .ok (.iload_n 3, 1) := by decide +kernel
theorem dX13_sayBlock_1 : decode cX13_sayBlock 1 = .ok (.aload_n 0, 1) := by decide +kernel
theorem dX13_sayBlock_2 : decode cX13_sayBlock 2 = .ok (.getfield 150, 3) := by decide +kernel
theorem dX13_sayBlock_5 : decode cX13_sayBlock 5 = .ok (.if_icmp .ne 7, 3) := by decide +kernel
theorem dX13_sayBlock_8 : decode cX13_sayBlock 8 = .ok (.iconst 1, 1) := by decide +kernel
theorem dX13_sayBlock_9 : decode cX13_sayBlock 9 = .ok (.goto 4, 3) := by decide +kernel
theorem dX13_sayBlock_12 : decode cX13_sayBlock 12 = .ok (.iconst 0, 1) := by decide +kernel
theorem dX13_sayBlock_13 : decode cX13_sayBlock 13 = .ok (.istore 4, 2) := by decide +kernel
theorem dX13_sayBlock_15 : decode cX13_sayBlock 15 = .ok (.iload_n 3, 1) := by decide +kernel
theorem dX13_sayBlock_16 : decode cX13_sayBlock 16 = .ok (.iload_n 2, 1) := by decide +kernel
theorem dX13_sayBlock_17 : decode cX13_sayBlock 17 = .ok (.isub, 1) := by decide +kernel
theorem dX13_sayBlock_18 : decode cX13_sayBlock 18 = .ok (.istore 5, 2) := by decide +kernel
theorem dX13_sayBlock_20 : decode cX13_sayBlock 20 = .ok (.iload_n 1, 1) := by decide +kernel
theorem dX13_sayBlock_21 : decode cX13_sayBlock 21 = .ok (.ifCond .le 45, 3) := by decide +kernel
theorem dX13_sayBlock_24 : decode cX13_sayBlock 24 = .ok (.aload_n 0, 1) := by decide +kernel
theorem dX13_sayBlock_25 : decode cX13_sayBlock 25 = .ok (.aload_n 0, 1) := by decide +kernel
theorem dX13_sayBlock_26 : decode cX13_sayBlock 26 = .ok (.getfield 7, 3) := by decide +kernel
theorem dX13_sayBlock_29 : decode cX13_sayBlock 29 = .ok (.iload_n 2, 1) := by decide +kernel
theorem dX13_sayBlock_30 : decode cX13_sayBlock 30 = .ok (.iload_n 3, 1) := by decide +kernel
theorem dX13_sayBlock_31 : decode cX13_sayBlock 31 = .ok (.invokevirtual 430, 3) := by decide +kernel
theorem dX13_sayBlock_34 : decode cX13_sayBlock 34 = .ok (.ifCond .eq 32, 3) := by decide +kernel
theorem dX13_sayBlock_37 : decode cX13_sayBlock 37 = .ok (.aload_n 0, 1) := by decide +kernel
theorem dX13_sayBlock_38 : decode cX13_sayBlock 38 = .ok (.iload 4, 2) := by decide +kernel
theorem dX13_sayBlock_40 : decode cX13_sayBlock 40 = .ok (.iconst 2, 1) := by decide +kernel
theorem dX13_sayBlock_41 : decode cX13_sayBlock 41 = .ok (.iadd, 1) := by decide +kernel
theorem dX13_sayBlock_42 : decode cX13_sayBlock 42 = .ok (.bipush 8, 2) := by decide +kernel
theorem dX13_sayBlock_44 : decode cX13_sayBlock 44 = .ok (.iload 5, 2) := by decide +kernel
theorem dX13_sayBlock_46 : decode cX13_sayBlock 46 = .ok (.imul, 1) := by decide +kernel
theorem dX13_sayBlock_47 : decode cX13_sayBlock 47 = .ok (.iadd, 1) := by decide +kernel
theorem dX13_sayBlock_48 : decode cX13_sayBlock 48 = .ok (.i2l, 1) := by decide +kernel
theorem dX13_sayBlock_49 : decode cX13_sayBlock 49 = .ok (.iconst 3, 1) := by decide +kernel
theorem dX13_sayBlock_50 : decode cX13_sayBlock 50 = .ok (.invokevirtual 418, 3) := by decide +kernel
theorem dX13_sayBlock_53 : decode cX13_sayBlock 53 = .ok (.aload_n 0, 1) := by decide +kernel
theorem dX13_sayBlock_54 : decode cX13_sayBlock 54 = .ok (.aload_n 0, 1) := by decide +kernel
theorem dX13_sayBlock_55 : decode cX13_sayBlock 55 = .ok (.getfield 7, 3) := by decide +kernel
theorem dX13_sayBlock_58 : decode cX13_sayBlock 58 = .ok (.iload_n 2, 1) := by decide +kernel
theorem dX13_sayBlock_59 : decode cX13_sayBlock 59 = .ok (.baload, 1) := by decide +kernel
theorem dX13_sayBlock_60 : decode cX13_sayBlock 60 = .ok (.i2l, 1) := by decide +kernel
theorem dX13_sayBlock_61 : decode cX13_sayBlock 61 = .ok (.iconst 1, 1) := by decide +kernel
theorem dX13_sayBlock_62 : decode cX13_sayBlock 62 = .ok (.invokevirtual 418, 3) := by decide +kernel
theorem dX13_sayBlock_65 : decode cX13_sayBlock 65 = .ok (.return_, 1) := by decide +kernel
theorem dX13_sayBlock_66 : decode cX13_sayBlock 66 = .ok (.iload_n 1, 1) := by decide +kernel
theorem dX13_sayBlock_67 : decode cX13_sayBlock 67 = .ok (.ifCond .le 165, 3) := by decide +kernel
theorem dX13_sayBlock_70 : decode cX13_sayBlock 70 = .ok (.iload 5, 2) := by decide +kernel
theorem dX13_sayBlock_72 : decode cX13_sayBlock 72 = .ok (.ifCond .le 160, 3) := by decide +kernel
theorem dX13_sayBlock_75 : decode cX13_sayBlock 75 = .ok (.iconst 0, 1) := by decide +kernel
theorem dX13_sayBlock_76 : decode cX13_sayBlock 76 = .ok (.istore 6, 2) := by decide +kernel
theorem dX13_sayBlock_78 : decode cX13_sayBlock 78 = .ok (.iload 6, 2) := by decide +kernel
theorem dX13_sayBlock_80 : decode cX13_sayBlock 80 = .ok (.iconst 3, 1) := by decide +kernel
theorem dX13_sayBlock_81 : decode cX13_sayBlock 81 = .ok (.if_icmp .ge 23, 3) := by decide +kernel
theorem dX13_sayBlock_84 : decode cX13_sayBlock 84 = .ok (.aload_n 0, 1) := by decide +kernel
theorem dX13_sayBlock_85 : decode cX13_sayBlock 85 = .ok (.getfield 117, 3) := by decide +kernel
theorem dX13_sayBlock_88 : decode cX13_sayBlock 88 = .ok (.iload 6, 2) := by decide +kernel
theorem dX13_sayBlock_90 : decode cX13_sayBlock 90 = .ok (.aload_n 0, 1) := by decide +kernel
theorem dX13_sayBlock_91 : decode cX13_sayBlock 91 = .ok (.getfield 114, 3) := by decide +kernel
theorem dX13_sayBlock_94 : decode cX13_sayBlock 94 = .ok (.iload 6, 2) := by decide +kernel
theorem dX13_sayBlock_96 : decode cX13_sayBlock 96 = .ok (.laload, 1) := by decide +kernel
theorem dX13_sayBlock_97 : decode cX13_sayBlock 97 = .ok (.lastore, 1) := by decide +kernel
theorem dX13_sayBlock_98 : decode cX13_sayBlock 98 = .ok (.iinc 6 1, 3) := by decide +kernel
theorem dX13_sayBlock_101 : decode cX13_sayBlock 101 = .ok (.goto (-23), 3) := by decide +kernel
theorem dX13_sayBlock_104 : decode cX13_sayBlock 104 = .ok (.aload_n 0, 1) := by decide +kernel
theorem dX13_sayBlock_105 : decode cX13_sayBlock 105 = .ok (.getfield 412, 3) := by decide +kernel
theorem dX13_sayBlock_108 : decode cX13_sayBlock 108 = .ok (.istore 6, 2) := by decide +kernel
theorem dX13_sayBlock_110 : decode cX13_sayBlock 110 = .ok (.aload_n 0, 1) := by decide +kernel
theorem dX13_sayBlock_111 : decode cX13_sayBlock 111 = .ok (.lconst 0, 1) := by decide +kernel
theorem dX13_sayBlock_112 : decode cX13_sayBlock 112 = .ok (.iconst 3, 1) := by decide +kernel
theorem dX13_sayBlock_113 : decode cX13_sayBlock 113 = .ok (.invokevirtual 418, 3) := by decide +kernel
theorem dX13_sayBlock_116 : decode cX13_sayBlock 116 = .ok (.aload_n 0, 1) := by decide +kernel
theorem dX13_sayBlock_117 : decode cX13_sayBlock 117 = .ok (.iload_n 2, 1) := by decide +kernel
theorem dX13_sayBlock_118 : decode cX13_sayBlock 118 = .ok (.iload_n 3, 1) := by decide +kernel
theorem dX13_sayBlock_119 : decode cX13_sayBlock 119 = .ok (.invokevirtual 434, 3) := by decide +kernel
theorem dX13_sayBlock_122 : decode cX13_sayBlock 122 = .ok (.aload_n 0, 1) := by decide +kernel
theorem dX13_sayBlock_123 : decode cX13_sayBlock 123 = .ok (.iload_n 1, 1) := by decide +kernel
theorem dX13_sayBlock_124 : decode cX13_sayBlock 124 = .ok (.invokevirtual 437, 3) := by decide +kernel
theorem dX13_sayBlock_127 : decode cX13_sayBlock 127 = .ok (.aload_n 0, 1) := by decide +kernel
theorem dX13_sayBlock_128 : decode cX13_sayBlock 128 = .ok (.iload_n 1, 1) := by decide +kernel
theorem dX13_sayBlock_129 : decode cX13_sayBlock 129 = .ok (.invokevirtual 440, 3) := by decide +kernel
theorem dX13_sayBlock_132 : decode cX13_sayBlock 132 = .ok (.aload_n 0, 1) := by decide +kernel
theorem dX13_sayBlock_133 : decode cX13_sayBlock 133 = .ok (.getfield 412, 3) := by decide +kernel
theorem dX13_sayBlock_136 : decode cX13_sayBlock 136 = .ok (.iload 6, 2) := by decide +kernel
theorem dX13_sayBlock_138 : decode cX13_sayBlock 138 = .ok (.isub, 1) := by decide +kernel
theorem dX13_sayBlock_139 : decode cX13_sayBlock 139 = .ok (.iconst 3, 1) := by decide +kernel
theorem dX13_sayBlock_140 : decode cX13_sayBlock 140 = .ok (.isub, 1) := by decide +kernel
theorem dX13_sayBlock_141 : decode cX13_sayBlock 141 = .ok (.istore 7, 2) := by decide +kernel
theorem dX13_sayBlock_143 : decode cX13_sayBlock 143 = .ok (.iload 7, 2) := by decide +kernel
theorem dX13_sayBlock_145 : decode cX13_sayBlock 145 = .ok (.iload 5, 2) := by decide +kernel
theorem dX13_sayBlock_147 : decode cX13_sayBlock 147 = .ok (.if_icmp .ge 50, 3) := by decide +kernel
theorem dX13_sayBlock_150 : decode cX13_sayBlock 150 = .ok (.iload 4, 2) := by decide +kernel
theorem dX13_sayBlock_152 : decode cX13_sayBlock 152 = .ok (.iconst 4, 1) := by decide +kernel
theorem dX13_sayBlock_153 : decode cX13_sayBlock 153 = .ok (.iadd, 1) := by decide +kernel
theorem dX13_sayBlock_154 : decode cX13_sayBlock 154 = .ok (.bipush 8, 2) := by decide +kernel
theorem dX13_sayBlock_156 : decode cX13_sayBlock 156 = .ok (.iload 7, 2) := by decide +kernel
theorem dX13_sayBlock_158 : decode cX13_sayBlock 158 = .ok (.imul, 1) := by decide +kernel
theorem dX13_sayBlock_159 : decode cX13_sayBlock 159 = .ok (.iadd, 1) := by decide +kernel
theorem dX13_sayBlock_160 : decode cX13_sayBlock 160 = .ok (.istore 8, 2) := by decide +kernel
theorem dX13_sayBlock_162 : decode cX13_sayBlock 162 = .ok (.iconst 0, 1) := by decide +kernel
theorem dX13_sayBlock_163 : decode cX13_sayBlock 163 = .ok (.istore 9, 2) := by decide +kernel
theorem dX13_sayBlock_165 : decode cX13_sayBlock 165 = .ok (.iload 9, 2) := by decide +kernel
theorem dX13_sayBlock_167 : decode cX13_sayBlock 167 = .ok (.iconst 3, 1) := by decide +kernel
theorem dX13_sayBlock_168 : decode cX13_sayBlock 168 = .ok (.if_icmp .ge 28, 3) := by decide +kernel
theorem dX13_sayBlock_171 : decode cX13_sayBlock 171 = .ok (.aload_n 0, 1) := by decide +kernel
theorem dX13_sayBlock_172 : decode cX13_sayBlock 172 = .ok (.getfield 104, 3) := by decide +kernel
theorem dX13_sayBlock_175 : decode cX13_sayBlock 175 = .ok (.iload 6, 2) := by decide +kernel
theorem dX13_sayBlock_177 : decode cX13_sayBlock 177 = .ok (.iload 9, 2) := by decide +kernel
theorem dX13_sayBlock_179 : decode cX13_sayBlock 179 = .ok (.iadd, 1) := by decide +kernel
theorem dX13_sayBlock_180 : decode cX13_sayBlock 180 = .ok (.iload 8, 2) := by decide +kernel
theorem dX13_sayBlock_182 : decode cX13_sayBlock 182 = .ok (.bipush 8, 2) := by decide +kernel
theorem dX13_sayBlock_184 : decode cX13_sayBlock 184 = .ok (.iload 9, 2) := by decide +kernel
theorem dX13_sayBlock_186 : decode cX13_sayBlock 186 = .ok (.imul, 1) := by decide +kernel
theorem dX13_sayBlock_187 : decode cX13_sayBlock 187 = .ok (.ishr, 1) := by decide +kernel
theorem dX13_sayBlock_188 : decode cX13_sayBlock 188 = .ok (.i2b, 1) := by decide +kernel
theorem dX13_sayBlock_189 : decode cX13_sayBlock 189 = .ok (.bastore, 1) := by decide +kernel
theorem dX13_sayBlock_190 : decode cX13_sayBlock 190 = .ok (.iinc 9 1, 3) := by decide +kernel
theorem dX13_sayBlock_193 : decode cX13_sayBlock 193 = .ok (.goto (-28), 3) := by decide +kernel
theorem dX13_sayBlock_196 : decode cX13_sayBlock 196 = .ok (.return_, 1) := by decide +kernel
theorem dX13_sayBlock_197 : decode cX13_sayBlock 197 = .ok (.aload_n 0, 1) := by decide +kernel
theorem dX13_sayBlock_198 : decode cX13_sayBlock 198 = .ok (.iload 6, 2) := by decide +kernel
theorem dX13_sayBlock_200 : decode cX13_sayBlock 200 = .ok (.putfield 412, 3) := by decide +kernel
theorem dX13_sayBlock_203 : decode cX13_sayBlock 203 = .ok (.iconst 0, 1) := by decide +kernel
theorem dX13_sayBlock_204 : decode cX13_sayBlock 204 = .ok (.istore 8, 2) := by decide +kernel
theorem dX13_sayBlock_206 : decode cX13_sayBlock 206 = .ok (.iload 8, 2) := by decide +kernel
theorem dX13_sayBlock_208 : decode cX13_sayBlock 208 = .ok (.iconst 3, 1) := by decide +kernel
theorem dX13_sayBlock_209 : decode cX13_sayBlock 209 = .ok (.if_icmp .ge 23, 3) := by decide +kernel
theorem dX13_sayBlock_212 : decode cX13_sayBlock 212 = .ok (.aload_n 0, 1) := by decide +kernel
theorem dX13_sayBlock_213 : decode cX13_sayBlock 213 = .ok (.getfield 114, 3) := by decide +kernel
theorem dX13_sayBlock_216 : decode cX13_sayBlock 216 = .ok (.iload 8, 2) := by decide +kernel
theorem dX13_sayBlock_218 : decode cX13_sayBlock 218 = .ok (.aload_n 0, 1) := by decide +kernel
theorem dX13_sayBlock_219 : decode cX13_sayBlock 219 = .ok (.getfield 117, 3) := by decide +kernel
theorem dX13_sayBlock_222 : decode cX13_sayBlock 222 = .ok (.iload 8, 2) := by decide +kernel
theorem dX13_sayBlock_224 : decode cX13_sayBlock 224 = .ok (.laload, 1) := by decide +kernel
theorem dX13_sayBlock_225 : decode cX13_sayBlock 225 = .ok (.lastore, 1) := by decide +kernel
theorem dX13_sayBlock_226 : decode cX13_sayBlock 226 = .ok (.iinc 8 1, 3) := by decide +kernel
theorem dX13_sayBlock_229 : decode cX13_sayBlock 229 = .ok (.goto (-23), 3) := by decide +kernel
theorem dX13_sayBlock_232 : decode cX13_sayBlock 232 = .ok (.aload_n 0, 1) := by decide +kernel
theorem dX13_sayBlock_233 : decode cX13_sayBlock 233 = .ok (.iload 4, 2) := by decide +kernel
theorem dX13_sayBlock_235 : decode cX13_sayBlock 235 = .ok (.bipush 8, 2) := by decide +kernel
theorem dX13_sayBlock_237 : decode cX13_sayBlock 237 = .ok (.iload 5, 2) := by decide +kernel
theorem dX13_sayBlock_239 : decode cX13_sayBlock 239 = .ok (.imul, 1) := by decide +kernel
theorem dX13_sayBlock_240 : decode cX13_sayBlock 240 = .ok (.iadd, 1) := by decide +kernel
theorem dX13_sayBlock_241 : decode cX13_sayBlock 241 = .ok (.i2l, 1) := by decide +kernel
theorem dX13_sayBlock_242 : decode cX13_sayBlock 242 = .ok (.iconst 3, 1) := by decide +kernel
theorem dX13_sayBlock_243 : decode cX13_sayBlock 243 = .ok (.invokevirtual 418, 3) := by decide +kernel
theorem dX13_sayBlock_246 : decode cX13_sayBlock 246 = .ok (.iload_n 2, 1) := by decide +kernel
theorem dX13_sayBlock_247 : decode cX13_sayBlock 247 = .ok (.istore 6, 2) := by decide +kernel
theorem dX13_sayBlock_249 : decode cX13_sayBlock 249 = .ok (.iload 6, 2) := by decide +kernel
theorem dX13_sayBlock_251 : decode cX13_sayBlock 251 = .ok (.iload_n 3, 1) := by decide +kernel
theorem dX13_sayBlock_252 : decode cX13_sayBlock 252 = .ok (.if_icmp .ge 22, 3) := by decide +kernel
theorem dX13_sayBlock_255 : decode cX13_sayBlock 255 = .ok (.aload_n 0, 1) := by decide +kernel
theorem dX13_sayBlock_256 : decode cX13_sayBlock 256 = .ok (.aload_n 0, 1) := by decide +kernel
theorem dX13_sayBlock_257 : decode cX13_sayBlock 257 = .ok (.getfield 7, 3) := by decide +kernel
theorem dX13_sayBlock_260 : decode cX13_sayBlock 260 = .ok (.iload 6, 2) := by decide +kernel
theorem dX13_sayBlock_262 : decode cX13_sayBlock 262 = .ok (.baload, 1) := by decide +kernel
theorem dX13_sayBlock_263 : decode cX13_sayBlock 263 = .ok (.i2l, 1) := by decide +kernel
theorem dX13_sayBlock_264 : decode cX13_sayBlock 264 = .ok (.iconst 1, 1) := by decide +kernel
theorem dX13_sayBlock_265 : decode cX13_sayBlock 265 = .ok (.invokevirtual 418, 3) := by decide +kernel
theorem dX13_sayBlock_268 : decode cX13_sayBlock 268 = .ok (.iinc 6 1, 3) := by decide +kernel
theorem dX13_sayBlock_271 : decode cX13_sayBlock 271 = .ok (.goto (-22), 3) := by decide +kernel
theorem dX13_sayBlock_274 : decode cX13_sayBlock 274 = .ok (.return_, 1) := by decide +kernel
theorem dX13_findActs_0 : decode cX13_findActs 0 = .ok (.aload_n 0, 1) := by decide +kernel
theorem dX13_findActs_1 : decode cX13_findActs 1 = .ok (.iconst 0, 1) := by decide +kernel
theorem dX13_findActs_2 : decode cX13_findActs 2 = .ok (.putfield 443, 3) := by decide +kernel
theorem dX13_findActs_5 : decode cX13_findActs 5 = .ok (.aload_n 0, 1) := by decide +kernel
theorem dX13_findActs_6 : decode cX13_findActs 6 = .ok (.iconst 0, 1) := by decide +kernel
theorem dX13_findActs_7 : decode cX13_findActs 7 = .ok (.putfield 446, 3) := by decide +kernel
theorem dX13_findActs_10 : decode cX13_findActs 10 = .ok (.iconst 0, 1) := by decide +kernel
theorem dX13_findActs_11 : decode cX13_findActs 11 = .ok (.istore_n 3, 1) := by decide +kernel
theorem dX13_findActs_12 : decode cX13_findActs 12 = .ok (.iload_n 1, 1) := by decide +kernel
theorem dX13_findActs_13 : decode cX13_findActs 13 = .ok (.istore 4, 2) := by decide +kernel
theorem dX13_findActs_15 : decode cX13_findActs 15 = .ok (.iload 4, 2) := by decide +kernel
theorem dX13_findActs_17 : decode cX13_findActs 17 = .ok (.iload_n 2, 1) := by decide +kernel
theorem dX13_findActs_18 : decode cX13_findActs 18 = .ok (.if_icmp .ge 263, 3) := by decide +kernel
theorem dX13_findActs_21 : decode cX13_findActs 21 = .ok (.iconst (-1), 1) := by decide +kernel
theorem dX13_findActs_22 : decode cX13_findActs 22 = .ok (.istore 5, 2) := by decide +kernel
theorem dX13_findActs_24 : decode cX13_findActs 24 = .ok (.iconst 0, 1) := by decide +kernel
theorem dX13_findActs_25 : decode cX13_findActs 25 = .ok (.istore 6, 2) := by decide +kernel
theorem dX13_findActs_27 : decode cX13_findActs 27 = .ok (.iconst 0, 1) := by decide +kernel
theorem dX13_findActs_28 : decode cX13_findActs 28 = .ok (.istore 7, 2) := by decide +kernel
theorem dX13_findActs_30 : decode cX13_findActs 30 = .ok (.aload_n 0, 1) := by decide +kernel
theorem dX13_findActs_31 : decode cX13_findActs 31 = .ok (.getfield 424, 3) := by decide +kernel
theorem dX13_findActs_34 : decode cX13_findActs 34 = .ok (.iload 4, 2) := by decide +kernel
theorem dX13_findActs_36 : decode cX13_findActs 36 = .ok (.iadd, 1) := by decide +kernel
theorem dX13_findActs_37 : decode cX13_findActs 37 = .ok (.iconst 1, 1) := by decide +kernel
theorem dX13_findActs_38 : decode cX13_findActs 38 = .ok (.isub, 1) := by decide +kernel
theorem dX13_findActs_39 : decode cX13_findActs 39 = .ok (.istore 8, 2) := by decide +kernel
theorem dX13_findActs_41 : decode cX13_findActs 41 = .ok (.iload 8, 2) := by decide +kernel
theorem dX13_findActs_43 : decode cX13_findActs 43 = .ok (.ifCond .lt 111, 3) := by decide +kernel
theorem dX13_findActs_46 : decode cX13_findActs 46 = .ok (.iload 7, 2) := by decide +kernel
theorem dX13_findActs_48 : decode cX13_findActs 48 = .ok (.bipush 8, 2) := by decide +kernel
theorem dX13_findActs_50 : decode cX13_findActs 50 = .ok (.if_icmp .ge 104, 3) := by decide +kernel
theorem dX13_findActs_53 : decode cX13_findActs 53 = .ok (.iload 4, 2) := by decide +kernel
theorem dX13_findActs_55 : decode cX13_findActs 55 = .ok (.iconst 4, 1) := by decide +kernel
theorem dX13_findActs_56 : decode cX13_findActs 56 = .ok (.iadd, 1) := by decide +kernel
theorem dX13_findActs_57 : decode cX13_findActs 57 = .ok (.iload_n 2, 1) := by decide +kernel
theorem dX13_findActs_58 : decode cX13_findActs 58 = .ok (.if_icmp .gt 96, 3) := by decide +kernel
theorem dX13_findActs_61 : decode cX13_findActs 61 = .ok (.iconst 0, 1) := by decide +kernel
theorem dX13_findActs_62 : decode cX13_findActs 62 = .ok (.istore 9, 2) := by decide +kernel
theorem dX13_findActs_64 : decode cX13_findActs 64 = .ok (.iload 4, 2) := by decide +kernel
theorem dX13_findActs_66 : decode cX13_findActs 66 = .ok (.iload 9, 2) := by decide +kernel
theorem dX13_findActs_68 : decode cX13_findActs 68 = .ok (.iadd, 1) := by decide +kernel
theorem dX13_findActs_69 : decode cX13_findActs 69 = .ok (.iload_n 2, 1) := by decide +kernel
theorem dX13_findActs_70 : decode cX13_findActs 70 = .ok (.if_icmp .ge 37, 3) := by decide +kernel
theorem dX13_findActs_73 : decode cX13_findActs 73 = .ok (.aload_n 0, 1) := by decide +kernel
theorem dX13_findActs_74 : decode cX13_findActs 74 = .ok (.getfield 111, 3) := by decide +kernel
theorem dX13_findActs_77 : decode cX13_findActs 77 = .ok (.iload 8, 2) := by decide +kernel
theorem dX13_findActs_79 : decode cX13_findActs 79 = .ok (.iload 9, 2) := by decide +kernel
theorem dX13_findActs_81 : decode cX13_findActs 81 = .ok (.iadd, 1) := by decide +kernel
theorem dX13_findActs_82 : decode cX13_findActs 82 = .ok (.baload, 1) := by decide +kernel
theorem dX13_findActs_83 : decode cX13_findActs 83 = .ok (.aload_n 0, 1) := by decide +kernel
theorem dX13_findActs_84 : decode cX13_findActs 84 = .ok (.getfield 111, 3) := by decide +kernel
theorem dX13_findActs_87 : decode cX13_findActs 87 = .ok (.aload_n 0, 1) := by decide +kernel
theorem dX13_findActs_88 : decode cX13_findActs 88 = .ok (.getfield 424, 3) := by decide +kernel
theorem dX13_findActs_91 : decode cX13_findActs 91 = .ok (.iload 4, 2) := by decide +kernel
theorem dX13_findActs_93 : decode cX13_findActs 93 = .ok (.iadd, 1) := by decide +kernel
theorem dX13_findActs_94 : decode cX13_findActs 94 = .ok (.iload 9, 2) := by decide +kernel
theorem dX13_findActs_96 : decode cX13_findActs 96 = .ok (.iadd, 1) := by decide +kernel
theorem dX13_findActs_97 : decode cX13_findActs 97 = .ok (.baload, 1) := by decide +kernel
theorem dX13_findActs_98 : decode cX13_findActs 98 = .ok (.if_icmp .ne 9, 3) := by decide +kernel
theorem dX13_findActs_101 : decode cX13_findActs 101 = .ok (.iinc 9 1, 3) := by decide +kernel
theorem dX13_findActs_104 : decode cX13_findActs 104 = .ok (.goto (-40), 3) := by decide +kernel
theorem dX13_findActs_107 : decode cX13_findActs 107 = .ok (.iload 9, 2) := by decide +kernel
theorem dX13_findActs_109 : decode cX13_findActs 109 = .ok (.iconst 4, 1) := by decide +kernel
theorem dX13_findActs_110 : decode cX13_findActs 110 = .ok (.if_icmp .lt 38, 3) := by decide +kernel
theorem dX13_findActs_113 : decode cX13_findActs 113 = .ok (.iinc 7 1, 3) := by decide +kernel
theorem dX13_findActs_116 : decode cX13_findActs 116 = .ok (.iload 9, 2) := by decide +kernel
theorem dX13_findActs_118 : decode cX13_findActs 118 = .ok (.iload 6, 2) := by decide +kernel
theorem dX13_findActs_120 : decode cX13_findActs 120 = .ok (.if_icmp .le 8, 3) := by decide +kernel
theorem dX13_findActs_123 : decode cX13_findActs 123 = .ok (.iload 8, 2) := by decide +kernel
theorem dX13_findActs_125 : decode cX13_findActs 125 = .ok (.goto 5, 3) := by decide +kernel
theorem dX13_findActs_128 : decode cX13_findActs 128 = .ok (.iload 5, 2) := by decide +kernel
theorem dX13_findActs_130 : decode cX13_findActs 130 = .ok (.istore 5, 2) := by decide +kernel
theorem dX13_findActs_132 : decode cX13_findActs 132 = .ok (.iload 9, 2) := by decide +kernel
theorem dX13_findActs_134 : decode cX13_findActs 134 = .ok (.iload 6, 2) := by decide +kernel
theorem dX13_findActs_136 : decode cX13_findActs 136 = .ok (.if_icmp .le 8, 3) := by decide +kernel
theorem dX13_findActs_139 : decode cX13_findActs 139 = .ok (.iload 9, 2) := by decide +kernel
theorem dX13_findActs_141 : decode cX13_findActs 141 = .ok (.goto 5, 3) := by decide +kernel
theorem dX13_findActs_144 : decode cX13_findActs 144 = .ok (.iload 6, 2) := by decide +kernel
theorem dX13_findActs_146 : decode cX13_findActs 146 = .ok (.istore 6, 2) := by decide +kernel
theorem dX13_findActs_148 : decode cX13_findActs 148 = .ok (.iinc 8 (-1), 3) := by decide +kernel
theorem dX13_findActs_151 : decode cX13_findActs 151 = .ok (.goto (-110), 3) := by decide +kernel
theorem dX13_findActs_154 : decode cX13_findActs 154 = .ok (.iload 5, 2) := by decide +kernel
theorem dX13_findActs_156 : decode cX13_findActs 156 = .ok (.ifCond .ge 38, 3) := by decide +kernel
theorem dX13_findActs_159 : decode cX13_findActs 159 = .ok (.aload_n 0, 1) := by decide +kernel
theorem dX13_findActs_160 : decode cX13_findActs 160 = .ok (.getfield 135, 3) := by decide +kernel
theorem dX13_findActs_163 : decode cX13_findActs 163 = .ok (.aload_n 0, 1) := by decide +kernel
theorem dX13_findActs_164 : decode cX13_findActs 164 = .ok (.getfield 446, 3) := by decide +kernel
theorem dX13_findActs_167 : decode cX13_findActs 167 = .ok (.aload_n 0, 1) := by decide +kernel
theorem dX13_findActs_168 : decode cX13_findActs 168 = .ok (.getfield 7, 3) := by decide +kernel
theorem dX13_findActs_171 : decode cX13_findActs 171 = .ok (.iload 4, 2) := by decide +kernel
theorem dX13_findActs_173 : decode cX13_findActs 173 = .ok (.baload, 1) := by decide +kernel
theorem dX13_findActs_174 : decode cX13_findActs 174 = .ok (.bastore, 1) := by decide +kernel
theorem dX13_findActs_175 : decode cX13_findActs 175 = .ok (.aload_n 0, 1) := by decide +kernel
theorem dX13_findActs_176 : decode cX13_findActs 176 = .ok (.dup, 1) := by decide +kernel
theorem dX13_findActs_177 : decode cX13_findActs 177 = .ok (.getfield 446, 3) := by decide +kernel
theorem dX13_findActs_180 : decode cX13_findActs 180 = .ok (.iconst 1, 1) := by decide +kernel
theorem dX13_findActs_181 : decode cX13_findActs 181 = .ok (.iadd, 1) := by decide +kernel
theorem dX13_findActs_182 : decode cX13_findActs 182 = .ok (.putfield 446, 3) := by decide +kernel
theorem dX13_findActs_185 : decode cX13_findActs 185 = .ok (.iinc 3 1, 3) := by decide +kernel
theorem dX13_findActs_188 : decode cX13_findActs 188 = .ok (.iinc 4 1, 3) := by decide +kernel
theorem dX13_findActs_191 : decode cX13_findActs 191 = .ok (.goto 87, 3) := by decide +kernel
theorem dX13_findActs_194 : decode cX13_findActs 194 = .ok (.aload_n 0, 1) := by decide +kernel
theorem dX13_findActs_195 : decode cX13_findActs 195 = .ok (.getfield 120, 3) := by decide +kernel
theorem dX13_findActs_198 : decode cX13_findActs 198 = .ok (.aload_n 0, 1) := by decide +kernel
theorem dX13_findActs_199 : decode cX13_findActs 199 = .ok (.getfield 443, 3) := by decide +kernel
theorem dX13_findActs_202 : decode cX13_findActs 202 = .ok (.iload_n 3, 1) := by decide +kernel
theorem dX13_findActs_203 : decode cX13_findActs 203 = .ok (.iastore, 1) := by decide +kernel
theorem dX13_findActs_204 : decode cX13_findActs 204 = .ok (.aload_n 0, 1) := by decide +kernel
theorem dX13_findActs_205 : decode cX13_findActs 205 = .ok (.getfield 123, 3) := by decide +kernel
theorem dX13_findActs_208 : decode cX13_findActs 208 = .ok (.aload_n 0, 1) := by decide +kernel
theorem dX13_findActs_209 : decode cX13_findActs 209 = .ok (.getfield 443, 3) := by decide +kernel
theorem dX13_findActs_212 : decode cX13_findActs 212 = .ok (.iload 6, 2) := by decide +kernel
theorem dX13_findActs_214 : decode cX13_findActs 214 = .ok (.iastore, 1) := by decide +kernel
theorem dX13_findActs_215 : decode cX13_findActs 215 = .ok (.aload_n 0, 1) := by decide +kernel
theorem dX13_findActs_216 : decode cX13_findActs 216 = .ok (.getfield 126, 3) := by decide +kernel
theorem dX13_findActs_219 : decode cX13_findActs 219 = .ok (.aload_n 0, 1) := by decide +kernel
theorem dX13_findActs_220 : decode cX13_findActs 220 = .ok (.getfield 443, 3) := by decide +kernel
theorem dX13_findActs_223 : decode cX13_findActs 223 = .ok (.aload_n 0, 1) := by decide +kernel
theorem dX13_findActs_224 : decode cX13_findActs 224 = .ok (.aload_n 0, 1) := by decide +kernel
theorem dX13_findActs_225 : decode cX13_findActs 225 = .ok (.getfield 424, 3) := by decide +kernel
theorem dX13_findActs_228 : decode cX13_findActs 228 = .ok (.iload 4, 2) := by decide +kernel
theorem dX13_findActs_230 : decode cX13_findActs 230 = .ok (.iadd, 1) := by decide +kernel
theorem dX13_findActs_231 : decode cX13_findActs 231 = .ok (.iload 5, 2) := by decide +kernel
theorem dX13_findActs_233 : decode cX13_findActs 233 = .ok (.isub, 1) := by decide +kernel
theorem dX13_findActs_234 : decode cX13_findActs 234 = .ok (.iload_n 3, 1) := by decide +kernel
theorem dX13_findActs_235 : decode cX13_findActs 235 = .ok (.invokevirtual 449, 3) := by decide +kernel
theorem dX13_findActs_238 : decode cX13_findActs 238 = .ok (.lastore, 1) := by decide +kernel
theorem dX13_findActs_239 : decode cX13_findActs 239 = .ok (.aload_n 0, 1) := by decide +kernel
theorem dX13_findActs_240 : decode cX13_findActs 240 = .ok (.aload_n 0, 1) := by decide +kernel
theorem dX13_findActs_241 : decode cX13_findActs 241 = .ok (.getfield 114, 3) := by decide +kernel
theorem dX13_findActs_244 : decode cX13_findActs 244 = .ok (.aload_n 0, 1) := by decide +kernel
theorem dX13_findActs_245 : decode cX13_findActs 245 = .ok (.getfield 126, 3) := by decide +kernel
theorem dX13_findActs_248 : decode cX13_findActs 248 = .ok (.aload_n 0, 1) := by decide +kernel
theorem dX13_findActs_249 : decode cX13_findActs 249 = .ok (.getfield 443, 3) := by decide +kernel
theorem dX13_findActs_252 : decode cX13_findActs 252 = .ok (.laload, 1) := by decide +kernel
theorem dX13_findActs_253 : decode cX13_findActs 253 = .ok (.iload_n 3, 1) := by decide +kernel
theorem dX13_findActs_254 : decode cX13_findActs 254 = .ok (.invokevirtual 408, 3) := by decide +kernel
theorem dX13_findActs_257 : decode cX13_findActs 257 = .ok (.lstore 8, 2) := by decide +kernel
theorem dX13_findActs_259 : decode cX13_findActs 259 = .ok (.aload_n 0, 1) := by decide +kernel
theorem dX13_findActs_260 : decode cX13_findActs 260 = .ok (.dup, 1) := by decide +kernel
theorem dX13_findActs_261 : decode cX13_findActs 261 = .ok (.getfield 443, 3) := by decide +kernel
theorem dX13_findActs_264 : decode cX13_findActs 264 = .ok (.iconst 1, 1) := by decide +kernel
theorem dX13_findActs_265 : decode cX13_findActs 265 = .ok (.iadd, 1) := by decide +kernel
theorem dX13_findActs_266 : decode cX13_findActs 266 = .ok (.putfield 443, 3) := by decide +kernel
theorem dX13_findActs_269 : decode cX13_findActs 269 = .ok (.iconst 0, 1) := by decide +kernel
theorem dX13_findActs_270 : decode cX13_findActs 270 = .ok (.istore_n 3, 1) := by decide +kernel
theorem dX13_findActs_271 : decode cX13_findActs 271 = .ok (.iload 4, 2) := by decide +kernel
theorem dX13_findActs_273 : decode cX13_findActs 273 = .ok (.iload 6, 2) := by decide +kernel
theorem dX13_findActs_275 : decode cX13_findActs 275 = .ok (.iadd, 1) := by decide +kernel
theorem dX13_findActs_276 : decode cX13_findActs 276 = .ok (.istore 4, 2) := by decide +kernel
theorem dX13_findActs_278 : decode cX13_findActs 278 = .ok (.goto (-263), 3) := by decide +kernel
theorem dX13_findActs_281 : decode cX13_findActs 281 = .ok (.return_, 1) := by decide +kernel
theorem dX13_valueOf_0 : decode cX13_valueOf 0 = .ok (.iconst 1, 1) := by decide +kernel
theorem dX13_valueOf_1 : decode cX13_valueOf 1 = .ok (.istore_n 3, 1) := by decide +kernel
theorem dX13_valueOf_2 : decode cX13_valueOf 2 = .ok (.iload_n 3, 1) := by decide +kernel
theorem dX13_valueOf_3 : decode cX13_valueOf 3 = .ok (.iconst 4, 1) := by decide +kernel
theorem dX13_valueOf_4 : decode cX13_valueOf 4 = .ok (.if_icmp .ge 50, 3) := by decide +kernel
theorem dX13_valueOf_7 : decode cX13_valueOf 7 = .ok (.iload_n 3, 1) := by decide +kernel
theorem dX13_valueOf_8 : decode cX13_valueOf 8 = .ok (.i2l, 1) := by decide +kernel
theorem dX13_valueOf_9 : decode cX13_valueOf 9 = .ok (.iload_n 2, 1) := by decide +kernel
theorem dX13_valueOf_10 : decode cX13_valueOf 10 = .ok (.invokestatic 404, 3) := by decide +kernel
theorem dX13_valueOf_13 : decode cX13_valueOf 13 = .ok (.istore 4, 2) := by decide +kernel
theorem dX13_valueOf_15 : decode cX13_valueOf 15 = .ok (.iload 4, 2) := by decide +kernel
theorem dX13_valueOf_17 : decode cX13_valueOf 17 = .ok (.iconst 3, 1) := by decide +kernel
theorem dX13_valueOf_18 : decode cX13_valueOf 18 = .ok (.if_icmp .ne 14, 3) := by decide +kernel
theorem dX13_valueOf_21 : decode cX13_valueOf 21 = .ok (.aload_n 0, 1) := by decide +kernel
theorem dX13_valueOf_22 : decode cX13_valueOf 22 = .ok (.getfield 114, 3) := by decide +kernel
theorem dX13_valueOf_25 : decode cX13_valueOf 25 = .ok (.iconst 0, 1) := by decide +kernel
theorem dX13_valueOf_26 : decode cX13_valueOf 26 = .ok (.laload, 1) := by decide +kernel
theorem dX13_valueOf_27 : decode cX13_valueOf 27 = .ok (.lconst 1, 1) := by decide +kernel
theorem dX13_valueOf_28 : decode cX13_valueOf 28 = .ok (.lsub, 1) := by decide +kernel
theorem dX13_valueOf_29 : decode cX13_valueOf 29 = .ok (.goto 10, 3) := by decide +kernel
theorem dX13_valueOf_32 : decode cX13_valueOf 32 = .ok (.aload_n 0, 1) := by decide +kernel
theorem dX13_valueOf_33 : decode cX13_valueOf 33 = .ok (.getfield 114, 3) := by decide +kernel
theorem dX13_valueOf_36 : decode cX13_valueOf 36 = .ok (.iload 4, 2) := by decide +kernel
theorem dX13_valueOf_38 : decode cX13_valueOf 38 = .ok (.laload, 1) := by decide +kernel
theorem dX13_valueOf_39 : decode cX13_valueOf 39 = .ok (.iload_n 1, 1) := by decide +kernel
theorem dX13_valueOf_40 : decode cX13_valueOf 40 = .ok (.i2l, 1) := by decide +kernel
theorem dX13_valueOf_41 : decode cX13_valueOf 41 = .ok (.lcmp, 1) := by decide +kernel
theorem dX13_valueOf_42 : decode cX13_valueOf 42 = .ok (.ifCond .ne 6, 3) := by decide +kernel
theorem dX13_valueOf_45 : decode cX13_valueOf 45 = .ok (.iload_n 3, 1) := by decide +kernel
theorem dX13_valueOf_46 : decode cX13_valueOf 46 = .ok (.i2l, 1) := by decide +kernel
theorem dX13_valueOf_47 : decode cX13_valueOf 47 = .ok (.lreturn, 1) := by decide +kernel
theorem dX13_valueOf_48 : decode cX13_valueOf 48 = .ok (.iinc 3 1, 3) := by decide +kernel
theorem dX13_valueOf_51 : decode cX13_valueOf 51 = .ok (.goto (-49), 3) := by decide +kernel
theorem dX13_valueOf_54 : decode cX13_valueOf 54 = .ok (.iload_n 1, 1) := by decide +kernel
theorem dX13_valueOf_55 : decode cX13_valueOf 55 = .ok (.i2l, 1) := by decide +kernel
theorem dX13_valueOf_56 : decode cX13_valueOf 56 = .ok (.ldc2_w 402, 3) := by decide +kernel
theorem dX13_valueOf_59 : decode cX13_valueOf 59 = .ok (.ladd, 1) := by decide +kernel
theorem dX13_valueOf_60 : decode cX13_valueOf 60 = .ok (.lreturn, 1) := by decide +kernel
theorem dX13_sayLetters_0 : decode cX13_sayLetters 0 = .ok (.aload_n 0, 1) := by decide +kernel
theorem dX13_sayLetters_1 : decode cX13_sayLetters 1 = .ok (.getfield 446, 3) := by decide +kernel
theorem dX13_sayLetters_4 : decode cX13_sayLetters 4 = .ok (.iconst 1, 1) := by decide +kernel
theorem dX13_sayLetters_5 : decode cX13_sayLetters 5 = .ok (.if_icmp .le 37, 3) := by decide +kernel
theorem dX13_sayLetters_8 : decode cX13_sayLetters 8 = .ok (.aload_n 0, 1) := by decide +kernel
theorem dX13_sayLetters_9 : decode cX13_sayLetters 9 = .ok (.aload_n 0, 1) := by decide +kernel
theorem dX13_sayLetters_10 : decode cX13_sayLetters 10 = .ok (.getfield 135, 3) := by decide +kernel
theorem dX13_sayLetters_13 : decode cX13_sayLetters 13 = .ok (.iconst 0, 1) := by decide +kernel
theorem dX13_sayLetters_14 : decode cX13_sayLetters 14 = .ok (.aload_n 0, 1) := by decide +kernel
theorem dX13_sayLetters_15 : decode cX13_sayLetters 15 = .ok (.getfield 446, 3) := by decide +kernel
theorem dX13_sayLetters_18 : decode cX13_sayLetters 18 = .ok (.invokevirtual 430, 3) := by decide +kernel
theorem dX13_sayLetters_21 : decode cX13_sayLetters 21 = .ok (.ifCond .eq 21, 3) := by decide +kernel
theorem dX13_sayLetters_24 : decode cX13_sayLetters 24 = .ok (.aload_n 0, 1) := by decide +kernel
theorem dX13_sayLetters_25 : decode cX13_sayLetters 25 = .ok (.iconst 1, 1) := by decide +kernel
theorem dX13_sayLetters_26 : decode cX13_sayLetters 26 = .ok (.invokevirtual 453, 3) := by decide +kernel
theorem dX13_sayLetters_29 : decode cX13_sayLetters 29 = .ok (.aload_n 0, 1) := by decide +kernel
theorem dX13_sayLetters_30 : decode cX13_sayLetters 30 = .ok (.aload_n 0, 1) := by decide +kernel
theorem dX13_sayLetters_31 : decode cX13_sayLetters 31 = .ok (.getfield 135, 3) := by decide +kernel
theorem dX13_sayLetters_34 : decode cX13_sayLetters 34 = .ok (.iconst 0, 1) := by decide +kernel
theorem dX13_sayLetters_35 : decode cX13_sayLetters 35 = .ok (.baload, 1) := by decide +kernel
theorem dX13_sayLetters_36 : decode cX13_sayLetters 36 = .ok (.i2l, 1) := by decide +kernel
theorem dX13_sayLetters_37 : decode cX13_sayLetters 37 = .ok (.iconst 1, 1) := by decide +kernel
theorem dX13_sayLetters_38 : decode cX13_sayLetters 38 = .ok (.invokevirtual 418, 3) := by decide +kernel
theorem dX13_sayLetters_41 : decode cX13_sayLetters 41 = .ok (.return_, 1) := by decide +kernel
theorem dX13_sayLetters_42 : decode cX13_sayLetters 42 = .ok (.iload_n 1, 1) := by decide +kernel
theorem dX13_sayLetters_43 : decode cX13_sayLetters 43 = .ok (.iconst 2, 1) := by decide +kernel
theorem dX13_sayLetters_44 : decode cX13_sayLetters 44 = .ok (.if_icmp .ne 217, 3) := by decide +kernel
theorem dX13_sayLetters_47 : decode cX13_sayLetters 47 = .ok (.aload_n 0, 1) := by decide +kernel
theorem dX13_sayLetters_48 : decode cX13_sayLetters 48 = .ok (.getfield 446, 3) := by decide +kernel
theorem dX13_sayLetters_51 : decode cX13_sayLetters 51 = .ok (.bipush 32, 2) := by decide +kernel
theorem dX13_sayLetters_53 : decode cX13_sayLetters 53 = .ok (.if_icmp .lt 208, 3) := by decide +kernel
theorem dX13_sayLetters_56 : decode cX13_sayLetters 56 = .ok (.aload_n 0, 1) := by decide +kernel
theorem dX13_sayLetters_57 : decode cX13_sayLetters 57 = .ok (.invokevirtual 456, 3) := by decide +kernel
theorem dX13_sayLetters_60 : decode cX13_sayLetters 60 = .ok (.ifCond .eq 201, 3) := by decide +kernel
theorem dX13_sayLetters_63 : decode cX13_sayLetters 63 = .ok (.aload_n 0, 1) := by decide +kernel
theorem dX13_sayLetters_64 : decode cX13_sayLetters 64 = .ok (.getfield 412, 3) := by decide +kernel
theorem dX13_sayLetters_67 : decode cX13_sayLetters 67 = .ok (.istore_n 2, 1) := by decide +kernel
theorem dX13_sayLetters_68 : decode cX13_sayLetters 68 = .ok (.aload_n 0, 1) := by decide +kernel
theorem dX13_sayLetters_69 : decode cX13_sayLetters 69 = .ok (.getfield 446, 3) := by decide +kernel
theorem dX13_sayLetters_72 : decode cX13_sayLetters 72 = .ok (.sipush 256, 3) := by decide +kernel
theorem dX13_sayLetters_75 : decode cX13_sayLetters 75 = .ok (.if_icmp .ge 7, 3) := by decide +kernel
theorem dX13_sayLetters_78 : decode cX13_sayLetters 78 = .ok (.iconst 3, 1) := by decide +kernel
theorem dX13_sayLetters_79 : decode cX13_sayLetters 79 = .ok (.goto 4, 3) := by decide +kernel
theorem dX13_sayLetters_82 : decode cX13_sayLetters 82 = .ok (.iconst 3, 1) := by decide +kernel
theorem dX13_sayLetters_83 : decode cX13_sayLetters 83 = .ok (.istore_n 3, 1) := by decide +kernel
theorem dX13_sayLetters_84 : decode cX13_sayLetters 84 = .ok (.aload_n 0, 1) := by decide +kernel
theorem dX13_sayLetters_85 : decode cX13_sayLetters 85 = .ok (.lconst 0, 1) := by decide +kernel
theorem dX13_sayLetters_86 : decode cX13_sayLetters 86 = .ok (.iload_n 3, 1) := by decide +kernel
theorem dX13_sayLetters_87 : decode cX13_sayLetters 87 = .ok (.invokevirtual 418, 3) := by decide +kernel
theorem dX13_sayLetters_90 : decode cX13_sayLetters 90 = .ok (.aload_n 0, 1) := by decide +kernel
theorem dX13_sayLetters_91 : decode cX13_sayLetters 91 = .ok (.invokevirtual 459, 3) := by decide +kernel
theorem dX13_sayLetters_94 : decode cX13_sayLetters 94 = .ok (.aload_n 0, 1) := by decide +kernel
theorem dX13_sayLetters_95 : decode cX13_sayLetters 95 = .ok (.iload_n 2, 1) := by decide +kernel
theorem dX13_sayLetters_96 : decode cX13_sayLetters 96 = .ok (.invokevirtual 462, 3) := by decide +kernel
theorem dX13_sayLetters_99 : decode cX13_sayLetters 99 = .ok (.istore 4, 2) := by decide +kernel
theorem dX13_sayLetters_101 : decode cX13_sayLetters 101 = .ok (.aload_n 0, 1) := by decide +kernel
theorem dX13_sayLetters_102 : decode cX13_sayLetters 102 = .ok (.getfield 412, 3) := by decide +kernel
theorem dX13_sayLetters_105 : decode cX13_sayLetters 105 = .ok (.iload_n 2, 1) := by decide +kernel
theorem dX13_sayLetters_106 : decode cX13_sayLetters 106 = .ok (.isub, 1) := by decide +kernel
theorem dX13_sayLetters_107 : decode cX13_sayLetters 107 = .ok (.iconst 3, 1) := by decide +kernel
theorem dX13_sayLetters_108 : decode cX13_sayLetters 108 = .ok (.isub, 1) := by decide +kernel
theorem dX13_sayLetters_109 : decode cX13_sayLetters 109 = .ok (.istore 5, 2) := by decide +kernel
theorem dX13_sayLetters_111 : decode cX13_sayLetters 111 = .ok (.iload 5, 2) := by decide +kernel
theorem dX13_sayLetters_113 : decode cX13_sayLetters 113 = .ok (.aload_n 0, 1) := by decide +kernel
theorem dX13_sayLetters_114 : decode cX13_sayLetters 114 = .ok (.getfield 446, 3) := by decide +kernel
theorem dX13_sayLetters_117 : decode cX13_sayLetters 117 = .ok (.if_icmp .ge 139, 3) := by decide +kernel
theorem dX13_sayLetters_120 : decode cX13_sayLetters 120 = .ok (.iload 4, 2) := by decide +kernel
theorem dX13_sayLetters_122 : decode cX13_sayLetters 122 = .ok (.iconst 2, 1) := by decide +kernel
theorem dX13_sayLetters_123 : decode cX13_sayLetters 123 = .ok (.if_icmp .ne 49, 3) := by decide +kernel
theorem dX13_sayLetters_126 : decode cX13_sayLetters 126 = .ok (.aload_n 0, 1) := by decide +kernel
theorem dX13_sayLetters_127 : decode cX13_sayLetters 127 = .ok (.getfield 412, 3) := by decide +kernel
theorem dX13_sayLetters_130 : decode cX13_sayLetters 130 = .ok (.istore 6, 2) := by decide +kernel
theorem dX13_sayLetters_132 : decode cX13_sayLetters 132 = .ok (.iload 6, 2) := by decide +kernel
theorem dX13_sayLetters_134 : decode cX13_sayLetters 134 = .ok (.iload_n 2, 1) := by decide +kernel
theorem dX13_sayLetters_135 : decode cX13_sayLetters 135 = .ok (.iconst 3, 1) := by decide +kernel
theorem dX13_sayLetters_136 : decode cX13_sayLetters 136 = .ok (.iadd, 1) := by decide +kernel
theorem dX13_sayLetters_137 : decode cX13_sayLetters 137 = .ok (.if_icmp .le 25, 3) := by decide +kernel
theorem dX13_sayLetters_140 : decode cX13_sayLetters 140 = .ok (.aload_n 0, 1) := by decide +kernel
theorem dX13_sayLetters_141 : decode cX13_sayLetters 141 = .ok (.getfield 104, 3) := by decide +kernel
theorem dX13_sayLetters_144 : decode cX13_sayLetters 144 = .ok (.iload 6, 2) := by decide +kernel
theorem dX13_sayLetters_146 : decode cX13_sayLetters 146 = .ok (.aload_n 0, 1) := by decide +kernel
theorem dX13_sayLetters_147 : decode cX13_sayLetters 147 = .ok (.getfield 104, 3) := by decide +kernel
theorem dX13_sayLetters_150 : decode cX13_sayLetters 150 = .ok (.iload 6, 2) := by decide +kernel
theorem dX13_sayLetters_152 : decode cX13_sayLetters 152 = .ok (.iconst 1, 1) := by decide +kernel
theorem dX13_sayLetters_153 : decode cX13_sayLetters 153 = .ok (.isub, 1) := by decide +kernel
theorem dX13_sayLetters_154 : decode cX13_sayLetters 154 = .ok (.baload, 1) := by decide +kernel
theorem dX13_sayLetters_155 : decode cX13_sayLetters 155 = .ok (.bastore, 1) := by decide +kernel
theorem dX13_sayLetters_156 : decode cX13_sayLetters 156 = .ok (.iinc 6 (-1), 3) := by decide +kernel
theorem dX13_sayLetters_159 : decode cX13_sayLetters 159 = .ok (.goto (-27), 3) := by decide +kernel
theorem dX13_sayLetters_162 : decode cX13_sayLetters 162 = .ok (.aload_n 0, 1) := by decide +kernel
theorem dX13_sayLetters_163 : decode cX13_sayLetters 163 = .ok (.dup, 1) := by decide +kernel
theorem dX13_sayLetters_164 : decode cX13_sayLetters 164 = .ok (.getfield 412, 3) := by decide +kernel
theorem dX13_sayLetters_167 : decode cX13_sayLetters 167 = .ok (.iconst 1, 1) := by decide +kernel
theorem dX13_sayLetters_168 : decode cX13_sayLetters 168 = .ok (.iadd, 1) := by decide +kernel
theorem dX13_sayLetters_169 : decode cX13_sayLetters 169 = .ok (.putfield 412, 3) := by decide +kernel
theorem dX13_sayLetters_172 : decode cX13_sayLetters 172 = .ok (.ldc2_w 465, 3) := by decide +kernel
theorem dX13_sayLetters_175 : decode cX13_sayLetters 175 = .ok (.ldc2_w 342, 3) := by decide +kernel
theorem dX13_sayLetters_178 : decode cX13_sayLetters 178 = .ok (.iload 4, 2) := by decide +kernel
theorem dX13_sayLetters_180 : decode cX13_sayLetters 180 = .ok (.i2l, 1) := by decide +kernel
theorem dX13_sayLetters_181 : decode cX13_sayLetters 181 = .ok (.lmul, 1) := by decide +kernel
theorem dX13_sayLetters_182 : decode cX13_sayLetters 182 = .ok (.ladd, 1) := by decide +kernel
theorem dX13_sayLetters_183 : decode cX13_sayLetters 183 = .ok (.aload_n 0, 1) := by decide +kernel
theorem dX13_sayLetters_184 : decode cX13_sayLetters 184 = .ok (.getfield 446, 3) := by decide +kernel
theorem dX13_sayLetters_187 : decode cX13_sayLetters 187 = .ok (.i2l, 1) := by decide +kernel
theorem dX13_sayLetters_188 : decode cX13_sayLetters 188 = .ok (.iconst 4, 1) := by decide +kernel
theorem dX13_sayLetters_189 : decode cX13_sayLetters 189 = .ok (.lshl, 1) := by decide +kernel
theorem dX13_sayLetters_190 : decode cX13_sayLetters 190 = .ok (.ladd, 1) := by decide +kernel
theorem dX13_sayLetters_191 : decode cX13_sayLetters 191 = .ok (.iload 5, 2) := by decide +kernel
theorem dX13_sayLetters_193 : decode cX13_sayLetters 193 = .ok (.i2l, 1) := by decide +kernel
theorem dX13_sayLetters_194 : decode cX13_sayLetters 194 = .ok (.iload 4, 2) := by decide +kernel
theorem dX13_sayLetters_196 : decode cX13_sayLetters 196 = .ok (.iconst 2, 1) := by decide +kernel
theorem dX13_sayLetters_197 : decode cX13_sayLetters 197 = .ok (.if_icmp .ne 8, 3) := by decide +kernel
theorem dX13_sayLetters_200 : decode cX13_sayLetters 200 = .ok (.bipush 18, 2) := by decide +kernel
theorem dX13_sayLetters_202 : decode cX13_sayLetters 202 = .ok (.goto 5, 3) := by decide +kernel
theorem dX13_sayLetters_205 : decode cX13_sayLetters 205 = .ok (.bipush 14, 2) := by decide +kernel
theorem dX13_sayLetters_207 : decode cX13_sayLetters 207 = .ok (.lshl, 1) := by decide +kernel
theorem dX13_sayLetters_208 : decode cX13_sayLetters 208 = .ok (.ladd, 1) := by decide +kernel
theorem dX13_sayLetters_209 : decode cX13_sayLetters 209 = .ok (.lstore 6, 2) := by decide +kernel
theorem dX13_sayLetters_211 : decode cX13_sayLetters 211 = .ok (.iconst 0, 1) := by decide +kernel
theorem dX13_sayLetters_212 : decode cX13_sayLetters 212 = .ok (.istore 8, 2) := by decide +kernel
theorem dX13_sayLetters_214 : decode cX13_sayLetters 214 = .ok (.iload 8, 2) := by decide +kernel
theorem dX13_sayLetters_216 : decode cX13_sayLetters 216 = .ok (.iload 4, 2) := by decide +kernel
theorem dX13_sayLetters_218 : decode cX13_sayLetters 218 = .ok (.iconst 2, 1) := by decide +kernel
theorem dX13_sayLetters_219 : decode cX13_sayLetters 219 = .ok (.if_icmp .ne 7, 3) := by decide +kernel
theorem dX13_sayLetters_222 : decode cX13_sayLetters 222 = .ok (.iconst 4, 1) := by decide +kernel
theorem dX13_sayLetters_223 : decode cX13_sayLetters 223 = .ok (.goto 4, 3) := by decide +kernel
theorem dX13_sayLetters_226 : decode cX13_sayLetters 226 = .ok (.iconst 3, 1) := by decide +kernel
theorem dX13_sayLetters_227 : decode cX13_sayLetters 227 = .ok (.if_icmp .ge 28, 3) := by decide +kernel
theorem dX13_sayLetters_230 : decode cX13_sayLetters 230 = .ok (.aload_n 0, 1) := by decide +kernel
theorem dX13_sayLetters_231 : decode cX13_sayLetters 231 = .ok (.getfield 104, 3) := by decide +kernel
theorem dX13_sayLetters_234 : decode cX13_sayLetters 234 = .ok (.iload_n 2, 1) := by decide +kernel
theorem dX13_sayLetters_235 : decode cX13_sayLetters 235 = .ok (.iload 8, 2) := by decide +kernel
theorem dX13_sayLetters_237 : decode cX13_sayLetters 237 = .ok (.iadd, 1) := by decide +kernel
theorem dX13_sayLetters_238 : decode cX13_sayLetters 238 = .ok (.lload 6, 2) := by decide +kernel
theorem dX13_sayLetters_240 : decode cX13_sayLetters 240 = .ok (.bipush 8, 2) := by decide +kernel
theorem dX13_sayLetters_242 : decode cX13_sayLetters 242 = .ok (.iload 8, 2) := by decide +kernel
theorem dX13_sayLetters_244 : decode cX13_sayLetters 244 = .ok (.imul, 1) := by decide +kernel
theorem dX13_sayLetters_245 : decode cX13_sayLetters 245 = .ok (.lshr, 1) := by decide +kernel
theorem dX13_sayLetters_246 : decode cX13_sayLetters 246 = .ok (.l2i, 1) := by decide +kernel
theorem dX13_sayLetters_247 : decode cX13_sayLetters 247 = .ok (.i2b, 1) := by decide +kernel
theorem dX13_sayLetters_248 : decode cX13_sayLetters 248 = .ok (.bastore, 1) := by decide +kernel
theorem dX13_sayLetters_249 : decode cX13_sayLetters 249 = .ok (.iinc 8 1, 3) := by decide +kernel
theorem dX13_sayLetters_252 : decode cX13_sayLetters 252 = .ok (.goto (-38), 3) := by decide +kernel
theorem dX13_sayLetters_255 : decode cX13_sayLetters 255 = .ok (.return_, 1) := by decide +kernel
theorem dX13_sayLetters_256 : decode cX13_sayLetters 256 = .ok (.aload_n 0, 1) := by decide +kernel
theorem dX13_sayLetters_257 : decode cX13_sayLetters 257 = .ok (.iload_n 2, 1) := by decide +kernel
theorem dX13_sayLetters_258 : decode cX13_sayLetters 258 = .ok (.putfield 412, 3) := by decide +kernel
theorem dX13_sayLetters_261 : decode cX13_sayLetters 261 = .ok (.aload_n 0, 1) := by decide +kernel
theorem dX13_sayLetters_262 : decode cX13_sayLetters 262 = .ok (.iconst 0, 1) := by decide +kernel
theorem dX13_sayLetters_263 : decode cX13_sayLetters 263 = .ok (.invokevirtual 453, 3) := by decide +kernel
theorem dX13_sayLetters_266 : decode cX13_sayLetters 266 = .ok (.iconst 0, 1) := by decide +kernel
theorem dX13_sayLetters_267 : decode cX13_sayLetters 267 = .ok (.istore_n 2, 1) := by decide +kernel
theorem dX13_sayLetters_268 : decode cX13_sayLetters 268 = .ok (.iload_n 2, 1) := by decide +kernel
theorem dX13_sayLetters_269 : decode cX13_sayLetters 269 = .ok (.aload_n 0, 1) := by decide +kernel
theorem dX13_sayLetters_270 : decode cX13_sayLetters 270 = .ok (.getfield 446, 3) := by decide +kernel
theorem dX13_sayLetters_273 : decode cX13_sayLetters 273 = .ok (.if_icmp .ge 21, 3) := by decide +kernel
theorem dX13_sayLetters_276 : decode cX13_sayLetters 276 = .ok (.aload_n 0, 1) := by decide +kernel
theorem dX13_sayLetters_277 : decode cX13_sayLetters 277 = .ok (.aload_n 0, 1) := by decide +kernel
theorem dX13_sayLetters_278 : decode cX13_sayLetters 278 = .ok (.getfield 135, 3) := by decide +kernel
theorem dX13_sayLetters_281 : decode cX13_sayLetters 281 = .ok (.iload_n 2, 1) := by decide +kernel
theorem dX13_sayLetters_282 : decode cX13_sayLetters 282 = .ok (.baload, 1) := by decide +kernel
theorem dX13_sayLetters_283 : decode cX13_sayLetters 283 = .ok (.i2l, 1) := by decide +kernel
theorem dX13_sayLetters_284 : decode cX13_sayLetters 284 = .ok (.iconst 1, 1) := by decide +kernel
theorem dX13_sayLetters_285 : decode cX13_sayLetters 285 = .ok (.invokevirtual 418, 3) := by decide +kernel
theorem dX13_sayLetters_288 : decode cX13_sayLetters 288 = .ok (.iinc 2 1, 3) := by decide +kernel
theorem dX13_sayLetters_291 : decode cX13_sayLetters 291 = .ok (.goto (-23), 3) := by decide +kernel
theorem dX13_sayLetters_294 : decode cX13_sayLetters 294 = .ok (.return_, 1) := by decide +kernel
theorem dX13_sayHead_0 : decode cX13_sayHead 0 = .ok (.aload_n 0, 1) := by decide +kernel
theorem dX13_sayHead_1 : decode cX13_sayHead 1 = .ok (.getfield 446, 3) := by decide +kernel
theorem dX13_sayHead_4 : decode cX13_sayHead 4 = .ok (.bipush 32, 2) := by decide +kernel
theorem dX13_sayHead_6 : decode cX13_sayHead 6 = .ok (.if_icmp .ge 21, 3) := by decide +kernel
theorem dX13_sayHead_9 : decode cX13_sayHead 9 = .ok (.aload_n 0, 1) := by decide +kernel
theorem dX13_sayHead_10 : decode cX13_sayHead 10 = .ok (.iload_n 1, 1) := by decide +kernel
theorem dX13_sayHead_11 : decode cX13_sayHead 11 = .ok (.bipush 8, 2) := by decide +kernel
theorem dX13_sayHead_13 : decode cX13_sayHead 13 = .ok (.aload_n 0, 1) := by decide +kernel
theorem dX13_sayHead_14 : decode cX13_sayHead 14 = .ok (.getfield 446, 3) := by decide +kernel
theorem dX13_sayHead_17 : decode cX13_sayHead 17 = .ok (.imul, 1) := by decide +kernel
theorem dX13_sayHead_18 : decode cX13_sayHead 18 = .ok (.iadd, 1) := by decide +kernel
theorem dX13_sayHead_19 : decode cX13_sayHead 19 = .ok (.i2l, 1) := by decide +kernel
theorem dX13_sayHead_20 : decode cX13_sayHead 20 = .ok (.iconst 1, 1) := by decide +kernel
theorem dX13_sayHead_21 : decode cX13_sayHead 21 = .ok (.invokevirtual 418, 3) := by decide +kernel
theorem dX13_sayHead_24 : decode cX13_sayHead 24 = .ok (.goto 20, 3) := by decide +kernel
theorem dX13_sayHead_27 : decode cX13_sayHead 27 = .ok (.aload_n 0, 1) := by decide +kernel
theorem dX13_sayHead_28 : decode cX13_sayHead 28 = .ok (.iload_n 1, 1) := by decide +kernel
theorem dX13_sayHead_29 : decode cX13_sayHead 29 = .ok (.iconst 4, 1) := by decide +kernel
theorem dX13_sayHead_30 : decode cX13_sayHead 30 = .ok (.iadd, 1) := by decide +kernel
theorem dX13_sayHead_31 : decode cX13_sayHead 31 = .ok (.bipush 16, 2) := by decide +kernel
theorem dX13_sayHead_33 : decode cX13_sayHead 33 = .ok (.aload_n 0, 1) := by decide +kernel
theorem dX13_sayHead_34 : decode cX13_sayHead 34 = .ok (.getfield 446, 3) := by decide +kernel
theorem dX13_sayHead_37 : decode cX13_sayHead 37 = .ok (.imul, 1) := by decide +kernel
theorem dX13_sayHead_38 : decode cX13_sayHead 38 = .ok (.iadd, 1) := by decide +kernel
theorem dX13_sayHead_39 : decode cX13_sayHead 39 = .ok (.i2l, 1) := by decide +kernel
theorem dX13_sayHead_40 : decode cX13_sayHead 40 = .ok (.iconst 2, 1) := by decide +kernel
theorem dX13_sayHead_41 : decode cX13_sayHead 41 = .ok (.invokevirtual 418, 3) := by decide +kernel
theorem dX13_sayHead_44 : decode cX13_sayHead 44 = .ok (.return_, 1) := by decide +kernel
theorem dX13_areCoded_0 : decode cX13_areCoded 0 = .ok (.iconst 0, 1) := by decide +kernel
theorem dX13_areCoded_1 : decode cX13_areCoded 1 = .ok (.istore_n 1, 1) := by decide +kernel
theorem dX13_areCoded_2 : decode cX13_areCoded 2 = .ok (.iload_n 1, 1) := by decide +kernel
theorem dX13_areCoded_3 : decode cX13_areCoded 3 = .ok (.aload_n 0, 1) := by decide +kernel
theorem dX13_areCoded_4 : decode cX13_areCoded 4 = .ok (.getfield 446, 3) := by decide +kernel
theorem dX13_areCoded_7 : decode cX13_areCoded 7 = .ok (.if_icmp .ge 20, 3) := by decide +kernel
theorem dX13_areCoded_10 : decode cX13_areCoded 10 = .ok (.aload_n 0, 1) := by decide +kernel
theorem dX13_areCoded_11 : decode cX13_areCoded 11 = .ok (.getfield 135, 3) := by decide +kernel
theorem dX13_areCoded_14 : decode cX13_areCoded 14 = .ok (.iload_n 1, 1) := by decide +kernel
theorem dX13_areCoded_15 : decode cX13_areCoded 15 = .ok (.baload, 1) := by decide +kernel
theorem dX13_areCoded_16 : decode cX13_areCoded 16 = .ok (.ifCond .ge 5, 3) := by decide +kernel
theorem dX13_areCoded_19 : decode cX13_areCoded 19 = .ok (.iconst 0, 1) := by decide +kernel
theorem dX13_areCoded_20 : decode cX13_areCoded 20 = .ok (.ireturn, 1) := by decide +kernel
theorem dX13_areCoded_21 : decode cX13_areCoded 21 = .ok (.iinc 1 1, 3) := by decide +kernel
theorem dX13_areCoded_24 : decode cX13_areCoded 24 = .ok (.goto (-22), 3) := by decide +kernel
theorem dX13_areCoded_27 : decode cX13_areCoded 27 = .ok (.aload_n 0, 1) := by decide +kernel
theorem dX13_areCoded_28 : decode cX13_areCoded 28 = .ok (.aload_n 0, 1) := by decide +kernel
theorem dX13_areCoded_29 : decode cX13_areCoded 29 = .ok (.getfield 135, 3) := by decide +kernel
theorem dX13_areCoded_32 : decode cX13_areCoded 32 = .ok (.iconst 0, 1) := by decide +kernel
theorem dX13_areCoded_33 : decode cX13_areCoded 33 = .ok (.aload_n 0, 1) := by decide +kernel
theorem dX13_areCoded_34 : decode cX13_areCoded 34 = .ok (.getfield 446, 3) := by decide +kernel
theorem dX13_areCoded_37 : decode cX13_areCoded 37 = .ok (.invokevirtual 430, 3) := by decide +kernel
theorem dX13_areCoded_40 : decode cX13_areCoded 40 = .ok (.ifCond .ne 7, 3) := by decide +kernel
theorem dX13_areCoded_43 : decode cX13_areCoded 43 = .ok (.iconst 1, 1) := by decide +kernel
theorem dX13_areCoded_44 : decode cX13_areCoded 44 = .ok (.goto 4, 3) := by decide +kernel
theorem dX13_areCoded_47 : decode cX13_areCoded 47 = .ok (.iconst 0, 1) := by decide +kernel
theorem dX13_areCoded_48 : decode cX13_areCoded 48 = .ok (.ireturn, 1) := by decide +kernel
theorem dX13_least_0 : decode cX13_least 0 = .ok (.iconst (-1), 1) := by decide +kernel
theorem dX13_least_1 : decode cX13_least 1 = .ok (.istore_n 2, 1) := by decide +kernel
theorem dX13_least_2 : decode cX13_least 2 = .ok (.iconst 0, 1) := by decide +kernel
theorem dX13_least_3 : decode cX13_least 3 = .ok (.istore_n 3, 1) := by decide +kernel
theorem dX13_least_4 : decode cX13_least 4 = .ok (.iload_n 3, 1) := by decide +kernel
theorem dX13_least_5 : decode cX13_least 5 = .ok (.iload_n 1, 1) := by decide +kernel
theorem dX13_least_6 : decode cX13_least 6 = .ok (.if_icmp .ge 40, 3) := by decide +kernel
theorem dX13_least_9 : decode cX13_least 9 = .ok (.aload_n 0, 1) := by decide +kernel
theorem dX13_least_10 : decode cX13_least 10 = .ok (.getfield 147, 3) := by decide +kernel
theorem dX13_least_13 : decode cX13_least 13 = .ok (.iload_n 3, 1) := by decide +kernel
theorem dX13_least_14 : decode cX13_least 14 = .ok (.baload, 1) := by decide +kernel
theorem dX13_least_15 : decode cX13_least 15 = .ok (.ifCond .ne 25, 3) := by decide +kernel
theorem dX13_least_18 : decode cX13_least 18 = .ok (.iload_n 2, 1) := by decide +kernel
theorem dX13_least_19 : decode cX13_least 19 = .ok (.ifCond .lt 19, 3) := by decide +kernel
theorem dX13_least_22 : decode cX13_least 22 = .ok (.aload_n 0, 1) := by decide +kernel
theorem dX13_least_23 : decode cX13_least 23 = .ok (.getfield 141, 3) := by decide +kernel
theorem dX13_least_26 : decode cX13_least 26 = .ok (.iload_n 3, 1) := by decide +kernel
theorem dX13_least_27 : decode cX13_least 27 = .ok (.laload, 1) := by decide +kernel
theorem dX13_least_28 : decode cX13_least 28 = .ok (.aload_n 0, 1) := by decide +kernel
theorem dX13_least_29 : decode cX13_least 29 = .ok (.getfield 141, 3) := by decide +kernel
theorem dX13_least_32 : decode cX13_least 32 = .ok (.iload_n 2, 1) := by decide +kernel
theorem dX13_least_33 : decode cX13_least 33 = .ok (.laload, 1) := by decide +kernel
theorem dX13_least_34 : decode cX13_least 34 = .ok (.lcmp, 1) := by decide +kernel
theorem dX13_least_35 : decode cX13_least 35 = .ok (.ifCond .ge 5, 3) := by decide +kernel
theorem dX13_least_38 : decode cX13_least 38 = .ok (.iload_n 3, 1) := by decide +kernel
theorem dX13_least_39 : decode cX13_least 39 = .ok (.istore_n 2, 1) := by decide +kernel
theorem dX13_least_40 : decode cX13_least 40 = .ok (.iinc 3 1, 3) := by decide +kernel
theorem dX13_least_43 : decode cX13_least 43 = .ok (.goto (-39), 3) := by decide +kernel
theorem dX13_least_46 : decode cX13_least 46 = .ok (.iload_n 2, 1) := by decide +kernel
theorem dX13_least_47 : decode cX13_least 47 = .ok (.ireturn, 1) := by decide +kernel
theorem dX13_depths_0 : decode cX13_depths 0 = .ok (.iconst 0, 1) := by decide +kernel
theorem dX13_depths_1 : decode cX13_depths 1 = .ok (.istore_n 1, 1) := by decide +kernel
theorem dX13_depths_2 : decode cX13_depths 2 = .ok (.iload_n 1, 1) := by decide +kernel
theorem dX13_depths_3 : decode cX13_depths 3 = .ok (.sipush 256, 3) := by decide +kernel
theorem dX13_depths_6 : decode cX13_depths 6 = .ok (.if_icmp .ge 16, 3) := by decide +kernel
theorem dX13_depths_9 : decode cX13_depths 9 = .ok (.aload_n 0, 1) := by decide +kernel
theorem dX13_depths_10 : decode cX13_depths 10 = .ok (.getfield 141, 3) := by decide +kernel
theorem dX13_depths_13 : decode cX13_depths 13 = .ok (.iload_n 1, 1) := by decide +kernel
theorem dX13_depths_14 : decode cX13_depths 14 = .ok (.lconst 0, 1) := by decide +kernel
theorem dX13_depths_15 : decode cX13_depths 15 = .ok (.lastore, 1) := by decide +kernel
theorem dX13_depths_16 : decode cX13_depths 16 = .ok (.iinc 1 1, 3) := by decide +kernel
theorem dX13_depths_19 : decode cX13_depths 19 = .ok (.goto (-17), 3) := by decide +kernel
theorem dX13_depths_22 : decode cX13_depths 22 = .ok (.iconst 0, 1) := by decide +kernel
theorem dX13_depths_23 : decode cX13_depths 23 = .ok (.istore_n 1, 1) := by decide +kernel
theorem dX13_depths_24 : decode cX13_depths 24 = .ok (.iload_n 1, 1) := by decide +kernel
theorem dX13_depths_25 : decode cX13_depths 25 = .ok (.aload_n 0, 1) := by decide +kernel
theorem dX13_depths_26 : decode cX13_depths 26 = .ok (.getfield 446, 3) := by decide +kernel
theorem dX13_depths_29 : decode cX13_depths 29 = .ok (.if_icmp .ge 24, 3) := by decide +kernel
theorem dX13_depths_32 : decode cX13_depths 32 = .ok (.aload_n 0, 1) := by decide +kernel
theorem dX13_depths_33 : decode cX13_depths 33 = .ok (.getfield 141, 3) := by decide +kernel
theorem dX13_depths_36 : decode cX13_depths 36 = .ok (.aload_n 0, 1) := by decide +kernel
theorem dX13_depths_37 : decode cX13_depths 37 = .ok (.getfield 135, 3) := by decide +kernel
theorem dX13_depths_40 : decode cX13_depths 40 = .ok (.iload_n 1, 1) := by decide +kernel
theorem dX13_depths_41 : decode cX13_depths 41 = .ok (.baload, 1) := by decide +kernel
theorem dX13_depths_42 : decode cX13_depths 42 = .ok (.dup2, 1) := by decide +kernel
theorem dX13_depths_43 : decode cX13_depths 43 = .ok (.laload, 1) := by decide +kernel
theorem dX13_depths_44 : decode cX13_depths 44 = .ok (.lconst 1, 1) := by decide +kernel
theorem dX13_depths_45 : decode cX13_depths 45 = .ok (.ladd, 1) := by decide +kernel
theorem dX13_depths_46 : decode cX13_depths 46 = .ok (.lastore, 1) := by decide +kernel
theorem dX13_depths_47 : decode cX13_depths 47 = .ok (.iinc 1 1, 3) := by decide +kernel
theorem dX13_depths_50 : decode cX13_depths 50 = .ok (.goto (-26), 3) := by decide +kernel
theorem dX13_depths_53 : decode cX13_depths 53 = .ok (.iconst 0, 1) := by decide +kernel
theorem dX13_depths_54 : decode cX13_depths 54 = .ok (.istore_n 1, 1) := by decide +kernel
theorem dX13_depths_55 : decode cX13_depths 55 = .ok (.sipush 256, 3) := by decide +kernel
theorem dX13_depths_58 : decode cX13_depths 58 = .ok (.istore_n 2, 1) := by decide +kernel
theorem dX13_depths_59 : decode cX13_depths 59 = .ok (.iconst 0, 1) := by decide +kernel
theorem dX13_depths_60 : decode cX13_depths 60 = .ok (.istore_n 3, 1) := by decide +kernel
theorem dX13_depths_61 : decode cX13_depths 61 = .ok (.iload_n 3, 1) := by decide +kernel
theorem dX13_depths_62 : decode cX13_depths 62 = .ok (.sipush 256, 3) := by decide +kernel
theorem dX13_depths_65 : decode cX13_depths 65 = .ok (.if_icmp .ge 55, 3) := by decide +kernel
theorem dX13_depths_68 : decode cX13_depths 68 = .ok (.aload_n 0, 1) := by decide +kernel
theorem dX13_depths_69 : decode cX13_depths 69 = .ok (.getfield 147, 3) := by decide +kernel
theorem dX13_depths_72 : decode cX13_depths 72 = .ok (.iload_n 3, 1) := by decide +kernel
theorem dX13_depths_73 : decode cX13_depths 73 = .ok (.aload_n 0, 1) := by decide +kernel
theorem dX13_depths_74 : decode cX13_depths 74 = .ok (.getfield 141, 3) := by decide +kernel
theorem dX13_depths_77 : decode cX13_depths 77 = .ok (.iload_n 3, 1) := by decide +kernel
theorem dX13_depths_78 : decode cX13_depths 78 = .ok (.laload, 1) := by decide +kernel
theorem dX13_depths_79 : decode cX13_depths 79 = .ok (.lconst 0, 1) := by decide +kernel
theorem dX13_depths_80 : decode cX13_depths 80 = .ok (.lcmp, 1) := by decide +kernel
theorem dX13_depths_81 : decode cX13_depths 81 = .ok (.ifCond .ne 7, 3) := by decide +kernel
theorem dX13_depths_84 : decode cX13_depths 84 = .ok (.iconst 1, 1) := by decide +kernel
theorem dX13_depths_85 : decode cX13_depths 85 = .ok (.goto 4, 3) := by decide +kernel
theorem dX13_depths_88 : decode cX13_depths 88 = .ok (.iconst 0, 1) := by decide +kernel
theorem dX13_depths_89 : decode cX13_depths 89 = .ok (.bastore, 1) := by decide +kernel
theorem dX13_depths_90 : decode cX13_depths 90 = .ok (.iload_n 1, 1) := by decide +kernel
theorem dX13_depths_91 : decode cX13_depths 91 = .ok (.aload_n 0, 1) := by decide +kernel
theorem dX13_depths_92 : decode cX13_depths 92 = .ok (.getfield 147, 3) := by decide +kernel
theorem dX13_depths_95 : decode cX13_depths 95 = .ok (.iload_n 3, 1) := by decide +kernel
theorem dX13_depths_96 : decode cX13_depths 96 = .ok (.baload, 1) := by decide +kernel
theorem dX13_depths_97 : decode cX13_depths 97 = .ok (.ifCond .eq 7, 3) := by decide +kernel
theorem dX13_depths_100 : decode cX13_depths 100 = .ok (.iconst 0, 1) := by decide +kernel
theorem dX13_depths_101 : decode cX13_depths 101 = .ok (.goto 4, 3) := by decide +kernel
theorem dX13_depths_104 : decode cX13_depths 104 = .ok (.iconst 1, 1) := by decide +kernel
theorem dX13_depths_105 : decode cX13_depths 105 = .ok (.iadd, 1) := by decide +kernel
theorem dX13_depths_106 : decode cX13_depths 106 = .ok (.istore_n 1, 1) := by decide +kernel
theorem dX13_depths_107 : decode cX13_depths 107 = .ok (.aload_n 0, 1) := by decide +kernel
theorem dX13_depths_108 : decode cX13_depths 108 = .ok (.getfield 144, 3) := by decide +kernel
theorem dX13_depths_111 : decode cX13_depths 111 = .ok (.iload_n 3, 1) := by decide +kernel
theorem dX13_depths_112 : decode cX13_depths 112 = .ok (.iconst (-1), 1) := by decide +kernel
theorem dX13_depths_113 : decode cX13_depths 113 = .ok (.iastore, 1) := by decide +kernel
theorem dX13_depths_114 : decode cX13_depths 114 = .ok (.iinc 3 1, 3) := by decide +kernel
theorem dX13_depths_117 : decode cX13_depths 117 = .ok (.goto (-56), 3) := by decide +kernel
theorem dX13_depths_120 : decode cX13_depths 120 = .ok (.iload_n 1, 1) := by decide +kernel
theorem dX13_depths_121 : decode cX13_depths 121 = .ok (.iconst 1, 1) := by decide +kernel
theorem dX13_depths_122 : decode cX13_depths 122 = .ok (.if_icmp .le 89, 3) := by decide +kernel
theorem dX13_depths_125 : decode cX13_depths 125 = .ok (.aload_n 0, 1) := by decide +kernel
theorem dX13_depths_126 : decode cX13_depths 126 = .ok (.iload_n 2, 1) := by decide +kernel
theorem dX13_depths_127 : decode cX13_depths 127 = .ok (.invokevirtual 467, 3) := by decide +kernel
theorem dX13_depths_130 : decode cX13_depths 130 = .ok (.istore_n 3, 1) := by decide +kernel
theorem dX13_depths_131 : decode cX13_depths 131 = .ok (.aload_n 0, 1) := by decide +kernel
theorem dX13_depths_132 : decode cX13_depths 132 = .ok (.getfield 147, 3) := by decide +kernel
theorem dX13_depths_135 : decode cX13_depths 135 = .ok (.iload_n 3, 1) := by decide +kernel
theorem dX13_depths_136 : decode cX13_depths 136 = .ok (.iconst 1, 1) := by decide +kernel
theorem dX13_depths_137 : decode cX13_depths 137 = .ok (.bastore, 1) := by decide +kernel
theorem dX13_depths_138 : decode cX13_depths 138 = .ok (.aload_n 0, 1) := by decide +kernel
theorem dX13_depths_139 : decode cX13_depths 139 = .ok (.iload_n 2, 1) := by decide +kernel
theorem dX13_depths_140 : decode cX13_depths 140 = .ok (.invokevirtual 467, 3) := by decide +kernel
theorem dX13_depths_143 : decode cX13_depths 143 = .ok (.istore 4, 2) := by decide +kernel
theorem dX13_depths_145 : decode cX13_depths 145 = .ok (.aload_n 0, 1) := by decide +kernel
theorem dX13_depths_146 : decode cX13_depths 146 = .ok (.getfield 147, 3) := by decide +kernel
theorem dX13_depths_149 : decode cX13_depths 149 = .ok (.iload 4, 2) := by decide +kernel
theorem dX13_depths_151 : decode cX13_depths 151 = .ok (.iconst 1, 1) := by decide +kernel
theorem dX13_depths_152 : decode cX13_depths 152 = .ok (.bastore, 1) := by decide +kernel
theorem dX13_depths_153 : decode cX13_depths 153 = .ok (.aload_n 0, 1) := by decide +kernel
theorem dX13_depths_154 : decode cX13_depths 154 = .ok (.getfield 141, 3) := by decide +kernel
theorem dX13_depths_157 : decode cX13_depths 157 = .ok (.iload_n 2, 1) := by decide +kernel
theorem dX13_depths_158 : decode cX13_depths 158 = .ok (.aload_n 0, 1) := by decide +kernel
theorem dX13_depths_159 : decode cX13_depths 159 = .ok (.getfield 141, 3) := by decide +kernel
theorem dX13_depths_162 : decode cX13_depths 162 = .ok (.iload_n 3, 1) := by decide +kernel
theorem dX13_depths_163 : decode cX13_depths 163 = .ok (.laload, 1) := by decide +kernel
theorem dX13_depths_164 : decode cX13_depths 164 = .ok (.aload_n 0, 1) := by decide +kernel
theorem dX13_depths_165 : decode cX13_depths 165 = .ok (.getfield 141, 3) := by decide +kernel
theorem dX13_depths_168 : decode cX13_depths 168 = .ok (.iload 4, 2) := by decide +kernel
theorem dX13_depths_170 : decode cX13_depths 170 = .ok (.laload, 1) := by decide +kernel
theorem dX13_depths_171 : decode cX13_depths 171 = .ok (.ladd, 1) := by decide +kernel
theorem dX13_depths_172 : decode cX13_depths 172 = .ok (.lastore, 1) := by decide +kernel
theorem dX13_depths_173 : decode cX13_depths 173 = .ok (.aload_n 0, 1) := by decide +kernel
theorem dX13_depths_174 : decode cX13_depths 174 = .ok (.getfield 147, 3) := by decide +kernel
theorem dX13_depths_177 : decode cX13_depths 177 = .ok (.iload_n 2, 1) := by decide +kernel
theorem dX13_depths_178 : decode cX13_depths 178 = .ok (.iconst 0, 1) := by decide +kernel
theorem dX13_depths_179 : decode cX13_depths 179 = .ok (.bastore, 1) := by decide +kernel
theorem dX13_depths_180 : decode cX13_depths 180 = .ok (.aload_n 0, 1) := by decide +kernel
theorem dX13_depths_181 : decode cX13_depths 181 = .ok (.getfield 144, 3) := by decide +kernel
theorem dX13_depths_184 : decode cX13_depths 184 = .ok (.iload_n 2, 1) := by decide +kernel
theorem dX13_depths_185 : decode cX13_depths 185 = .ok (.iconst (-1), 1) := by decide +kernel
theorem dX13_depths_186 : decode cX13_depths 186 = .ok (.iastore, 1) := by decide +kernel
theorem dX13_depths_187 : decode cX13_depths 187 = .ok (.aload_n 0, 1) := by decide +kernel
theorem dX13_depths_188 : decode cX13_depths 188 = .ok (.getfield 144, 3) := by decide +kernel
theorem dX13_depths_191 : decode cX13_depths 191 = .ok (.iload_n 3, 1) := by decide +kernel
theorem dX13_depths_192 : decode cX13_depths 192 = .ok (.iload_n 2, 1) := by decide +kernel
theorem dX13_depths_193 : decode cX13_depths 193 = .ok (.iastore, 1) := by decide +kernel
theorem dX13_depths_194 : decode cX13_depths 194 = .ok (.aload_n 0, 1) := by decide +kernel
theorem dX13_depths_195 : decode cX13_depths 195 = .ok (.getfield 144, 3) := by decide +kernel
theorem dX13_depths_198 : decode cX13_depths 198 = .ok (.iload 4, 2) := by decide +kernel
theorem dX13_depths_200 : decode cX13_depths 200 = .ok (.iload_n 2, 1) := by decide +kernel
theorem dX13_depths_201 : decode cX13_depths 201 = .ok (.iastore, 1) := by decide +kernel
theorem dX13_depths_202 : decode cX13_depths 202 = .ok (.iinc 2 1, 3) := by decide +kernel
theorem dX13_depths_205 : decode cX13_depths 205 = .ok (.iinc 1 (-1), 3) := by decide +kernel
theorem dX13_depths_208 : decode cX13_depths 208 = .ok (.goto (-88), 3) := by decide +kernel
theorem dX13_depths_211 : decode cX13_depths 211 = .ok (.iconst 0, 1) := by decide +kernel
theorem dX13_depths_212 : decode cX13_depths 212 = .ok (.istore_n 3, 1) := by decide +kernel
theorem dX13_depths_213 : decode cX13_depths 213 = .ok (.iconst 0, 1) := by decide +kernel
theorem dX13_depths_214 : decode cX13_depths 214 = .ok (.istore 4, 2) := by decide +kernel
theorem dX13_depths_216 : decode cX13_depths 216 = .ok (.iload 4, 2) := by decide +kernel
theorem dX13_depths_218 : decode cX13_depths 218 = .ok (.sipush 256, 3) := by decide +kernel
theorem dX13_depths_221 : decode cX13_depths 221 = .ok (.if_icmp .ge 67, 3) := by decide +kernel
theorem dX13_depths_224 : decode cX13_depths 224 = .ok (.iconst 0, 1) := by decide +kernel
theorem dX13_depths_225 : decode cX13_depths 225 = .ok (.istore 5, 2) := by decide +kernel
theorem dX13_depths_227 : decode cX13_depths 227 = .ok (.aload_n 0, 1) := by decide +kernel
theorem dX13_depths_228 : decode cX13_depths 228 = .ok (.getfield 144, 3) := by decide +kernel
theorem dX13_depths_231 : decode cX13_depths 231 = .ok (.iload 4, 2) := by decide +kernel
theorem dX13_depths_233 : decode cX13_depths 233 = .ok (.iaload, 1) := by decide +kernel
theorem dX13_depths_234 : decode cX13_depths 234 = .ok (.istore 6, 2) := by decide +kernel
theorem dX13_depths_236 : decode cX13_depths 236 = .ok (.iload 6, 2) := by decide +kernel
theorem dX13_depths_238 : decode cX13_depths 238 = .ok (.ifCond .lt 18, 3) := by decide +kernel
theorem dX13_depths_241 : decode cX13_depths 241 = .ok (.iinc 5 1, 3) := by decide +kernel
theorem dX13_depths_244 : decode cX13_depths 244 = .ok (.aload_n 0, 1) := by decide +kernel
theorem dX13_depths_245 : decode cX13_depths 245 = .ok (.getfield 144, 3) := by decide +kernel
theorem dX13_depths_248 : decode cX13_depths 248 = .ok (.iload 6, 2) := by decide +kernel
theorem dX13_depths_250 : decode cX13_depths 250 = .ok (.iaload, 1) := by decide +kernel
theorem dX13_depths_251 : decode cX13_depths 251 = .ok (.istore 6, 2) := by decide +kernel
theorem dX13_depths_253 : decode cX13_depths 253 = .ok (.goto (-17), 3) := by decide +kernel
theorem dX13_depths_256 : decode cX13_depths 256 = .ok (.aload_n 0, 1) := by decide +kernel
theorem dX13_depths_257 : decode cX13_depths 257 = .ok (.getfield 47, 3) := by decide +kernel
theorem dX13_depths_260 : decode cX13_depths 260 = .ok (.sipush 512, 3) := by decide +kernel
theorem dX13_depths_263 : decode cX13_depths 263 = .ok (.iload 4, 2) := by decide +kernel
theorem dX13_depths_265 : decode cX13_depths 265 = .ok (.iadd, 1) := by decide +kernel
theorem dX13_depths_266 : decode cX13_depths 266 = .ok (.iload 5, 2) := by decide +kernel
theorem dX13_depths_268 : decode cX13_depths 268 = .ok (.iastore, 1) := by decide +kernel
theorem dX13_depths_269 : decode cX13_depths 269 = .ok (.iload 5, 2) := by decide +kernel
theorem dX13_depths_271 : decode cX13_depths 271 = .ok (.iload_n 3, 1) := by decide +kernel
theorem dX13_depths_272 : decode cX13_depths 272 = .ok (.if_icmp .le 8, 3) := by decide +kernel
theorem dX13_depths_275 : decode cX13_depths 275 = .ok (.iload 5, 2) := by decide +kernel
theorem dX13_depths_277 : decode cX13_depths 277 = .ok (.goto 4, 3) := by decide +kernel
theorem dX13_depths_280 : decode cX13_depths 280 = .ok (.iload_n 3, 1) := by decide +kernel
theorem dX13_depths_281 : decode cX13_depths 281 = .ok (.istore_n 3, 1) := by decide +kernel
theorem dX13_depths_282 : decode cX13_depths 282 = .ok (.iinc 4 1, 3) := by decide +kernel
theorem dX13_depths_285 : decode cX13_depths 285 = .ok (.goto (-69), 3) := by decide +kernel
theorem dX13_depths_288 : decode cX13_depths 288 = .ok (.iload_n 3, 1) := by decide +kernel
theorem dX13_depths_289 : decode cX13_depths 289 = .ok (.bipush 11, 2) := by decide +kernel
theorem dX13_depths_291 : decode cX13_depths 291 = .ok (.if_icmp .gt 5, 3) := by decide +kernel
theorem dX13_depths_294 : decode cX13_depths 294 = .ok (.iload_n 3, 1) := by decide +kernel
theorem dX13_depths_295 : decode cX13_depths 295 = .ok (.ireturn, 1) := by decide +kernel
theorem dX13_depths_296 : decode cX13_depths 296 = .ok (.iconst 0, 1) := by decide +kernel
theorem dX13_depths_297 : decode cX13_depths 297 = .ok (.istore 4, 2) := by decide +kernel
theorem dX13_depths_299 : decode cX13_depths 299 = .ok (.iload 4, 2) := by decide +kernel
theorem dX13_depths_301 : decode cX13_depths 301 = .ok (.sipush 256, 3) := by decide +kernel
theorem dX13_depths_304 : decode cX13_depths 304 = .ok (.if_icmp .ge 29, 3) := by decide +kernel
theorem dX13_depths_307 : decode cX13_depths 307 = .ok (.aload_n 0, 1) := by decide +kernel
theorem dX13_depths_308 : decode cX13_depths 308 = .ok (.getfield 141, 3) := by decide +kernel
theorem dX13_depths_311 : decode cX13_depths 311 = .ok (.iload 4, 2) := by decide +kernel
theorem dX13_depths_313 : decode cX13_depths 313 = .ok (.aload_n 0, 1) := by decide +kernel
theorem dX13_depths_314 : decode cX13_depths 314 = .ok (.getfield 141, 3) := by decide +kernel
theorem dX13_depths_317 : decode cX13_depths 317 = .ok (.iload 4, 2) := by decide +kernel
theorem dX13_depths_319 : decode cX13_depths 319 = .ok (.laload, 1) := by decide +kernel
theorem dX13_depths_320 : decode cX13_depths 320 = .ok (.lconst 1, 1) := by decide +kernel
theorem dX13_depths_321 : decode cX13_depths 321 = .ok (.ladd, 1) := by decide +kernel
theorem dX13_depths_322 : decode cX13_depths 322 = .ok (.ldc2_w 465, 3) := by decide +kernel
theorem dX13_depths_325 : decode cX13_depths 325 = .ok (.ldiv, 1) := by decide +kernel
theorem dX13_depths_326 : decode cX13_depths 326 = .ok (.lastore, 1) := by decide +kernel
theorem dX13_depths_327 : decode cX13_depths 327 = .ok (.iinc 4 1, 3) := by decide +kernel
theorem dX13_depths_330 : decode cX13_depths 330 = .ok (.goto (-31), 3) := by decide +kernel
theorem dX13_depths_333 : decode cX13_depths 333 = .ok (.goto (-280), 3) := by decide +kernel
theorem dX13_sayCode_0 : decode cX13_sayCode 0 = .ok (.aload_n 0, 1) := by decide +kernel
theorem dX13_sayCode_1 : decode cX13_sayCode 1 = .ok (.invokevirtual 470, 3) := by decide +kernel
theorem dX13_sayCode_4 : decode cX13_sayCode 4 = .ok (.istore_n 1, 1) := by decide +kernel
theorem dX13_sayCode_5 : decode cX13_sayCode 5 = .ok (.sipush 255, 3) := by decide +kernel
theorem dX13_sayCode_8 : decode cX13_sayCode 8 = .ok (.istore_n 2, 1) := by decide +kernel
theorem dX13_sayCode_9 : decode cX13_sayCode 9 = .ok (.aload_n 0, 1) := by decide +kernel
theorem dX13_sayCode_10 : decode cX13_sayCode 10 = .ok (.getfield 47, 3) := by decide +kernel
theorem dX13_sayCode_13 : decode cX13_sayCode 13 = .ok (.sipush 512, 3) := by decide +kernel
theorem dX13_sayCode_16 : decode cX13_sayCode 16 = .ok (.iload_n 2, 1) := by decide +kernel
theorem dX13_sayCode_17 : decode cX13_sayCode 17 = .ok (.iadd, 1) := by decide +kernel
theorem dX13_sayCode_18 : decode cX13_sayCode 18 = .ok (.iaload, 1) := by decide +kernel
theorem dX13_sayCode_19 : decode cX13_sayCode 19 = .ok (.ifCond .ne 9, 3) := by decide +kernel
theorem dX13_sayCode_22 : decode cX13_sayCode 22 = .ok (.iinc 2 (-1), 3) := by decide +kernel
theorem dX13_sayCode_25 : decode cX13_sayCode 25 = .ok (.goto (-16), 3) := by decide +kernel
theorem dX13_sayCode_28 : decode cX13_sayCode 28 = .ok (.iconst 0, 1) := by decide +kernel
theorem dX13_sayCode_29 : decode cX13_sayCode 29 = .ok (.istore_n 3, 1) := by decide +kernel
theorem dX13_sayCode_30 : decode cX13_sayCode 30 = .ok (.iload_n 3, 1) := by decide +kernel
theorem dX13_sayCode_31 : decode cX13_sayCode 31 = .ok (.sipush 256, 3) := by decide +kernel
theorem dX13_sayCode_34 : decode cX13_sayCode 34 = .ok (.if_icmp .ge 46, 3) := by decide +kernel
theorem dX13_sayCode_37 : decode cX13_sayCode 37 = .ok (.aload_n 0, 1) := by decide +kernel
theorem dX13_sayCode_38 : decode cX13_sayCode 38 = .ok (.getfield 59, 3) := by decide +kernel
theorem dX13_sayCode_41 : decode cX13_sayCode 41 = .ok (.iload_n 3, 1) := by decide +kernel
theorem dX13_sayCode_42 : decode cX13_sayCode 42 = .ok (.aload_n 0, 1) := by decide +kernel
theorem dX13_sayCode_43 : decode cX13_sayCode 43 = .ok (.getfield 47, 3) := by decide +kernel
theorem dX13_sayCode_46 : decode cX13_sayCode 46 = .ok (.sipush 512, 3) := by decide +kernel
theorem dX13_sayCode_49 : decode cX13_sayCode 49 = .ok (.iload_n 3, 1) := by decide +kernel
theorem dX13_sayCode_50 : decode cX13_sayCode 50 = .ok (.iadd, 1) := by decide +kernel
theorem dX13_sayCode_51 : decode cX13_sayCode 51 = .ok (.iaload, 1) := by decide +kernel
theorem dX13_sayCode_52 : decode cX13_sayCode 52 = .ok (.ifCond .le 20, 3) := by decide +kernel
theorem dX13_sayCode_55 : decode cX13_sayCode 55 = .ok (.iload_n 1, 1) := by decide +kernel
theorem dX13_sayCode_56 : decode cX13_sayCode 56 = .ok (.iconst 1, 1) := by decide +kernel
theorem dX13_sayCode_57 : decode cX13_sayCode 57 = .ok (.iadd, 1) := by decide +kernel
theorem dX13_sayCode_58 : decode cX13_sayCode 58 = .ok (.aload_n 0, 1) := by decide +kernel
theorem dX13_sayCode_59 : decode cX13_sayCode 59 = .ok (.getfield 47, 3) := by decide +kernel
theorem dX13_sayCode_62 : decode cX13_sayCode 62 = .ok (.sipush 512, 3) := by decide +kernel
theorem dX13_sayCode_65 : decode cX13_sayCode 65 = .ok (.iload_n 3, 1) := by decide +kernel
theorem dX13_sayCode_66 : decode cX13_sayCode 66 = .ok (.iadd, 1) := by decide +kernel
theorem dX13_sayCode_67 : decode cX13_sayCode 67 = .ok (.iaload, 1) := by decide +kernel
theorem dX13_sayCode_68 : decode cX13_sayCode 68 = .ok (.isub, 1) := by decide +kernel
theorem dX13_sayCode_69 : decode cX13_sayCode 69 = .ok (.goto 4, 3) := by decide +kernel
theorem dX13_sayCode_72 : decode cX13_sayCode 72 = .ok (.iconst 0, 1) := by decide +kernel
theorem dX13_sayCode_73 : decode cX13_sayCode 73 = .ok (.iastore, 1) := by decide +kernel
theorem dX13_sayCode_74 : decode cX13_sayCode 74 = .ok (.iinc 3 1, 3) := by decide +kernel
theorem dX13_sayCode_77 : decode cX13_sayCode 77 = .ok (.goto (-47), 3) := by decide +kernel
theorem dX13_sayCode_80 : decode cX13_sayCode 80 = .ok (.aload_n 0, 1) := by decide +kernel
