/-! what the bytes say -/
theorem dZ_law_0 : decode mZ_law.2.1 0 = .ok (.new 7, 3) := by decide +kernel
theorem dZ_law_3 : decode mZ_law.2.1 3 = .ok (.dup, 1) := by decide +kernel
theorem dZ_law_4 : decode mZ_law.2.1 4 = .ok (.invokespecial 9, 3) := by decide +kernel
theorem dZ_law_7 : decode mZ_law.2.1 7 = .ok (.astore_n 1, 1) := by decide +kernel
theorem dZ_law_8 : decode mZ_law.2.1 8 = .ok (.new 10, 3) := by decide +kernel
theorem dZ_law_11 : decode mZ_law.2.1 11 = .ok (.dup, 1) := by decide +kernel
theorem dZ_law_12 : decode mZ_law.2.1 12 = .ok (.invokespecial 12, 3) := by decide +kernel
theorem dZ_law_15 : decode mZ_law.2.1 15 = .ok (.astore_n 2, 1) := by decide +kernel
theorem dZ_law_16 : decode mZ_law.2.1 16 = .ok (.iconst 0, 1) := by decide +kernel
theorem dZ_law_17 : decode mZ_law.2.1 17 = .ok (.istore_n 3, 1) := by decide +kernel
theorem dZ_law_18 : decode mZ_law.2.1 18 = .ok (.iload_n 3, 1) := by decide +kernel
theorem dZ_law_19 : decode mZ_law.2.1 19 = .ok (.aload_n 0, 1) := by decide +kernel
theorem dZ_law_20 : decode mZ_law.2.1 20 = .ok (.arraylength, 1) := by decide +kernel
theorem dZ_law_21 : decode mZ_law.2.1 21 = .ok (.bipush 6, 2) := by decide +kernel
theorem dZ_law_23 : decode mZ_law.2.1 23 = .ok (.isub, 1) := by decide +kernel
theorem dZ_law_24 : decode mZ_law.2.1 24 = .ok (.if_icmp .gt 1470, 3) := by decide +kernel
theorem dZ_law_27 : decode mZ_law.2.1 27 = .ok (.aload_n 0, 1) := by decide +kernel
theorem dZ_law_28 : decode mZ_law.2.1 28 = .ok (.iload_n 3, 1) := by decide +kernel
theorem dZ_law_29 : decode mZ_law.2.1 29 = .ok (.iaload, 1) := by decide +kernel
theorem dZ_law_30 : decode mZ_law.2.1 30 = .ok (.bipush 63, 2) := by decide +kernel
theorem dZ_law_32 : decode mZ_law.2.1 32 = .ok (.iand, 1) := by decide +kernel
theorem dZ_law_33 : decode mZ_law.2.1 33 = .ok (.tableswitch 1455 0 42 #[187, 210, 243, 296, 329, 362, 395, 438, 461, 474, 497, 520, 543, 576, 610, 643, 666, 715, 728, 762, 775, 808, 831, 844, 857, 880, 923, 946, 959, 982, 1005, 1048, 1061, 1094, 1107, 1120, 1163, 1186, 1219, 1242, 1285, 1358, 1392], 187) := by decide +kernel
theorem dZ_law_220 : decode mZ_law.2.1 220 = .ok (.aload_n 1, 1) := by decide +kernel
theorem dZ_law_221 : decode mZ_law.2.1 221 = .ok (.aload_n 0, 1) := by decide +kernel
theorem dZ_law_222 : decode mZ_law.2.1 222 = .ok (.iload_n 3, 1) := by decide +kernel
theorem dZ_law_223 : decode mZ_law.2.1 223 = .ok (.iconst 1, 1) := by decide +kernel
theorem dZ_law_224 : decode mZ_law.2.1 224 = .ok (.iadd, 1) := by decide +kernel
theorem dZ_law_225 : decode mZ_law.2.1 225 = .ok (.iaload, 1) := by decide +kernel
theorem dZ_law_226 : decode mZ_law.2.1 226 = .ok (.invokevirtual 13, 3) := by decide +kernel
theorem dZ_law_229 : decode mZ_law.2.1 229 = .ok (.aload_n 2, 1) := by decide +kernel
theorem dZ_law_230 : decode mZ_law.2.1 230 = .ok (.aload_n 0, 1) := by decide +kernel
theorem dZ_law_231 : decode mZ_law.2.1 231 = .ok (.iload_n 3, 1) := by decide +kernel
theorem dZ_law_232 : decode mZ_law.2.1 232 = .ok (.iconst 1, 1) := by decide +kernel
theorem dZ_law_233 : decode mZ_law.2.1 233 = .ok (.iadd, 1) := by decide +kernel
theorem dZ_law_234 : decode mZ_law.2.1 234 = .ok (.iaload, 1) := by decide +kernel
theorem dZ_law_235 : decode mZ_law.2.1 235 = .ok (.invokevirtual 17, 3) := by decide +kernel
theorem dZ_law_238 : decode mZ_law.2.1 238 = .ok (.if_icmp .eq 1250, 3) := by decide +kernel
theorem dZ_law_241 : decode mZ_law.2.1 241 = .ok (.iconst 0, 1) := by decide +kernel
theorem dZ_law_242 : decode mZ_law.2.1 242 = .ok (.ireturn, 1) := by decide +kernel
theorem dZ_law_243 : decode mZ_law.2.1 243 = .ok (.aload_n 1, 1) := by decide +kernel
theorem dZ_law_244 : decode mZ_law.2.1 244 = .ok (.aload_n 0, 1) := by decide +kernel
theorem dZ_law_245 : decode mZ_law.2.1 245 = .ok (.iload_n 3, 1) := by decide +kernel
theorem dZ_law_246 : decode mZ_law.2.1 246 = .ok (.iconst 1, 1) := by decide +kernel
theorem dZ_law_247 : decode mZ_law.2.1 247 = .ok (.iadd, 1) := by decide +kernel
theorem dZ_law_248 : decode mZ_law.2.1 248 = .ok (.iaload, 1) := by decide +kernel
theorem dZ_law_249 : decode mZ_law.2.1 249 = .ok (.aload_n 0, 1) := by decide +kernel
theorem dZ_law_250 : decode mZ_law.2.1 250 = .ok (.iload_n 3, 1) := by decide +kernel
theorem dZ_law_251 : decode mZ_law.2.1 251 = .ok (.iconst 2, 1) := by decide +kernel
theorem dZ_law_252 : decode mZ_law.2.1 252 = .ok (.iadd, 1) := by decide +kernel
theorem dZ_law_253 : decode mZ_law.2.1 253 = .ok (.iaload, 1) := by decide +kernel
theorem dZ_law_254 : decode mZ_law.2.1 254 = .ok (.invokevirtual 18, 3) := by decide +kernel
theorem dZ_law_257 : decode mZ_law.2.1 257 = .ok (.aload_n 2, 1) := by decide +kernel
theorem dZ_law_258 : decode mZ_law.2.1 258 = .ok (.aload_n 0, 1) := by decide +kernel
theorem dZ_law_259 : decode mZ_law.2.1 259 = .ok (.iload_n 3, 1) := by decide +kernel
theorem dZ_law_260 : decode mZ_law.2.1 260 = .ok (.iconst 1, 1) := by decide +kernel
theorem dZ_law_261 : decode mZ_law.2.1 261 = .ok (.iadd, 1) := by decide +kernel
theorem dZ_law_262 : decode mZ_law.2.1 262 = .ok (.iaload, 1) := by decide +kernel
theorem dZ_law_263 : decode mZ_law.2.1 263 = .ok (.aload_n 0, 1) := by decide +kernel
theorem dZ_law_264 : decode mZ_law.2.1 264 = .ok (.iload_n 3, 1) := by decide +kernel
theorem dZ_law_265 : decode mZ_law.2.1 265 = .ok (.iconst 2, 1) := by decide +kernel
theorem dZ_law_266 : decode mZ_law.2.1 266 = .ok (.iadd, 1) := by decide +kernel
theorem dZ_law_267 : decode mZ_law.2.1 267 = .ok (.iaload, 1) := by decide +kernel
theorem dZ_law_268 : decode mZ_law.2.1 268 = .ok (.invokevirtual 22, 3) := by decide +kernel
theorem dZ_law_271 : decode mZ_law.2.1 271 = .ok (.if_icmp .eq 1217, 3) := by decide +kernel
theorem dZ_law_274 : decode mZ_law.2.1 274 = .ok (.iconst 0, 1) := by decide +kernel
theorem dZ_law_275 : decode mZ_law.2.1 275 = .ok (.ireturn, 1) := by decide +kernel
theorem dZ_law_276 : decode mZ_law.2.1 276 = .ok (.aload_n 1, 1) := by decide +kernel
theorem dZ_law_277 : decode mZ_law.2.1 277 = .ok (.aload_n 0, 1) := by decide +kernel
theorem dZ_law_278 : decode mZ_law.2.1 278 = .ok (.iload_n 3, 1) := by decide +kernel
theorem dZ_law_279 : decode mZ_law.2.1 279 = .ok (.iconst 1, 1) := by decide +kernel
theorem dZ_law_280 : decode mZ_law.2.1 280 = .ok (.iadd, 1) := by decide +kernel
theorem dZ_law_281 : decode mZ_law.2.1 281 = .ok (.iaload, 1) := by decide +kernel
theorem dZ_law_282 : decode mZ_law.2.1 282 = .ok (.aload_n 0, 1) := by decide +kernel
theorem dZ_law_283 : decode mZ_law.2.1 283 = .ok (.iload_n 3, 1) := by decide +kernel
theorem dZ_law_284 : decode mZ_law.2.1 284 = .ok (.iconst 2, 1) := by decide +kernel
theorem dZ_law_285 : decode mZ_law.2.1 285 = .ok (.iadd, 1) := by decide +kernel
theorem dZ_law_286 : decode mZ_law.2.1 286 = .ok (.iaload, 1) := by decide +kernel
theorem dZ_law_287 : decode mZ_law.2.1 287 = .ok (.aload_n 0, 1) := by decide +kernel
theorem dZ_law_288 : decode mZ_law.2.1 288 = .ok (.iload_n 3, 1) := by decide +kernel
theorem dZ_law_289 : decode mZ_law.2.1 289 = .ok (.iconst 3, 1) := by decide +kernel
theorem dZ_law_290 : decode mZ_law.2.1 290 = .ok (.iadd, 1) := by decide +kernel
theorem dZ_law_291 : decode mZ_law.2.1 291 = .ok (.iaload, 1) := by decide +kernel
theorem dZ_law_292 : decode mZ_law.2.1 292 = .ok (.aload_n 0, 1) := by decide +kernel
theorem dZ_law_293 : decode mZ_law.2.1 293 = .ok (.iload_n 3, 1) := by decide +kernel
theorem dZ_law_294 : decode mZ_law.2.1 294 = .ok (.iconst 4, 1) := by decide +kernel
theorem dZ_law_295 : decode mZ_law.2.1 295 = .ok (.iadd, 1) := by decide +kernel
theorem dZ_law_296 : decode mZ_law.2.1 296 = .ok (.iaload, 1) := by decide +kernel
theorem dZ_law_297 : decode mZ_law.2.1 297 = .ok (.invokevirtual 23, 3) := by decide +kernel
theorem dZ_law_300 : decode mZ_law.2.1 300 = .ok (.aload_n 2, 1) := by decide +kernel
theorem dZ_law_301 : decode mZ_law.2.1 301 = .ok (.aload_n 0, 1) := by decide +kernel
theorem dZ_law_302 : decode mZ_law.2.1 302 = .ok (.iload_n 3, 1) := by decide +kernel
theorem dZ_law_303 : decode mZ_law.2.1 303 = .ok (.iconst 1, 1) := by decide +kernel
theorem dZ_law_304 : decode mZ_law.2.1 304 = .ok (.iadd, 1) := by decide +kernel
theorem dZ_law_305 : decode mZ_law.2.1 305 = .ok (.iaload, 1) := by decide +kernel
theorem dZ_law_306 : decode mZ_law.2.1 306 = .ok (.aload_n 0, 1) := by decide +kernel
theorem dZ_law_307 : decode mZ_law.2.1 307 = .ok (.iload_n 3, 1) := by decide +kernel
theorem dZ_law_308 : decode mZ_law.2.1 308 = .ok (.iconst 2, 1) := by decide +kernel
theorem dZ_law_309 : decode mZ_law.2.1 309 = .ok (.iadd, 1) := by decide +kernel
theorem dZ_law_310 : decode mZ_law.2.1 310 = .ok (.iaload, 1) := by decide +kernel
theorem dZ_law_311 : decode mZ_law.2.1 311 = .ok (.aload_n 0, 1) := by decide +kernel
theorem dZ_law_312 : decode mZ_law.2.1 312 = .ok (.iload_n 3, 1) := by decide +kernel
theorem dZ_law_313 : decode mZ_law.2.1 313 = .ok (.iconst 3, 1) := by decide +kernel
theorem dZ_law_314 : decode mZ_law.2.1 314 = .ok (.iadd, 1) := by decide +kernel
theorem dZ_law_315 : decode mZ_law.2.1 315 = .ok (.iaload, 1) := by decide +kernel
theorem dZ_law_316 : decode mZ_law.2.1 316 = .ok (.aload_n 0, 1) := by decide +kernel
theorem dZ_law_317 : decode mZ_law.2.1 317 = .ok (.iload_n 3, 1) := by decide +kernel
theorem dZ_law_318 : decode mZ_law.2.1 318 = .ok (.iconst 4, 1) := by decide +kernel
theorem dZ_law_319 : decode mZ_law.2.1 319 = .ok (.iadd, 1) := by decide +kernel
theorem dZ_law_320 : decode mZ_law.2.1 320 = .ok (.iaload, 1) := by decide +kernel
theorem dZ_law_321 : decode mZ_law.2.1 321 = .ok (.invokevirtual 27, 3) := by decide +kernel
theorem dZ_law_324 : decode mZ_law.2.1 324 = .ok (.if_icmp .eq 1164, 3) := by decide +kernel
theorem dZ_law_327 : decode mZ_law.2.1 327 = .ok (.iconst 0, 1) := by decide +kernel
theorem dZ_law_328 : decode mZ_law.2.1 328 = .ok (.ireturn, 1) := by decide +kernel
theorem dZ_law_329 : decode mZ_law.2.1 329 = .ok (.aload_n 1, 1) := by decide +kernel
theorem dZ_law_330 : decode mZ_law.2.1 330 = .ok (.aload_n 0, 1) := by decide +kernel
theorem dZ_law_331 : decode mZ_law.2.1 331 = .ok (.iload_n 3, 1) := by decide +kernel
theorem dZ_law_332 : decode mZ_law.2.1 332 = .ok (.iconst 1, 1) := by decide +kernel
theorem dZ_law_333 : decode mZ_law.2.1 333 = .ok (.iadd, 1) := by decide +kernel
theorem dZ_law_334 : decode mZ_law.2.1 334 = .ok (.iaload, 1) := by decide +kernel
theorem dZ_law_335 : decode mZ_law.2.1 335 = .ok (.aload_n 0, 1) := by decide +kernel
theorem dZ_law_336 : decode mZ_law.2.1 336 = .ok (.iload_n 3, 1) := by decide +kernel
theorem dZ_law_337 : decode mZ_law.2.1 337 = .ok (.iconst 2, 1) := by decide +kernel
theorem dZ_law_338 : decode mZ_law.2.1 338 = .ok (.iadd, 1) := by decide +kernel
theorem dZ_law_339 : decode mZ_law.2.1 339 = .ok (.iaload, 1) := by decide +kernel
theorem dZ_law_340 : decode mZ_law.2.1 340 = .ok (.invokevirtual 28, 3) := by decide +kernel
theorem dZ_law_343 : decode mZ_law.2.1 343 = .ok (.aload_n 2, 1) := by decide +kernel
theorem dZ_law_344 : decode mZ_law.2.1 344 = .ok (.aload_n 0, 1) := by decide +kernel
theorem dZ_law_345 : decode mZ_law.2.1 345 = .ok (.iload_n 3, 1) := by decide +kernel
theorem dZ_law_346 : decode mZ_law.2.1 346 = .ok (.iconst 1, 1) := by decide +kernel
theorem dZ_law_347 : decode mZ_law.2.1 347 = .ok (.iadd, 1) := by decide +kernel
theorem dZ_law_348 : decode mZ_law.2.1 348 = .ok (.iaload, 1) := by decide +kernel
theorem dZ_law_349 : decode mZ_law.2.1 349 = .ok (.aload_n 0, 1) := by decide +kernel
theorem dZ_law_350 : decode mZ_law.2.1 350 = .ok (.iload_n 3, 1) := by decide +kernel
theorem dZ_law_351 : decode mZ_law.2.1 351 = .ok (.iconst 2, 1) := by decide +kernel
theorem dZ_law_352 : decode mZ_law.2.1 352 = .ok (.iadd, 1) := by decide +kernel
theorem dZ_law_353 : decode mZ_law.2.1 353 = .ok (.iaload, 1) := by decide +kernel
theorem dZ_law_354 : decode mZ_law.2.1 354 = .ok (.invokevirtual 31, 3) := by decide +kernel
theorem dZ_law_357 : decode mZ_law.2.1 357 = .ok (.if_icmp .eq 1131, 3) := by decide +kernel
theorem dZ_law_360 : decode mZ_law.2.1 360 = .ok (.iconst 0, 1) := by decide +kernel
theorem dZ_law_361 : decode mZ_law.2.1 361 = .ok (.ireturn, 1) := by decide +kernel
theorem dZ_law_362 : decode mZ_law.2.1 362 = .ok (.aload_n 1, 1) := by decide +kernel
theorem dZ_law_363 : decode mZ_law.2.1 363 = .ok (.aload_n 0, 1) := by decide +kernel
theorem dZ_law_364 : decode mZ_law.2.1 364 = .ok (.iload_n 3, 1) := by decide +kernel
theorem dZ_law_365 : decode mZ_law.2.1 365 = .ok (.iconst 1, 1) := by decide +kernel
theorem dZ_law_366 : decode mZ_law.2.1 366 = .ok (.iadd, 1) := by decide +kernel
theorem dZ_law_367 : decode mZ_law.2.1 367 = .ok (.iaload, 1) := by decide +kernel
theorem dZ_law_368 : decode mZ_law.2.1 368 = .ok (.aload_n 0, 1) := by decide +kernel
theorem dZ_law_369 : decode mZ_law.2.1 369 = .ok (.iload_n 3, 1) := by decide +kernel
theorem dZ_law_370 : decode mZ_law.2.1 370 = .ok (.iconst 2, 1) := by decide +kernel
theorem dZ_law_371 : decode mZ_law.2.1 371 = .ok (.iadd, 1) := by decide +kernel
theorem dZ_law_372 : decode mZ_law.2.1 372 = .ok (.iaload, 1) := by decide +kernel
theorem dZ_law_373 : decode mZ_law.2.1 373 = .ok (.invokevirtual 32, 3) := by decide +kernel
theorem dZ_law_376 : decode mZ_law.2.1 376 = .ok (.aload_n 2, 1) := by decide +kernel
theorem dZ_law_377 : decode mZ_law.2.1 377 = .ok (.aload_n 0, 1) := by decide +kernel
theorem dZ_law_378 : decode mZ_law.2.1 378 = .ok (.iload_n 3, 1) := by decide +kernel
theorem dZ_law_379 : decode mZ_law.2.1 379 = .ok (.iconst 1, 1) := by decide +kernel
theorem dZ_law_380 : decode mZ_law.2.1 380 = .ok (.iadd, 1) := by decide +kernel
theorem dZ_law_381 : decode mZ_law.2.1 381 = .ok (.iaload, 1) := by decide +kernel
theorem dZ_law_382 : decode mZ_law.2.1 382 = .ok (.aload_n 0, 1) := by decide +kernel
theorem dZ_law_383 : decode mZ_law.2.1 383 = .ok (.iload_n 3, 1) := by decide +kernel
theorem dZ_law_384 : decode mZ_law.2.1 384 = .ok (.iconst 2, 1) := by decide +kernel
theorem dZ_law_385 : decode mZ_law.2.1 385 = .ok (.iadd, 1) := by decide +kernel
theorem dZ_law_386 : decode mZ_law.2.1 386 = .ok (.iaload, 1) := by decide +kernel
theorem dZ_law_387 : decode mZ_law.2.1 387 = .ok (.invokevirtual 35, 3) := by decide +kernel
theorem dZ_law_390 : decode mZ_law.2.1 390 = .ok (.if_icmp .eq 1098, 3) := by decide +kernel
theorem dZ_law_393 : decode mZ_law.2.1 393 = .ok (.iconst 0, 1) := by decide +kernel
theorem dZ_law_394 : decode mZ_law.2.1 394 = .ok (.ireturn, 1) := by decide +kernel
theorem dZ_law_395 : decode mZ_law.2.1 395 = .ok (.aload_n 1, 1) := by decide +kernel
theorem dZ_law_396 : decode mZ_law.2.1 396 = .ok (.aload_n 0, 1) := by decide +kernel
theorem dZ_law_397 : decode mZ_law.2.1 397 = .ok (.iload_n 3, 1) := by decide +kernel
theorem dZ_law_398 : decode mZ_law.2.1 398 = .ok (.iconst 1, 1) := by decide +kernel
theorem dZ_law_399 : decode mZ_law.2.1 399 = .ok (.iadd, 1) := by decide +kernel
theorem dZ_law_400 : decode mZ_law.2.1 400 = .ok (.iaload, 1) := by decide +kernel
theorem dZ_law_401 : decode mZ_law.2.1 401 = .ok (.aload_n 0, 1) := by decide +kernel
theorem dZ_law_402 : decode mZ_law.2.1 402 = .ok (.iload_n 3, 1) := by decide +kernel
theorem dZ_law_403 : decode mZ_law.2.1 403 = .ok (.iconst 2, 1) := by decide +kernel
theorem dZ_law_404 : decode mZ_law.2.1 404 = .ok (.iadd, 1) := by decide +kernel
theorem dZ_law_405 : decode mZ_law.2.1 405 = .ok (.iaload, 1) := by decide +kernel
theorem dZ_law_406 : decode mZ_law.2.1 406 = .ok (.invokevirtual 36, 3) := by decide +kernel
theorem dZ_law_409 : decode mZ_law.2.1 409 = .ok (.aload_n 2, 1) := by decide +kernel
theorem dZ_law_410 : decode mZ_law.2.1 410 = .ok (.aload_n 0, 1) := by decide +kernel
theorem dZ_law_411 : decode mZ_law.2.1 411 = .ok (.iload_n 3, 1) := by decide +kernel
theorem dZ_law_412 : decode mZ_law.2.1 412 = .ok (.iconst 1, 1) := by decide +kernel
theorem dZ_law_413 : decode mZ_law.2.1 413 = .ok (.iadd, 1) := by decide +kernel
theorem dZ_law_414 : decode mZ_law.2.1 414 = .ok (.iaload, 1) := by decide +kernel
theorem dZ_law_415 : decode mZ_law.2.1 415 = .ok (.aload_n 0, 1) := by decide +kernel
theorem dZ_law_416 : decode mZ_law.2.1 416 = .ok (.iload_n 3, 1) := by decide +kernel
theorem dZ_law_417 : decode mZ_law.2.1 417 = .ok (.iconst 2, 1) := by decide +kernel
theorem dZ_law_418 : decode mZ_law.2.1 418 = .ok (.iadd, 1) := by decide +kernel
theorem dZ_law_419 : decode mZ_law.2.1 419 = .ok (.iaload, 1) := by decide +kernel
theorem dZ_law_420 : decode mZ_law.2.1 420 = .ok (.invokevirtual 39, 3) := by decide +kernel
theorem dZ_law_423 : decode mZ_law.2.1 423 = .ok (.if_icmp .eq 1065, 3) := by decide +kernel
theorem dZ_law_426 : decode mZ_law.2.1 426 = .ok (.iconst 0, 1) := by decide +kernel
theorem dZ_law_427 : decode mZ_law.2.1 427 = .ok (.ireturn, 1) := by decide +kernel
theorem dZ_law_428 : decode mZ_law.2.1 428 = .ok (.aload_n 1, 1) := by decide +kernel
theorem dZ_law_429 : decode mZ_law.2.1 429 = .ok (.aload_n 0, 1) := by decide +kernel
theorem dZ_law_430 : decode mZ_law.2.1 430 = .ok (.iload_n 3, 1) := by decide +kernel
theorem dZ_law_431 : decode mZ_law.2.1 431 = .ok (.iconst 1, 1) := by decide +kernel
theorem dZ_law_432 : decode mZ_law.2.1 432 = .ok (.iadd, 1) := by decide +kernel
theorem dZ_law_433 : decode mZ_law.2.1 433 = .ok (.iaload, 1) := by decide +kernel
theorem dZ_law_434 : decode mZ_law.2.1 434 = .ok (.aload_n 0, 1) := by decide +kernel
theorem dZ_law_435 : decode mZ_law.2.1 435 = .ok (.iload_n 3, 1) := by decide +kernel
theorem dZ_law_436 : decode mZ_law.2.1 436 = .ok (.iconst 2, 1) := by decide +kernel
theorem dZ_law_437 : decode mZ_law.2.1 437 = .ok (.iadd, 1) := by decide +kernel
theorem dZ_law_438 : decode mZ_law.2.1 438 = .ok (.iaload, 1) := by decide +kernel
theorem dZ_law_439 : decode mZ_law.2.1 439 = .ok (.aload_n 0, 1) := by decide +kernel
theorem dZ_law_440 : decode mZ_law.2.1 440 = .ok (.iload_n 3, 1) := by decide +kernel
theorem dZ_law_441 : decode mZ_law.2.1 441 = .ok (.iconst 3, 1) := by decide +kernel
theorem dZ_law_442 : decode mZ_law.2.1 442 = .ok (.iadd, 1) := by decide +kernel
theorem dZ_law_443 : decode mZ_law.2.1 443 = .ok (.iaload, 1) := by decide +kernel
theorem dZ_law_444 : decode mZ_law.2.1 444 = .ok (.invokevirtual 40, 3) := by decide +kernel
theorem dZ_law_447 : decode mZ_law.2.1 447 = .ok (.aload_n 2, 1) := by decide +kernel
theorem dZ_law_448 : decode mZ_law.2.1 448 = .ok (.aload_n 0, 1) := by decide +kernel
theorem dZ_law_449 : decode mZ_law.2.1 449 = .ok (.iload_n 3, 1) := by decide +kernel
theorem dZ_law_450 : decode mZ_law.2.1 450 = .ok (.iconst 1, 1) := by decide +kernel
theorem dZ_law_451 : decode mZ_law.2.1 451 = .ok (.iadd, 1) := by decide +kernel
theorem dZ_law_452 : decode mZ_law.2.1 452 = .ok (.iaload, 1) := by decide +kernel
theorem dZ_law_453 : decode mZ_law.2.1 453 = .ok (.aload_n 0, 1) := by decide +kernel
theorem dZ_law_454 : decode mZ_law.2.1 454 = .ok (.iload_n 3, 1) := by decide +kernel
theorem dZ_law_455 : decode mZ_law.2.1 455 = .ok (.iconst 2, 1) := by decide +kernel
theorem dZ_law_456 : decode mZ_law.2.1 456 = .ok (.iadd, 1) := by decide +kernel
theorem dZ_law_457 : decode mZ_law.2.1 457 = .ok (.iaload, 1) := by decide +kernel
theorem dZ_law_458 : decode mZ_law.2.1 458 = .ok (.aload_n 0, 1) := by decide +kernel
theorem dZ_law_459 : decode mZ_law.2.1 459 = .ok (.iload_n 3, 1) := by decide +kernel
theorem dZ_law_460 : decode mZ_law.2.1 460 = .ok (.iconst 3, 1) := by decide +kernel
theorem dZ_law_461 : decode mZ_law.2.1 461 = .ok (.iadd, 1) := by decide +kernel
theorem dZ_law_462 : decode mZ_law.2.1 462 = .ok (.iaload, 1) := by decide +kernel
theorem dZ_law_463 : decode mZ_law.2.1 463 = .ok (.invokevirtual 44, 3) := by decide +kernel
theorem dZ_law_466 : decode mZ_law.2.1 466 = .ok (.if_icmp .eq 1022, 3) := by decide +kernel
theorem dZ_law_469 : decode mZ_law.2.1 469 = .ok (.iconst 0, 1) := by decide +kernel
theorem dZ_law_470 : decode mZ_law.2.1 470 = .ok (.ireturn, 1) := by decide +kernel
theorem dZ_law_471 : decode mZ_law.2.1 471 = .ok (.aload_n 1, 1) := by decide +kernel
theorem dZ_law_472 : decode mZ_law.2.1 472 = .ok (.aload_n 0, 1) := by decide +kernel
theorem dZ_law_473 : decode mZ_law.2.1 473 = .ok (.iload_n 3, 1) := by decide +kernel
theorem dZ_law_474 : decode mZ_law.2.1 474 = .ok (.iconst 1, 1) := by decide +kernel
theorem dZ_law_475 : decode mZ_law.2.1 475 = .ok (.iadd, 1) := by decide +kernel
theorem dZ_law_476 : decode mZ_law.2.1 476 = .ok (.iaload, 1) := by decide +kernel
theorem dZ_law_477 : decode mZ_law.2.1 477 = .ok (.invokevirtual 45, 3) := by decide +kernel
theorem dZ_law_480 : decode mZ_law.2.1 480 = .ok (.aload_n 2, 1) := by decide +kernel
theorem dZ_law_481 : decode mZ_law.2.1 481 = .ok (.aload_n 0, 1) := by decide +kernel
theorem dZ_law_482 : decode mZ_law.2.1 482 = .ok (.iload_n 3, 1) := by decide +kernel
theorem dZ_law_483 : decode mZ_law.2.1 483 = .ok (.iconst 1, 1) := by decide +kernel
theorem dZ_law_484 : decode mZ_law.2.1 484 = .ok (.iadd, 1) := by decide +kernel
theorem dZ_law_485 : decode mZ_law.2.1 485 = .ok (.iaload, 1) := by decide +kernel
theorem dZ_law_486 : decode mZ_law.2.1 486 = .ok (.invokevirtual 48, 3) := by decide +kernel
theorem dZ_law_489 : decode mZ_law.2.1 489 = .ok (.if_icmp .eq 999, 3) := by decide +kernel
theorem dZ_law_492 : decode mZ_law.2.1 492 = .ok (.iconst 0, 1) := by decide +kernel
theorem dZ_law_493 : decode mZ_law.2.1 493 = .ok (.ireturn, 1) := by decide +kernel
theorem dZ_law_494 : decode mZ_law.2.1 494 = .ok (.aload_n 1, 1) := by decide +kernel
theorem dZ_law_495 : decode mZ_law.2.1 495 = .ok (.invokevirtual 49, 3) := by decide +kernel
theorem dZ_law_498 : decode mZ_law.2.1 498 = .ok (.aload_n 2, 1) := by decide +kernel
theorem dZ_law_499 : decode mZ_law.2.1 499 = .ok (.invokevirtual 53, 3) := by decide +kernel
theorem dZ_law_502 : decode mZ_law.2.1 502 = .ok (.if_icmp .eq 986, 3) := by decide +kernel
theorem dZ_law_505 : decode mZ_law.2.1 505 = .ok (.iconst 0, 1) := by decide +kernel
theorem dZ_law_506 : decode mZ_law.2.1 506 = .ok (.ireturn, 1) := by decide +kernel
theorem dZ_law_507 : decode mZ_law.2.1 507 = .ok (.aload_n 1, 1) := by decide +kernel
theorem dZ_law_508 : decode mZ_law.2.1 508 = .ok (.aload_n 0, 1) := by decide +kernel
theorem dZ_law_509 : decode mZ_law.2.1 509 = .ok (.iload_n 3, 1) := by decide +kernel
theorem dZ_law_510 : decode mZ_law.2.1 510 = .ok (.iconst 1, 1) := by decide +kernel
theorem dZ_law_511 : decode mZ_law.2.1 511 = .ok (.iadd, 1) := by decide +kernel
theorem dZ_law_512 : decode mZ_law.2.1 512 = .ok (.iaload, 1) := by decide +kernel
theorem dZ_law_513 : decode mZ_law.2.1 513 = .ok (.invokevirtual 54, 3) := by decide +kernel
theorem dZ_law_516 : decode mZ_law.2.1 516 = .ok (.aload_n 2, 1) := by decide +kernel
theorem dZ_law_517 : decode mZ_law.2.1 517 = .ok (.aload_n 0, 1) := by decide +kernel
theorem dZ_law_518 : decode mZ_law.2.1 518 = .ok (.iload_n 3, 1) := by decide +kernel
theorem dZ_law_519 : decode mZ_law.2.1 519 = .ok (.iconst 1, 1) := by decide +kernel
theorem dZ_law_520 : decode mZ_law.2.1 520 = .ok (.iadd, 1) := by decide +kernel
theorem dZ_law_521 : decode mZ_law.2.1 521 = .ok (.iaload, 1) := by decide +kernel
theorem dZ_law_522 : decode mZ_law.2.1 522 = .ok (.invokevirtual 57, 3) := by decide +kernel
theorem dZ_law_525 : decode mZ_law.2.1 525 = .ok (.if_icmp .eq 963, 3) := by decide +kernel
theorem dZ_law_528 : decode mZ_law.2.1 528 = .ok (.iconst 0, 1) := by decide +kernel
theorem dZ_law_529 : decode mZ_law.2.1 529 = .ok (.ireturn, 1) := by decide +kernel
theorem dZ_law_530 : decode mZ_law.2.1 530 = .ok (.aload_n 1, 1) := by decide +kernel
theorem dZ_law_531 : decode mZ_law.2.1 531 = .ok (.aload_n 0, 1) := by decide +kernel
theorem dZ_law_532 : decode mZ_law.2.1 532 = .ok (.iload_n 3, 1) := by decide +kernel
theorem dZ_law_533 : decode mZ_law.2.1 533 = .ok (.iconst 1, 1) := by decide +kernel
theorem dZ_law_534 : decode mZ_law.2.1 534 = .ok (.iadd, 1) := by decide +kernel
theorem dZ_law_535 : decode mZ_law.2.1 535 = .ok (.iaload, 1) := by decide +kernel
theorem dZ_law_536 : decode mZ_law.2.1 536 = .ok (.invokevirtual 58, 3) := by decide +kernel
theorem dZ_law_539 : decode mZ_law.2.1 539 = .ok (.aload_n 2, 1) := by decide +kernel
theorem dZ_law_540 : decode mZ_law.2.1 540 = .ok (.aload_n 0, 1) := by decide +kernel
theorem dZ_law_541 : decode mZ_law.2.1 541 = .ok (.iload_n 3, 1) := by decide +kernel
theorem dZ_law_542 : decode mZ_law.2.1 542 = .ok (.iconst 1, 1) := by decide +kernel
theorem dZ_law_543 : decode mZ_law.2.1 543 = .ok (.iadd, 1) := by decide +kernel
theorem dZ_law_544 : decode mZ_law.2.1 544 = .ok (.iaload, 1) := by decide +kernel
theorem dZ_law_545 : decode mZ_law.2.1 545 = .ok (.invokevirtual 61, 3) := by decide +kernel
theorem dZ_law_548 : decode mZ_law.2.1 548 = .ok (.if_icmp .eq 940, 3) := by decide +kernel
theorem dZ_law_551 : decode mZ_law.2.1 551 = .ok (.iconst 0, 1) := by decide +kernel
theorem dZ_law_552 : decode mZ_law.2.1 552 = .ok (.ireturn, 1) := by decide +kernel
theorem dZ_law_553 : decode mZ_law.2.1 553 = .ok (.aload_n 1, 1) := by decide +kernel
theorem dZ_law_554 : decode mZ_law.2.1 554 = .ok (.aload_n 0, 1) := by decide +kernel
theorem dZ_law_555 : decode mZ_law.2.1 555 = .ok (.iload_n 3, 1) := by decide +kernel
theorem dZ_law_556 : decode mZ_law.2.1 556 = .ok (.iconst 1, 1) := by decide +kernel
theorem dZ_law_557 : decode mZ_law.2.1 557 = .ok (.iadd, 1) := by decide +kernel
theorem dZ_law_558 : decode mZ_law.2.1 558 = .ok (.iaload, 1) := by decide +kernel
theorem dZ_law_559 : decode mZ_law.2.1 559 = .ok (.invokevirtual 62, 3) := by decide +kernel
theorem dZ_law_562 : decode mZ_law.2.1 562 = .ok (.aload_n 2, 1) := by decide +kernel
theorem dZ_law_563 : decode mZ_law.2.1 563 = .ok (.aload_n 0, 1) := by decide +kernel
theorem dZ_law_564 : decode mZ_law.2.1 564 = .ok (.iload_n 3, 1) := by decide +kernel
theorem dZ_law_565 : decode mZ_law.2.1 565 = .ok (.iconst 1, 1) := by decide +kernel
theorem dZ_law_566 : decode mZ_law.2.1 566 = .ok (.iadd, 1) := by decide +kernel
theorem dZ_law_567 : decode mZ_law.2.1 567 = .ok (.iaload, 1) := by decide +kernel
theorem dZ_law_568 : decode mZ_law.2.1 568 = .ok (.invokevirtual 65, 3) := by decide +kernel
theorem dZ_law_571 : decode mZ_law.2.1 571 = .ok (.if_icmp .eq 917, 3) := by decide +kernel
theorem dZ_law_574 : decode mZ_law.2.1 574 = .ok (.iconst 0, 1) := by decide +kernel
theorem dZ_law_575 : decode mZ_law.2.1 575 = .ok (.ireturn, 1) := by decide +kernel
theorem dZ_law_576 : decode mZ_law.2.1 576 = .ok (.aload_n 1, 1) := by decide +kernel
theorem dZ_law_577 : decode mZ_law.2.1 577 = .ok (.aload_n 0, 1) := by decide +kernel
theorem dZ_law_578 : decode mZ_law.2.1 578 = .ok (.iload_n 3, 1) := by decide +kernel
theorem dZ_law_579 : decode mZ_law.2.1 579 = .ok (.iconst 1, 1) := by decide +kernel
theorem dZ_law_580 : decode mZ_law.2.1 580 = .ok (.iadd, 1) := by decide +kernel
theorem dZ_law_581 : decode mZ_law.2.1 581 = .ok (.iaload, 1) := by decide +kernel
theorem dZ_law_582 : decode mZ_law.2.1 582 = .ok (.aload_n 0, 1) := by decide +kernel
theorem dZ_law_583 : decode mZ_law.2.1 583 = .ok (.iload_n 3, 1) := by decide +kernel
theorem dZ_law_584 : decode mZ_law.2.1 584 = .ok (.iconst 2, 1) := by decide +kernel
theorem dZ_law_585 : decode mZ_law.2.1 585 = .ok (.iadd, 1) := by decide +kernel
theorem dZ_law_586 : decode mZ_law.2.1 586 = .ok (.iaload, 1) := by decide +kernel
theorem dZ_law_587 : decode mZ_law.2.1 587 = .ok (.invokevirtual 66, 3) := by decide +kernel
theorem dZ_law_590 : decode mZ_law.2.1 590 = .ok (.aload_n 2, 1) := by decide +kernel
theorem dZ_law_591 : decode mZ_law.2.1 591 = .ok (.aload_n 0, 1) := by decide +kernel
theorem dZ_law_592 : decode mZ_law.2.1 592 = .ok (.iload_n 3, 1) := by decide +kernel
theorem dZ_law_593 : decode mZ_law.2.1 593 = .ok (.iconst 1, 1) := by decide +kernel
theorem dZ_law_594 : decode mZ_law.2.1 594 = .ok (.iadd, 1) := by decide +kernel
theorem dZ_law_595 : decode mZ_law.2.1 595 = .ok (.iaload, 1) := by decide +kernel
theorem dZ_law_596 : decode mZ_law.2.1 596 = .ok (.aload_n 0, 1) := by decide +kernel
theorem dZ_law_597 : decode mZ_law.2.1 597 = .ok (.iload_n 3, 1) := by decide +kernel
theorem dZ_law_598 : decode mZ_law.2.1 598 = .ok (.iconst 2, 1) := by decide +kernel
theorem dZ_law_599 : decode mZ_law.2.1 599 = .ok (.iadd, 1) := by decide +kernel
theorem dZ_law_600 : decode mZ_law.2.1 600 = .ok (.iaload, 1) := by decide +kernel
theorem dZ_law_601 : decode mZ_law.2.1 601 = .ok (.invokevirtual 69, 3) := by decide +kernel
theorem dZ_law_604 : decode mZ_law.2.1 604 = .ok (.if_icmp .eq 884, 3) := by decide +kernel
theorem dZ_law_607 : decode mZ_law.2.1 607 = .ok (.iconst 0, 1) := by decide +kernel
theorem dZ_law_608 : decode mZ_law.2.1 608 = .ok (.ireturn, 1) := by decide +kernel
theorem dZ_law_609 : decode mZ_law.2.1 609 = .ok (.aload_n 1, 1) := by decide +kernel
theorem dZ_law_610 : decode mZ_law.2.1 610 = .ok (.aload_n 0, 1) := by decide +kernel
theorem dZ_law_611 : decode mZ_law.2.1 611 = .ok (.iload_n 3, 1) := by decide +kernel
theorem dZ_law_612 : decode mZ_law.2.1 612 = .ok (.iconst 1, 1) := by decide +kernel
theorem dZ_law_613 : decode mZ_law.2.1 613 = .ok (.iadd, 1) := by decide +kernel
theorem dZ_law_614 : decode mZ_law.2.1 614 = .ok (.iaload, 1) := by decide +kernel
theorem dZ_law_615 : decode mZ_law.2.1 615 = .ok (.aload_n 0, 1) := by decide +kernel
theorem dZ_law_616 : decode mZ_law.2.1 616 = .ok (.iload_n 3, 1) := by decide +kernel
theorem dZ_law_617 : decode mZ_law.2.1 617 = .ok (.iconst 2, 1) := by decide +kernel
theorem dZ_law_618 : decode mZ_law.2.1 618 = .ok (.iadd, 1) := by decide +kernel
theorem dZ_law_619 : decode mZ_law.2.1 619 = .ok (.iaload, 1) := by decide +kernel
theorem dZ_law_620 : decode mZ_law.2.1 620 = .ok (.invokevirtual 70, 3) := by decide +kernel
theorem dZ_law_623 : decode mZ_law.2.1 623 = .ok (.aload_n 2, 1) := by decide +kernel
theorem dZ_law_624 : decode mZ_law.2.1 624 = .ok (.aload_n 0, 1) := by decide +kernel
theorem dZ_law_625 : decode mZ_law.2.1 625 = .ok (.iload_n 3, 1) := by decide +kernel
theorem dZ_law_626 : decode mZ_law.2.1 626 = .ok (.iconst 1, 1) := by decide +kernel
theorem dZ_law_627 : decode mZ_law.2.1 627 = .ok (.iadd, 1) := by decide +kernel
theorem dZ_law_628 : decode mZ_law.2.1 628 = .ok (.iaload, 1) := by decide +kernel
theorem dZ_law_629 : decode mZ_law.2.1 629 = .ok (.aload_n 0, 1) := by decide +kernel
theorem dZ_law_630 : decode mZ_law.2.1 630 = .ok (.iload_n 3, 1) := by decide +kernel
theorem dZ_law_631 : decode mZ_law.2.1 631 = .ok (.iconst 2, 1) := by decide +kernel
theorem dZ_law_632 : decode mZ_law.2.1 632 = .ok (.iadd, 1) := by decide +kernel
theorem dZ_law_633 : decode mZ_law.2.1 633 = .ok (.iaload, 1) := by decide +kernel
theorem dZ_law_634 : decode mZ_law.2.1 634 = .ok (.invokevirtual 74, 3) := by decide +kernel
theorem dZ_law_637 : decode mZ_law.2.1 637 = .ok (.lcmp, 1) := by decide +kernel
theorem dZ_law_638 : decode mZ_law.2.1 638 = .ok (.ifCond .eq 850, 3) := by decide +kernel
theorem dZ_law_641 : decode mZ_law.2.1 641 = .ok (.iconst 0, 1) := by decide +kernel
theorem dZ_law_642 : decode mZ_law.2.1 642 = .ok (.ireturn, 1) := by decide +kernel
theorem dZ_law_643 : decode mZ_law.2.1 643 = .ok (.aload_n 1, 1) := by decide +kernel
theorem dZ_law_644 : decode mZ_law.2.1 644 = .ok (.aload_n 0, 1) := by decide +kernel
theorem dZ_law_645 : decode mZ_law.2.1 645 = .ok (.iload_n 3, 1) := by decide +kernel
theorem dZ_law_646 : decode mZ_law.2.1 646 = .ok (.iconst 1, 1) := by decide +kernel
theorem dZ_law_647 : decode mZ_law.2.1 647 = .ok (.iadd, 1) := by decide +kernel
theorem dZ_law_648 : decode mZ_law.2.1 648 = .ok (.iaload, 1) := by decide +kernel
theorem dZ_law_649 : decode mZ_law.2.1 649 = .ok (.aload_n 0, 1) := by decide +kernel
theorem dZ_law_650 : decode mZ_law.2.1 650 = .ok (.iload_n 3, 1) := by decide +kernel
theorem dZ_law_651 : decode mZ_law.2.1 651 = .ok (.iconst 2, 1) := by decide +kernel
theorem dZ_law_652 : decode mZ_law.2.1 652 = .ok (.iadd, 1) := by decide +kernel
theorem dZ_law_653 : decode mZ_law.2.1 653 = .ok (.iaload, 1) := by decide +kernel
theorem dZ_law_654 : decode mZ_law.2.1 654 = .ok (.invokevirtual 75, 3) := by decide +kernel
theorem dZ_law_657 : decode mZ_law.2.1 657 = .ok (.aload_n 2, 1) := by decide +kernel
theorem dZ_law_658 : decode mZ_law.2.1 658 = .ok (.aload_n 0, 1) := by decide +kernel
theorem dZ_law_659 : decode mZ_law.2.1 659 = .ok (.iload_n 3, 1) := by decide +kernel
theorem dZ_law_660 : decode mZ_law.2.1 660 = .ok (.iconst 1, 1) := by decide +kernel
theorem dZ_law_661 : decode mZ_law.2.1 661 = .ok (.iadd, 1) := by decide +kernel
theorem dZ_law_662 : decode mZ_law.2.1 662 = .ok (.iaload, 1) := by decide +kernel
theorem dZ_law_663 : decode mZ_law.2.1 663 = .ok (.aload_n 0, 1) := by decide +kernel
theorem dZ_law_664 : decode mZ_law.2.1 664 = .ok (.iload_n 3, 1) := by decide +kernel
theorem dZ_law_665 : decode mZ_law.2.1 665 = .ok (.iconst 2, 1) := by decide +kernel
theorem dZ_law_666 : decode mZ_law.2.1 666 = .ok (.iadd, 1) := by decide +kernel
theorem dZ_law_667 : decode mZ_law.2.1 667 = .ok (.iaload, 1) := by decide +kernel
theorem dZ_law_668 : decode mZ_law.2.1 668 = .ok (.invokevirtual 78, 3) := by decide +kernel
theorem dZ_law_671 : decode mZ_law.2.1 671 = .ok (.if_icmp .eq 817, 3) := by decide +kernel
theorem dZ_law_674 : decode mZ_law.2.1 674 = .ok (.iconst 0, 1) := by decide +kernel
theorem dZ_law_675 : decode mZ_law.2.1 675 = .ok (.ireturn, 1) := by decide +kernel
theorem dZ_law_676 : decode mZ_law.2.1 676 = .ok (.aload_n 1, 1) := by decide +kernel
theorem dZ_law_677 : decode mZ_law.2.1 677 = .ok (.aload_n 0, 1) := by decide +kernel
theorem dZ_law_678 : decode mZ_law.2.1 678 = .ok (.iload_n 3, 1) := by decide +kernel
theorem dZ_law_679 : decode mZ_law.2.1 679 = .ok (.iconst 1, 1) := by decide +kernel
theorem dZ_law_680 : decode mZ_law.2.1 680 = .ok (.iadd, 1) := by decide +kernel
theorem dZ_law_681 : decode mZ_law.2.1 681 = .ok (.iaload, 1) := by decide +kernel
theorem dZ_law_682 : decode mZ_law.2.1 682 = .ok (.invokevirtual 79, 3) := by decide +kernel
theorem dZ_law_685 : decode mZ_law.2.1 685 = .ok (.aload_n 2, 1) := by decide +kernel
theorem dZ_law_686 : decode mZ_law.2.1 686 = .ok (.aload_n 0, 1) := by decide +kernel
theorem dZ_law_687 : decode mZ_law.2.1 687 = .ok (.iload_n 3, 1) := by decide +kernel
theorem dZ_law_688 : decode mZ_law.2.1 688 = .ok (.iconst 1, 1) := by decide +kernel
theorem dZ_law_689 : decode mZ_law.2.1 689 = .ok (.iadd, 1) := by decide +kernel
theorem dZ_law_690 : decode mZ_law.2.1 690 = .ok (.iaload, 1) := by decide +kernel
theorem dZ_law_691 : decode mZ_law.2.1 691 = .ok (.invokevirtual 82, 3) := by decide +kernel
theorem dZ_law_694 : decode mZ_law.2.1 694 = .ok (.if_icmp .eq 794, 3) := by decide +kernel
theorem dZ_law_697 : decode mZ_law.2.1 697 = .ok (.iconst 0, 1) := by decide +kernel
theorem dZ_law_698 : decode mZ_law.2.1 698 = .ok (.ireturn, 1) := by decide +kernel
theorem dZ_law_699 : decode mZ_law.2.1 699 = .ok (.aload_n 1, 1) := by decide +kernel
theorem dZ_law_700 : decode mZ_law.2.1 700 = .ok (.aload_n 0, 1) := by decide +kernel
theorem dZ_law_701 : decode mZ_law.2.1 701 = .ok (.iload_n 3, 1) := by decide +kernel
theorem dZ_law_702 : decode mZ_law.2.1 702 = .ok (.iconst 1, 1) := by decide +kernel
theorem dZ_law_703 : decode mZ_law.2.1 703 = .ok (.iadd, 1) := by decide +kernel
theorem dZ_law_704 : decode mZ_law.2.1 704 = .ok (.iaload, 1) := by decide +kernel
theorem dZ_law_705 : decode mZ_law.2.1 705 = .ok (.aload_n 0, 1) := by decide +kernel
theorem dZ_law_706 : decode mZ_law.2.1 706 = .ok (.iload_n 3, 1) := by decide +kernel
theorem dZ_law_707 : decode mZ_law.2.1 707 = .ok (.iconst 2, 1) := by decide +kernel
theorem dZ_law_708 : decode mZ_law.2.1 708 = .ok (.iadd, 1) := by decide +kernel
theorem dZ_law_709 : decode mZ_law.2.1 709 = .ok (.iaload, 1) := by decide +kernel
theorem dZ_law_710 : decode mZ_law.2.1 710 = .ok (.ifCond .eq 7, 3) := by decide +kernel
theorem dZ_law_713 : decode mZ_law.2.1 713 = .ok (.iconst 1, 1) := by decide +kernel
theorem dZ_law_714 : decode mZ_law.2.1 714 = .ok (.goto 4, 3) := by decide +kernel
theorem dZ_law_717 : decode mZ_law.2.1 717 = .ok (.iconst 0, 1) := by decide +kernel
theorem dZ_law_718 : decode mZ_law.2.1 718 = .ok (.invokevirtual 83, 3) := by decide +kernel
theorem dZ_law_721 : decode mZ_law.2.1 721 = .ok (.aload_n 2, 1) := by decide +kernel
theorem dZ_law_722 : decode mZ_law.2.1 722 = .ok (.aload_n 0, 1) := by decide +kernel
theorem dZ_law_723 : decode mZ_law.2.1 723 = .ok (.iload_n 3, 1) := by decide +kernel
theorem dZ_law_724 : decode mZ_law.2.1 724 = .ok (.iconst 1, 1) := by decide +kernel
theorem dZ_law_725 : decode mZ_law.2.1 725 = .ok (.iadd, 1) := by decide +kernel
theorem dZ_law_726 : decode mZ_law.2.1 726 = .ok (.iaload, 1) := by decide +kernel
theorem dZ_law_727 : decode mZ_law.2.1 727 = .ok (.aload_n 0, 1) := by decide +kernel
theorem dZ_law_728 : decode mZ_law.2.1 728 = .ok (.iload_n 3, 1) := by decide +kernel
theorem dZ_law_729 : decode mZ_law.2.1 729 = .ok (.iconst 2, 1) := by decide +kernel
theorem dZ_law_730 : decode mZ_law.2.1 730 = .ok (.iadd, 1) := by decide +kernel
theorem dZ_law_731 : decode mZ_law.2.1 731 = .ok (.iaload, 1) := by decide +kernel
theorem dZ_law_732 : decode mZ_law.2.1 732 = .ok (.ifCond .eq 7, 3) := by decide +kernel
theorem dZ_law_735 : decode mZ_law.2.1 735 = .ok (.iconst 1, 1) := by decide +kernel
theorem dZ_law_736 : decode mZ_law.2.1 736 = .ok (.goto 4, 3) := by decide +kernel
theorem dZ_law_739 : decode mZ_law.2.1 739 = .ok (.iconst 0, 1) := by decide +kernel
theorem dZ_law_740 : decode mZ_law.2.1 740 = .ok (.invokevirtual 87, 3) := by decide +kernel
theorem dZ_law_743 : decode mZ_law.2.1 743 = .ok (.if_icmp .eq 745, 3) := by decide +kernel
theorem dZ_law_746 : decode mZ_law.2.1 746 = .ok (.iconst 0, 1) := by decide +kernel
theorem dZ_law_747 : decode mZ_law.2.1 747 = .ok (.ireturn, 1) := by decide +kernel
theorem dZ_law_748 : decode mZ_law.2.1 748 = .ok (.aload_n 1, 1) := by decide +kernel
theorem dZ_law_749 : decode mZ_law.2.1 749 = .ok (.invokevirtual 88, 3) := by decide +kernel
theorem dZ_law_752 : decode mZ_law.2.1 752 = .ok (.aload_n 2, 1) := by decide +kernel
theorem dZ_law_753 : decode mZ_law.2.1 753 = .ok (.invokevirtual 91, 3) := by decide +kernel
theorem dZ_law_756 : decode mZ_law.2.1 756 = .ok (.if_icmp .eq 732, 3) := by decide +kernel
theorem dZ_law_759 : decode mZ_law.2.1 759 = .ok (.iconst 0, 1) := by decide +kernel
theorem dZ_law_760 : decode mZ_law.2.1 760 = .ok (.ireturn, 1) := by decide +kernel
theorem dZ_law_761 : decode mZ_law.2.1 761 = .ok (.aload_n 1, 1) := by decide +kernel
theorem dZ_law_762 : decode mZ_law.2.1 762 = .ok (.aload_n 0, 1) := by decide +kernel
theorem dZ_law_763 : decode mZ_law.2.1 763 = .ok (.iload_n 3, 1) := by decide +kernel
theorem dZ_law_764 : decode mZ_law.2.1 764 = .ok (.iconst 1, 1) := by decide +kernel
theorem dZ_law_765 : decode mZ_law.2.1 765 = .ok (.iadd, 1) := by decide +kernel
theorem dZ_law_766 : decode mZ_law.2.1 766 = .ok (.iaload, 1) := by decide +kernel
theorem dZ_law_767 : decode mZ_law.2.1 767 = .ok (.aload_n 0, 1) := by decide +kernel
theorem dZ_law_768 : decode mZ_law.2.1 768 = .ok (.iload_n 3, 1) := by decide +kernel
theorem dZ_law_769 : decode mZ_law.2.1 769 = .ok (.iconst 2, 1) := by decide +kernel
theorem dZ_law_770 : decode mZ_law.2.1 770 = .ok (.iadd, 1) := by decide +kernel
theorem dZ_law_771 : decode mZ_law.2.1 771 = .ok (.iaload, 1) := by decide +kernel
theorem dZ_law_772 : decode mZ_law.2.1 772 = .ok (.invokevirtual 92, 3) := by decide +kernel
theorem dZ_law_775 : decode mZ_law.2.1 775 = .ok (.aload_n 2, 1) := by decide +kernel
theorem dZ_law_776 : decode mZ_law.2.1 776 = .ok (.aload_n 0, 1) := by decide +kernel
theorem dZ_law_777 : decode mZ_law.2.1 777 = .ok (.iload_n 3, 1) := by decide +kernel
theorem dZ_law_778 : decode mZ_law.2.1 778 = .ok (.iconst 1, 1) := by decide +kernel
theorem dZ_law_779 : decode mZ_law.2.1 779 = .ok (.iadd, 1) := by decide +kernel
theorem dZ_law_780 : decode mZ_law.2.1 780 = .ok (.iaload, 1) := by decide +kernel
theorem dZ_law_781 : decode mZ_law.2.1 781 = .ok (.aload_n 0, 1) := by decide +kernel
theorem dZ_law_782 : decode mZ_law.2.1 782 = .ok (.iload_n 3, 1) := by decide +kernel
theorem dZ_law_783 : decode mZ_law.2.1 783 = .ok (.iconst 2, 1) := by decide +kernel
theorem dZ_law_784 : decode mZ_law.2.1 784 = .ok (.iadd, 1) := by decide +kernel
theorem dZ_law_785 : decode mZ_law.2.1 785 = .ok (.iaload, 1) := by decide +kernel
theorem dZ_law_786 : decode mZ_law.2.1 786 = .ok (.invokevirtual 95, 3) := by decide +kernel
theorem dZ_law_789 : decode mZ_law.2.1 789 = .ok (.lcmp, 1) := by decide +kernel
theorem dZ_law_790 : decode mZ_law.2.1 790 = .ok (.ifCond .eq 698, 3) := by decide +kernel
theorem dZ_law_793 : decode mZ_law.2.1 793 = .ok (.iconst 0, 1) := by decide +kernel
theorem dZ_law_794 : decode mZ_law.2.1 794 = .ok (.ireturn, 1) := by decide +kernel
theorem dZ_law_795 : decode mZ_law.2.1 795 = .ok (.aload_n 1, 1) := by decide +kernel
theorem dZ_law_796 : decode mZ_law.2.1 796 = .ok (.invokevirtual 96, 3) := by decide +kernel
theorem dZ_law_799 : decode mZ_law.2.1 799 = .ok (.aload_n 2, 1) := by decide +kernel
theorem dZ_law_800 : decode mZ_law.2.1 800 = .ok (.invokevirtual 99, 3) := by decide +kernel
theorem dZ_law_803 : decode mZ_law.2.1 803 = .ok (.if_icmp .eq 685, 3) := by decide +kernel
theorem dZ_law_806 : decode mZ_law.2.1 806 = .ok (.iconst 0, 1) := by decide +kernel
theorem dZ_law_807 : decode mZ_law.2.1 807 = .ok (.ireturn, 1) := by decide +kernel
theorem dZ_law_808 : decode mZ_law.2.1 808 = .ok (.aload_n 1, 1) := by decide +kernel
theorem dZ_law_809 : decode mZ_law.2.1 809 = .ok (.aload_n 0, 1) := by decide +kernel
theorem dZ_law_810 : decode mZ_law.2.1 810 = .ok (.iload_n 3, 1) := by decide +kernel
theorem dZ_law_811 : decode mZ_law.2.1 811 = .ok (.iconst 1, 1) := by decide +kernel
theorem dZ_law_812 : decode mZ_law.2.1 812 = .ok (.iadd, 1) := by decide +kernel
theorem dZ_law_813 : decode mZ_law.2.1 813 = .ok (.iaload, 1) := by decide +kernel
theorem dZ_law_814 : decode mZ_law.2.1 814 = .ok (.aload_n 0, 1) := by decide +kernel
theorem dZ_law_815 : decode mZ_law.2.1 815 = .ok (.iload_n 3, 1) := by decide +kernel
theorem dZ_law_816 : decode mZ_law.2.1 816 = .ok (.iconst 2, 1) := by decide +kernel
theorem dZ_law_817 : decode mZ_law.2.1 817 = .ok (.iadd, 1) := by decide +kernel
theorem dZ_law_818 : decode mZ_law.2.1 818 = .ok (.iaload, 1) := by decide +kernel
theorem dZ_law_819 : decode mZ_law.2.1 819 = .ok (.invokevirtual 100, 3) := by decide +kernel
theorem dZ_law_822 : decode mZ_law.2.1 822 = .ok (.aload_n 2, 1) := by decide +kernel
theorem dZ_law_823 : decode mZ_law.2.1 823 = .ok (.aload_n 0, 1) := by decide +kernel
theorem dZ_law_824 : decode mZ_law.2.1 824 = .ok (.iload_n 3, 1) := by decide +kernel
theorem dZ_law_825 : decode mZ_law.2.1 825 = .ok (.iconst 1, 1) := by decide +kernel
theorem dZ_law_826 : decode mZ_law.2.1 826 = .ok (.iadd, 1) := by decide +kernel
theorem dZ_law_827 : decode mZ_law.2.1 827 = .ok (.iaload, 1) := by decide +kernel
theorem dZ_law_828 : decode mZ_law.2.1 828 = .ok (.aload_n 0, 1) := by decide +kernel
theorem dZ_law_829 : decode mZ_law.2.1 829 = .ok (.iload_n 3, 1) := by decide +kernel
theorem dZ_law_830 : decode mZ_law.2.1 830 = .ok (.iconst 2, 1) := by decide +kernel
theorem dZ_law_831 : decode mZ_law.2.1 831 = .ok (.iadd, 1) := by decide +kernel
theorem dZ_law_832 : decode mZ_law.2.1 832 = .ok (.iaload, 1) := by decide +kernel
theorem dZ_law_833 : decode mZ_law.2.1 833 = .ok (.invokevirtual 103, 3) := by decide +kernel
theorem dZ_law_836 : decode mZ_law.2.1 836 = .ok (.if_icmp .eq 652, 3) := by decide +kernel
theorem dZ_law_839 : decode mZ_law.2.1 839 = .ok (.iconst 0, 1) := by decide +kernel
theorem dZ_law_840 : decode mZ_law.2.1 840 = .ok (.ireturn, 1) := by decide +kernel
theorem dZ_law_841 : decode mZ_law.2.1 841 = .ok (.aload_n 1, 1) := by decide +kernel
theorem dZ_law_842 : decode mZ_law.2.1 842 = .ok (.aload_n 0, 1) := by decide +kernel
theorem dZ_law_843 : decode mZ_law.2.1 843 = .ok (.iload_n 3, 1) := by decide +kernel
theorem dZ_law_844 : decode mZ_law.2.1 844 = .ok (.iconst 1, 1) := by decide +kernel
theorem dZ_law_845 : decode mZ_law.2.1 845 = .ok (.iadd, 1) := by decide +kernel
theorem dZ_law_846 : decode mZ_law.2.1 846 = .ok (.iaload, 1) := by decide +kernel
theorem dZ_law_847 : decode mZ_law.2.1 847 = .ok (.invokevirtual 104, 3) := by decide +kernel
theorem dZ_law_850 : decode mZ_law.2.1 850 = .ok (.aload_n 2, 1) := by decide +kernel
theorem dZ_law_851 : decode mZ_law.2.1 851 = .ok (.aload_n 0, 1) := by decide +kernel
theorem dZ_law_852 : decode mZ_law.2.1 852 = .ok (.iload_n 3, 1) := by decide +kernel
theorem dZ_law_853 : decode mZ_law.2.1 853 = .ok (.iconst 1, 1) := by decide +kernel
theorem dZ_law_854 : decode mZ_law.2.1 854 = .ok (.iadd, 1) := by decide +kernel
theorem dZ_law_855 : decode mZ_law.2.1 855 = .ok (.iaload, 1) := by decide +kernel
theorem dZ_law_856 : decode mZ_law.2.1 856 = .ok (.invokevirtual 107, 3) := by decide +kernel
theorem dZ_law_859 : decode mZ_law.2.1 859 = .ok (.if_icmp .eq 629, 3) := by decide +kernel
theorem dZ_law_862 : decode mZ_law.2.1 862 = .ok (.iconst 0, 1) := by decide +kernel
theorem dZ_law_863 : decode mZ_law.2.1 863 = .ok (.ireturn, 1) := by decide +kernel
theorem dZ_law_864 : decode mZ_law.2.1 864 = .ok (.aload_n 1, 1) := by decide +kernel
theorem dZ_law_865 : decode mZ_law.2.1 865 = .ok (.invokevirtual 108, 3) := by decide +kernel
theorem dZ_law_868 : decode mZ_law.2.1 868 = .ok (.aload_n 2, 1) := by decide +kernel
theorem dZ_law_869 : decode mZ_law.2.1 869 = .ok (.invokevirtual 111, 3) := by decide +kernel
theorem dZ_law_872 : decode mZ_law.2.1 872 = .ok (.if_icmp .eq 616, 3) := by decide +kernel
theorem dZ_law_875 : decode mZ_law.2.1 875 = .ok (.iconst 0, 1) := by decide +kernel
theorem dZ_law_876 : decode mZ_law.2.1 876 = .ok (.ireturn, 1) := by decide +kernel
theorem dZ_law_877 : decode mZ_law.2.1 877 = .ok (.aload_n 1, 1) := by decide +kernel
theorem dZ_law_878 : decode mZ_law.2.1 878 = .ok (.invokevirtual 112, 3) := by decide +kernel
theorem dZ_law_881 : decode mZ_law.2.1 881 = .ok (.aload_n 2, 1) := by decide +kernel
theorem dZ_law_882 : decode mZ_law.2.1 882 = .ok (.invokevirtual 115, 3) := by decide +kernel
theorem dZ_law_885 : decode mZ_law.2.1 885 = .ok (.if_icmp .eq 603, 3) := by decide +kernel
theorem dZ_law_888 : decode mZ_law.2.1 888 = .ok (.iconst 0, 1) := by decide +kernel
theorem dZ_law_889 : decode mZ_law.2.1 889 = .ok (.ireturn, 1) := by decide +kernel
theorem dZ_law_890 : decode mZ_law.2.1 890 = .ok (.aload_n 1, 1) := by decide +kernel
theorem dZ_law_891 : decode mZ_law.2.1 891 = .ok (.aload_n 0, 1) := by decide +kernel
theorem dZ_law_892 : decode mZ_law.2.1 892 = .ok (.iload_n 3, 1) := by decide +kernel
theorem dZ_law_893 : decode mZ_law.2.1 893 = .ok (.iconst 1, 1) := by decide +kernel
theorem dZ_law_894 : decode mZ_law.2.1 894 = .ok (.iadd, 1) := by decide +kernel
theorem dZ_law_895 : decode mZ_law.2.1 895 = .ok (.iaload, 1) := by decide +kernel
theorem dZ_law_896 : decode mZ_law.2.1 896 = .ok (.invokevirtual 116, 3) := by decide +kernel
theorem dZ_law_899 : decode mZ_law.2.1 899 = .ok (.aload_n 2, 1) := by decide +kernel
theorem dZ_law_900 : decode mZ_law.2.1 900 = .ok (.aload_n 0, 1) := by decide +kernel
theorem dZ_law_901 : decode mZ_law.2.1 901 = .ok (.iload_n 3, 1) := by decide +kernel
theorem dZ_law_902 : decode mZ_law.2.1 902 = .ok (.iconst 1, 1) := by decide +kernel
theorem dZ_law_903 : decode mZ_law.2.1 903 = .ok (.iadd, 1) := by decide +kernel
theorem dZ_law_904 : decode mZ_law.2.1 904 = .ok (.iaload, 1) := by decide +kernel
theorem dZ_law_905 : decode mZ_law.2.1 905 = .ok (.invokevirtual 119, 3) := by decide +kernel
theorem dZ_law_908 : decode mZ_law.2.1 908 = .ok (.if_icmp .eq 580, 3) := by decide +kernel
theorem dZ_law_911 : decode mZ_law.2.1 911 = .ok (.iconst 0, 1) := by decide +kernel
theorem dZ_law_912 : decode mZ_law.2.1 912 = .ok (.ireturn, 1) := by decide +kernel
theorem dZ_law_913 : decode mZ_law.2.1 913 = .ok (.aload_n 1, 1) := by decide +kernel
theorem dZ_law_914 : decode mZ_law.2.1 914 = .ok (.aload_n 0, 1) := by decide +kernel
theorem dZ_law_915 : decode mZ_law.2.1 915 = .ok (.iload_n 3, 1) := by decide +kernel
theorem dZ_law_916 : decode mZ_law.2.1 916 = .ok (.iconst 1, 1) := by decide +kernel
theorem dZ_law_917 : decode mZ_law.2.1 917 = .ok (.iadd, 1) := by decide +kernel
theorem dZ_law_918 : decode mZ_law.2.1 918 = .ok (.iaload, 1) := by decide +kernel
theorem dZ_law_919 : decode mZ_law.2.1 919 = .ok (.aload_n 0, 1) := by decide +kernel
theorem dZ_law_920 : decode mZ_law.2.1 920 = .ok (.iload_n 3, 1) := by decide +kernel
theorem dZ_law_921 : decode mZ_law.2.1 921 = .ok (.iconst 2, 1) := by decide +kernel
theorem dZ_law_922 : decode mZ_law.2.1 922 = .ok (.iadd, 1) := by decide +kernel
theorem dZ_law_923 : decode mZ_law.2.1 923 = .ok (.iaload, 1) := by decide +kernel
theorem dZ_law_924 : decode mZ_law.2.1 924 = .ok (.aload_n 0, 1) := by decide +kernel
theorem dZ_law_925 : decode mZ_law.2.1 925 = .ok (.iload_n 3, 1) := by decide +kernel
theorem dZ_law_926 : decode mZ_law.2.1 926 = .ok (.iconst 3, 1) := by decide +kernel
theorem dZ_law_927 : decode mZ_law.2.1 927 = .ok (.iadd, 1) := by decide +kernel
theorem dZ_law_928 : decode mZ_law.2.1 928 = .ok (.iaload, 1) := by decide +kernel
theorem dZ_law_929 : decode mZ_law.2.1 929 = .ok (.invokevirtual 120, 3) := by decide +kernel
theorem dZ_law_932 : decode mZ_law.2.1 932 = .ok (.aload_n 2, 1) := by decide +kernel
theorem dZ_law_933 : decode mZ_law.2.1 933 = .ok (.aload_n 0, 1) := by decide +kernel
theorem dZ_law_934 : decode mZ_law.2.1 934 = .ok (.iload_n 3, 1) := by decide +kernel
theorem dZ_law_935 : decode mZ_law.2.1 935 = .ok (.iconst 1, 1) := by decide +kernel
theorem dZ_law_936 : decode mZ_law.2.1 936 = .ok (.iadd, 1) := by decide +kernel
theorem dZ_law_937 : decode mZ_law.2.1 937 = .ok (.iaload, 1) := by decide +kernel
theorem dZ_law_938 : decode mZ_law.2.1 938 = .ok (.aload_n 0, 1) := by decide +kernel
theorem dZ_law_939 : decode mZ_law.2.1 939 = .ok (.iload_n 3, 1) := by decide +kernel
theorem dZ_law_940 : decode mZ_law.2.1 940 = .ok (.iconst 2, 1) := by decide +kernel
theorem dZ_law_941 : decode mZ_law.2.1 941 = .ok (.iadd, 1) := by decide +kernel
theorem dZ_law_942 : decode mZ_law.2.1 942 = .ok (.iaload, 1) := by decide +kernel
theorem dZ_law_943 : decode mZ_law.2.1 943 = .ok (.aload_n 0, 1) := by decide +kernel
theorem dZ_law_944 : decode mZ_law.2.1 944 = .ok (.iload_n 3, 1) := by decide +kernel
theorem dZ_law_945 : decode mZ_law.2.1 945 = .ok (.iconst 3, 1) := by decide +kernel
theorem dZ_law_946 : decode mZ_law.2.1 946 = .ok (.iadd, 1) := by decide +kernel
theorem dZ_law_947 : decode mZ_law.2.1 947 = .ok (.iaload, 1) := by decide +kernel
theorem dZ_law_948 : decode mZ_law.2.1 948 = .ok (.invokevirtual 123, 3) := by decide +kernel
theorem dZ_law_951 : decode mZ_law.2.1 951 = .ok (.if_icmp .eq 537, 3) := by decide +kernel
theorem dZ_law_954 : decode mZ_law.2.1 954 = .ok (.iconst 0, 1) := by decide +kernel
theorem dZ_law_955 : decode mZ_law.2.1 955 = .ok (.ireturn, 1) := by decide +kernel
theorem dZ_law_956 : decode mZ_law.2.1 956 = .ok (.aload_n 1, 1) := by decide +kernel
theorem dZ_law_957 : decode mZ_law.2.1 957 = .ok (.aload_n 0, 1) := by decide +kernel
theorem dZ_law_958 : decode mZ_law.2.1 958 = .ok (.iload_n 3, 1) := by decide +kernel
theorem dZ_law_959 : decode mZ_law.2.1 959 = .ok (.iconst 1, 1) := by decide +kernel
theorem dZ_law_960 : decode mZ_law.2.1 960 = .ok (.iadd, 1) := by decide +kernel
theorem dZ_law_961 : decode mZ_law.2.1 961 = .ok (.iaload, 1) := by decide +kernel
theorem dZ_law_962 : decode mZ_law.2.1 962 = .ok (.invokevirtual 124, 3) := by decide +kernel
theorem dZ_law_965 : decode mZ_law.2.1 965 = .ok (.aload_n 2, 1) := by decide +kernel
theorem dZ_law_966 : decode mZ_law.2.1 966 = .ok (.aload_n 0, 1) := by decide +kernel
theorem dZ_law_967 : decode mZ_law.2.1 967 = .ok (.iload_n 3, 1) := by decide +kernel
theorem dZ_law_968 : decode mZ_law.2.1 968 = .ok (.iconst 1, 1) := by decide +kernel
theorem dZ_law_969 : decode mZ_law.2.1 969 = .ok (.iadd, 1) := by decide +kernel
theorem dZ_law_970 : decode mZ_law.2.1 970 = .ok (.iaload, 1) := by decide +kernel
theorem dZ_law_971 : decode mZ_law.2.1 971 = .ok (.invokevirtual 127, 3) := by decide +kernel
theorem dZ_law_974 : decode mZ_law.2.1 974 = .ok (.if_icmp .eq 514, 3) := by decide +kernel
theorem dZ_law_977 : decode mZ_law.2.1 977 = .ok (.iconst 0, 1) := by decide +kernel
theorem dZ_law_978 : decode mZ_law.2.1 978 = .ok (.ireturn, 1) := by decide +kernel
theorem dZ_law_979 : decode mZ_law.2.1 979 = .ok (.aload_n 1, 1) := by decide +kernel
theorem dZ_law_980 : decode mZ_law.2.1 980 = .ok (.invokevirtual 128, 3) := by decide +kernel
theorem dZ_law_983 : decode mZ_law.2.1 983 = .ok (.aload_n 2, 1) := by decide +kernel
theorem dZ_law_984 : decode mZ_law.2.1 984 = .ok (.invokevirtual 131, 3) := by decide +kernel
theorem dZ_law_987 : decode mZ_law.2.1 987 = .ok (.if_icmp .eq 501, 3) := by decide +kernel
theorem dZ_law_990 : decode mZ_law.2.1 990 = .ok (.iconst 0, 1) := by decide +kernel
theorem dZ_law_991 : decode mZ_law.2.1 991 = .ok (.ireturn, 1) := by decide +kernel
theorem dZ_law_992 : decode mZ_law.2.1 992 = .ok (.aload_n 1, 1) := by decide +kernel
theorem dZ_law_993 : decode mZ_law.2.1 993 = .ok (.aload_n 0, 1) := by decide +kernel
theorem dZ_law_994 : decode mZ_law.2.1 994 = .ok (.iload_n 3, 1) := by decide +kernel
theorem dZ_law_995 : decode mZ_law.2.1 995 = .ok (.iconst 1, 1) := by decide +kernel
theorem dZ_law_996 : decode mZ_law.2.1 996 = .ok (.iadd, 1) := by decide +kernel
theorem dZ_law_997 : decode mZ_law.2.1 997 = .ok (.iaload, 1) := by decide +kernel
theorem dZ_law_998 : decode mZ_law.2.1 998 = .ok (.invokevirtual 132, 3) := by decide +kernel
theorem dZ_law_1001 : decode mZ_law.2.1 1001 = .ok (.aload_n 2, 1) := by decide +kernel
theorem dZ_law_1002 : decode mZ_law.2.1 1002 = .ok (.aload_n 0, 1) := by decide +kernel
theorem dZ_law_1003 : decode mZ_law.2.1 1003 = .ok (.iload_n 3, 1) := by decide +kernel
theorem dZ_law_1004 : decode mZ_law.2.1 1004 = .ok (.iconst 1, 1) := by decide +kernel
theorem dZ_law_1005 : decode mZ_law.2.1 1005 = .ok (.iadd, 1) := by decide +kernel
theorem dZ_law_1006 : decode mZ_law.2.1 1006 = .ok (.iaload, 1) := by decide +kernel
theorem dZ_law_1007 : decode mZ_law.2.1 1007 = .ok (.invokevirtual 135, 3) := by decide +kernel
theorem dZ_law_1010 : decode mZ_law.2.1 1010 = .ok (.if_icmp .eq 478, 3) := by decide +kernel
theorem dZ_law_1013 : decode mZ_law.2.1 1013 = .ok (.iconst 0, 1) := by decide +kernel
theorem dZ_law_1014 : decode mZ_law.2.1 1014 = .ok (.ireturn, 1) := by decide +kernel
theorem dZ_law_1015 : decode mZ_law.2.1 1015 = .ok (.aload_n 1, 1) := by decide +kernel
theorem dZ_law_1016 : decode mZ_law.2.1 1016 = .ok (.aload_n 0, 1) := by decide +kernel
theorem dZ_law_1017 : decode mZ_law.2.1 1017 = .ok (.iload_n 3, 1) := by decide +kernel
theorem dZ_law_1018 : decode mZ_law.2.1 1018 = .ok (.iconst 1, 1) := by decide +kernel
theorem dZ_law_1019 : decode mZ_law.2.1 1019 = .ok (.iadd, 1) := by decide +kernel
theorem dZ_law_1020 : decode mZ_law.2.1 1020 = .ok (.iaload, 1) := by decide +kernel
theorem dZ_law_1021 : decode mZ_law.2.1 1021 = .ok (.invokevirtual 136, 3) := by decide +kernel
theorem dZ_law_1024 : decode mZ_law.2.1 1024 = .ok (.aload_n 2, 1) := by decide +kernel
theorem dZ_law_1025 : decode mZ_law.2.1 1025 = .ok (.aload_n 0, 1) := by decide +kernel
theorem dZ_law_1026 : decode mZ_law.2.1 1026 = .ok (.iload_n 3, 1) := by decide +kernel
theorem dZ_law_1027 : decode mZ_law.2.1 1027 = .ok (.iconst 1, 1) := by decide +kernel
theorem dZ_law_1028 : decode mZ_law.2.1 1028 = .ok (.iadd, 1) := by decide +kernel
theorem dZ_law_1029 : decode mZ_law.2.1 1029 = .ok (.iaload, 1) := by decide +kernel
theorem dZ_law_1030 : decode mZ_law.2.1 1030 = .ok (.invokevirtual 139, 3) := by decide +kernel
theorem dZ_law_1033 : decode mZ_law.2.1 1033 = .ok (.if_icmp .eq 455, 3) := by decide +kernel
theorem dZ_law_1036 : decode mZ_law.2.1 1036 = .ok (.iconst 0, 1) := by decide +kernel
theorem dZ_law_1037 : decode mZ_law.2.1 1037 = .ok (.ireturn, 1) := by decide +kernel
theorem dZ_law_1038 : decode mZ_law.2.1 1038 = .ok (.aload_n 1, 1) := by decide +kernel
theorem dZ_law_1039 : decode mZ_law.2.1 1039 = .ok (.aload_n 0, 1) := by decide +kernel
theorem dZ_law_1040 : decode mZ_law.2.1 1040 = .ok (.iload_n 3, 1) := by decide +kernel
theorem dZ_law_1041 : decode mZ_law.2.1 1041 = .ok (.iconst 1, 1) := by decide +kernel
theorem dZ_law_1042 : decode mZ_law.2.1 1042 = .ok (.iadd, 1) := by decide +kernel
theorem dZ_law_1043 : decode mZ_law.2.1 1043 = .ok (.iaload, 1) := by decide +kernel
theorem dZ_law_1044 : decode mZ_law.2.1 1044 = .ok (.aload_n 0, 1) := by decide +kernel
theorem dZ_law_1045 : decode mZ_law.2.1 1045 = .ok (.iload_n 3, 1) := by decide +kernel
theorem dZ_law_1046 : decode mZ_law.2.1 1046 = .ok (.iconst 2, 1) := by decide +kernel
theorem dZ_law_1047 : decode mZ_law.2.1 1047 = .ok (.iadd, 1) := by decide +kernel
theorem dZ_law_1048 : decode mZ_law.2.1 1048 = .ok (.iaload, 1) := by decide +kernel
theorem dZ_law_1049 : decode mZ_law.2.1 1049 = .ok (.aload_n 0, 1) := by decide +kernel
theorem dZ_law_1050 : decode mZ_law.2.1 1050 = .ok (.iload_n 3, 1) := by decide +kernel
theorem dZ_law_1051 : decode mZ_law.2.1 1051 = .ok (.iconst 3, 1) := by decide +kernel
theorem dZ_law_1052 : decode mZ_law.2.1 1052 = .ok (.iadd, 1) := by decide +kernel
theorem dZ_law_1053 : decode mZ_law.2.1 1053 = .ok (.iaload, 1) := by decide +kernel
theorem dZ_law_1054 : decode mZ_law.2.1 1054 = .ok (.invokevirtual 140, 3) := by decide +kernel
theorem dZ_law_1057 : decode mZ_law.2.1 1057 = .ok (.aload_n 2, 1) := by decide +kernel
theorem dZ_law_1058 : decode mZ_law.2.1 1058 = .ok (.aload_n 0, 1) := by decide +kernel
theorem dZ_law_1059 : decode mZ_law.2.1 1059 = .ok (.iload_n 3, 1) := by decide +kernel
theorem dZ_law_1060 : decode mZ_law.2.1 1060 = .ok (.iconst 1, 1) := by decide +kernel
theorem dZ_law_1061 : decode mZ_law.2.1 1061 = .ok (.iadd, 1) := by decide +kernel
theorem dZ_law_1062 : decode mZ_law.2.1 1062 = .ok (.iaload, 1) := by decide +kernel
theorem dZ_law_1063 : decode mZ_law.2.1 1063 = .ok (.aload_n 0, 1) := by decide +kernel
theorem dZ_law_1064 : decode mZ_law.2.1 1064 = .ok (.iload_n 3, 1) := by decide +kernel
theorem dZ_law_1065 : decode mZ_law.2.1 1065 = .ok (.iconst 2, 1) := by decide +kernel
theorem dZ_law_1066 : decode mZ_law.2.1 1066 = .ok (.iadd, 1) := by decide +kernel
theorem dZ_law_1067 : decode mZ_law.2.1 1067 = .ok (.iaload, 1) := by decide +kernel
theorem dZ_law_1068 : decode mZ_law.2.1 1068 = .ok (.aload_n 0, 1) := by decide +kernel
theorem dZ_law_1069 : decode mZ_law.2.1 1069 = .ok (.iload_n 3, 1) := by decide +kernel
theorem dZ_law_1070 : decode mZ_law.2.1 1070 = .ok (.iconst 3, 1) := by decide +kernel
theorem dZ_law_1071 : decode mZ_law.2.1 1071 = .ok (.iadd, 1) := by decide +kernel
theorem dZ_law_1072 : decode mZ_law.2.1 1072 = .ok (.iaload, 1) := by decide +kernel
theorem dZ_law_1073 : decode mZ_law.2.1 1073 = .ok (.invokevirtual 143, 3) := by decide +kernel
theorem dZ_law_1076 : decode mZ_law.2.1 1076 = .ok (.if_icmp .eq 412, 3) := by decide +kernel
theorem dZ_law_1079 : decode mZ_law.2.1 1079 = .ok (.iconst 0, 1) := by decide +kernel
theorem dZ_law_1080 : decode mZ_law.2.1 1080 = .ok (.ireturn, 1) := by decide +kernel
theorem dZ_law_1081 : decode mZ_law.2.1 1081 = .ok (.aload_n 1, 1) := by decide +kernel
theorem dZ_law_1082 : decode mZ_law.2.1 1082 = .ok (.invokevirtual 144, 3) := by decide +kernel
theorem dZ_law_1085 : decode mZ_law.2.1 1085 = .ok (.aload_n 2, 1) := by decide +kernel
theorem dZ_law_1086 : decode mZ_law.2.1 1086 = .ok (.invokevirtual 147, 3) := by decide +kernel
theorem dZ_law_1089 : decode mZ_law.2.1 1089 = .ok (.if_icmp .eq 399, 3) := by decide +kernel
theorem dZ_law_1092 : decode mZ_law.2.1 1092 = .ok (.iconst 0, 1) := by decide +kernel
theorem dZ_law_1093 : decode mZ_law.2.1 1093 = .ok (.ireturn, 1) := by decide +kernel
theorem dZ_law_1094 : decode mZ_law.2.1 1094 = .ok (.aload_n 1, 1) := by decide +kernel
theorem dZ_law_1095 : decode mZ_law.2.1 1095 = .ok (.aload_n 0, 1) := by decide +kernel
theorem dZ_law_1096 : decode mZ_law.2.1 1096 = .ok (.iload_n 3, 1) := by decide +kernel
theorem dZ_law_1097 : decode mZ_law.2.1 1097 = .ok (.iconst 1, 1) := by decide +kernel
theorem dZ_law_1098 : decode mZ_law.2.1 1098 = .ok (.iadd, 1) := by decide +kernel
theorem dZ_law_1099 : decode mZ_law.2.1 1099 = .ok (.iaload, 1) := by decide +kernel
theorem dZ_law_1100 : decode mZ_law.2.1 1100 = .ok (.aload_n 0, 1) := by decide +kernel
theorem dZ_law_1101 : decode mZ_law.2.1 1101 = .ok (.iload_n 3, 1) := by decide +kernel
theorem dZ_law_1102 : decode mZ_law.2.1 1102 = .ok (.iconst 2, 1) := by decide +kernel
theorem dZ_law_1103 : decode mZ_law.2.1 1103 = .ok (.iadd, 1) := by decide +kernel
theorem dZ_law_1104 : decode mZ_law.2.1 1104 = .ok (.iaload, 1) := by decide +kernel
theorem dZ_law_1105 : decode mZ_law.2.1 1105 = .ok (.invokevirtual 148, 3) := by decide +kernel
theorem dZ_law_1108 : decode mZ_law.2.1 1108 = .ok (.aload_n 2, 1) := by decide +kernel
theorem dZ_law_1109 : decode mZ_law.2.1 1109 = .ok (.aload_n 0, 1) := by decide +kernel
theorem dZ_law_1110 : decode mZ_law.2.1 1110 = .ok (.iload_n 3, 1) := by decide +kernel
theorem dZ_law_1111 : decode mZ_law.2.1 1111 = .ok (.iconst 1, 1) := by decide +kernel
theorem dZ_law_1112 : decode mZ_law.2.1 1112 = .ok (.iadd, 1) := by decide +kernel
theorem dZ_law_1113 : decode mZ_law.2.1 1113 = .ok (.iaload, 1) := by decide +kernel
theorem dZ_law_1114 : decode mZ_law.2.1 1114 = .ok (.aload_n 0, 1) := by decide +kernel
theorem dZ_law_1115 : decode mZ_law.2.1 1115 = .ok (.iload_n 3, 1) := by decide +kernel
theorem dZ_law_1116 : decode mZ_law.2.1 1116 = .ok (.iconst 2, 1) := by decide +kernel
theorem dZ_law_1117 : decode mZ_law.2.1 1117 = .ok (.iadd, 1) := by decide +kernel
theorem dZ_law_1118 : decode mZ_law.2.1 1118 = .ok (.iaload, 1) := by decide +kernel
theorem dZ_law_1119 : decode mZ_law.2.1 1119 = .ok (.invokevirtual 151, 3) := by decide +kernel
theorem dZ_law_1122 : decode mZ_law.2.1 1122 = .ok (.if_icmp .eq 366, 3) := by decide +kernel
theorem dZ_law_1125 : decode mZ_law.2.1 1125 = .ok (.iconst 0, 1) := by decide +kernel
theorem dZ_law_1126 : decode mZ_law.2.1 1126 = .ok (.ireturn, 1) := by decide +kernel
theorem dZ_law_1127 : decode mZ_law.2.1 1127 = .ok (.aload_n 1, 1) := by decide +kernel
theorem dZ_law_1128 : decode mZ_law.2.1 1128 = .ok (.invokevirtual 152, 3) := by decide +kernel
theorem dZ_law_1131 : decode mZ_law.2.1 1131 = .ok (.aload_n 2, 1) := by decide +kernel
theorem dZ_law_1132 : decode mZ_law.2.1 1132 = .ok (.invokevirtual 155, 3) := by decide +kernel
theorem dZ_law_1135 : decode mZ_law.2.1 1135 = .ok (.if_icmp .eq 353, 3) := by decide +kernel
theorem dZ_law_1138 : decode mZ_law.2.1 1138 = .ok (.iconst 0, 1) := by decide +kernel
theorem dZ_law_1139 : decode mZ_law.2.1 1139 = .ok (.ireturn, 1) := by decide +kernel
theorem dZ_law_1140 : decode mZ_law.2.1 1140 = .ok (.aload_n 1, 1) := by decide +kernel
theorem dZ_law_1141 : decode mZ_law.2.1 1141 = .ok (.invokevirtual 156, 3) := by decide +kernel
theorem dZ_law_1144 : decode mZ_law.2.1 1144 = .ok (.aload_n 2, 1) := by decide +kernel
theorem dZ_law_1145 : decode mZ_law.2.1 1145 = .ok (.invokevirtual 159, 3) := by decide +kernel
theorem dZ_law_1148 : decode mZ_law.2.1 1148 = .ok (.if_icmp .eq 340, 3) := by decide +kernel
theorem dZ_law_1151 : decode mZ_law.2.1 1151 = .ok (.iconst 0, 1) := by decide +kernel
theorem dZ_law_1152 : decode mZ_law.2.1 1152 = .ok (.ireturn, 1) := by decide +kernel
theorem dZ_law_1153 : decode mZ_law.2.1 1153 = .ok (.aload_n 1, 1) := by decide +kernel
theorem dZ_law_1154 : decode mZ_law.2.1 1154 = .ok (.aload_n 0, 1) := by decide +kernel
theorem dZ_law_1155 : decode mZ_law.2.1 1155 = .ok (.iload_n 3, 1) := by decide +kernel
theorem dZ_law_1156 : decode mZ_law.2.1 1156 = .ok (.iconst 1, 1) := by decide +kernel
theorem dZ_law_1157 : decode mZ_law.2.1 1157 = .ok (.iadd, 1) := by decide +kernel
theorem dZ_law_1158 : decode mZ_law.2.1 1158 = .ok (.iaload, 1) := by decide +kernel
theorem dZ_law_1159 : decode mZ_law.2.1 1159 = .ok (.aload_n 0, 1) := by decide +kernel
theorem dZ_law_1160 : decode mZ_law.2.1 1160 = .ok (.iload_n 3, 1) := by decide +kernel
theorem dZ_law_1161 : decode mZ_law.2.1 1161 = .ok (.iconst 2, 1) := by decide +kernel
theorem dZ_law_1162 : decode mZ_law.2.1 1162 = .ok (.iadd, 1) := by decide +kernel
theorem dZ_law_1163 : decode mZ_law.2.1 1163 = .ok (.iaload, 1) := by decide +kernel
theorem dZ_law_1164 : decode mZ_law.2.1 1164 = .ok (.aload_n 0, 1) := by decide +kernel
theorem dZ_law_1165 : decode mZ_law.2.1 1165 = .ok (.iload_n 3, 1) := by decide +kernel
theorem dZ_law_1166 : decode mZ_law.2.1 1166 = .ok (.iconst 3, 1) := by decide +kernel
theorem dZ_law_1167 : decode mZ_law.2.1 1167 = .ok (.iadd, 1) := by decide +kernel
theorem dZ_law_1168 : decode mZ_law.2.1 1168 = .ok (.iaload, 1) := by decide +kernel
theorem dZ_law_1169 : decode mZ_law.2.1 1169 = .ok (.invokevirtual 160, 3) := by decide +kernel
theorem dZ_law_1172 : decode mZ_law.2.1 1172 = .ok (.aload_n 2, 1) := by decide +kernel
theorem dZ_law_1173 : decode mZ_law.2.1 1173 = .ok (.aload_n 0, 1) := by decide +kernel
theorem dZ_law_1174 : decode mZ_law.2.1 1174 = .ok (.iload_n 3, 1) := by decide +kernel
theorem dZ_law_1175 : decode mZ_law.2.1 1175 = .ok (.iconst 1, 1) := by decide +kernel
theorem dZ_law_1176 : decode mZ_law.2.1 1176 = .ok (.iadd, 1) := by decide +kernel
theorem dZ_law_1177 : decode mZ_law.2.1 1177 = .ok (.iaload, 1) := by decide +kernel
theorem dZ_law_1178 : decode mZ_law.2.1 1178 = .ok (.aload_n 0, 1) := by decide +kernel
theorem dZ_law_1179 : decode mZ_law.2.1 1179 = .ok (.iload_n 3, 1) := by decide +kernel
theorem dZ_law_1180 : decode mZ_law.2.1 1180 = .ok (.iconst 2, 1) := by decide +kernel
theorem dZ_law_1181 : decode mZ_law.2.1 1181 = .ok (.iadd, 1) := by decide +kernel
theorem dZ_law_1182 : decode mZ_law.2.1 1182 = .ok (.iaload, 1) := by decide +kernel
theorem dZ_law_1183 : decode mZ_law.2.1 1183 = .ok (.aload_n 0, 1) := by decide +kernel
theorem dZ_law_1184 : decode mZ_law.2.1 1184 = .ok (.iload_n 3, 1) := by decide +kernel
theorem dZ_law_1185 : decode mZ_law.2.1 1185 = .ok (.iconst 3, 1) := by decide +kernel
theorem dZ_law_1186 : decode mZ_law.2.1 1186 = .ok (.iadd, 1) := by decide +kernel
theorem dZ_law_1187 : decode mZ_law.2.1 1187 = .ok (.iaload, 1) := by decide +kernel
theorem dZ_law_1188 : decode mZ_law.2.1 1188 = .ok (.invokevirtual 163, 3) := by decide +kernel
theorem dZ_law_1191 : decode mZ_law.2.1 1191 = .ok (.if_icmp .eq 297, 3) := by decide +kernel
theorem dZ_law_1194 : decode mZ_law.2.1 1194 = .ok (.iconst 0, 1) := by decide +kernel
theorem dZ_law_1195 : decode mZ_law.2.1 1195 = .ok (.ireturn, 1) := by decide +kernel
theorem dZ_law_1196 : decode mZ_law.2.1 1196 = .ok (.aload_n 1, 1) := by decide +kernel
theorem dZ_law_1197 : decode mZ_law.2.1 1197 = .ok (.aload_n 0, 1) := by decide +kernel
theorem dZ_law_1198 : decode mZ_law.2.1 1198 = .ok (.iload_n 3, 1) := by decide +kernel
theorem dZ_law_1199 : decode mZ_law.2.1 1199 = .ok (.iconst 1, 1) := by decide +kernel
theorem dZ_law_1200 : decode mZ_law.2.1 1200 = .ok (.iadd, 1) := by decide +kernel
theorem dZ_law_1201 : decode mZ_law.2.1 1201 = .ok (.iaload, 1) := by decide +kernel
theorem dZ_law_1202 : decode mZ_law.2.1 1202 = .ok (.invokevirtual 164, 3) := by decide +kernel
theorem dZ_law_1205 : decode mZ_law.2.1 1205 = .ok (.aload_n 2, 1) := by decide +kernel
theorem dZ_law_1206 : decode mZ_law.2.1 1206 = .ok (.aload_n 0, 1) := by decide +kernel
theorem dZ_law_1207 : decode mZ_law.2.1 1207 = .ok (.iload_n 3, 1) := by decide +kernel
theorem dZ_law_1208 : decode mZ_law.2.1 1208 = .ok (.iconst 1, 1) := by decide +kernel
theorem dZ_law_1209 : decode mZ_law.2.1 1209 = .ok (.iadd, 1) := by decide +kernel
theorem dZ_law_1210 : decode mZ_law.2.1 1210 = .ok (.iaload, 1) := by decide +kernel
theorem dZ_law_1211 : decode mZ_law.2.1 1211 = .ok (.invokevirtual 167, 3) := by decide +kernel
theorem dZ_law_1214 : decode mZ_law.2.1 1214 = .ok (.if_icmp .eq 274, 3) := by decide +kernel
theorem dZ_law_1217 : decode mZ_law.2.1 1217 = .ok (.iconst 0, 1) := by decide +kernel
theorem dZ_law_1218 : decode mZ_law.2.1 1218 = .ok (.ireturn, 1) := by decide +kernel
theorem dZ_law_1219 : decode mZ_law.2.1 1219 = .ok (.aload_n 1, 1) := by decide +kernel
theorem dZ_law_1220 : decode mZ_law.2.1 1220 = .ok (.aload_n 0, 1) := by decide +kernel
theorem dZ_law_1221 : decode mZ_law.2.1 1221 = .ok (.iload_n 3, 1) := by decide +kernel
theorem dZ_law_1222 : decode mZ_law.2.1 1222 = .ok (.iconst 1, 1) := by decide +kernel
theorem dZ_law_1223 : decode mZ_law.2.1 1223 = .ok (.iadd, 1) := by decide +kernel
theorem dZ_law_1224 : decode mZ_law.2.1 1224 = .ok (.iaload, 1) := by decide +kernel
theorem dZ_law_1225 : decode mZ_law.2.1 1225 = .ok (.aload_n 0, 1) := by decide +kernel
theorem dZ_law_1226 : decode mZ_law.2.1 1226 = .ok (.iload_n 3, 1) := by decide +kernel
theorem dZ_law_1227 : decode mZ_law.2.1 1227 = .ok (.iconst 2, 1) := by decide +kernel
theorem dZ_law_1228 : decode mZ_law.2.1 1228 = .ok (.iadd, 1) := by decide +kernel
theorem dZ_law_1229 : decode mZ_law.2.1 1229 = .ok (.iaload, 1) := by decide +kernel
theorem dZ_law_1230 : decode mZ_law.2.1 1230 = .ok (.invokevirtual 168, 3) := by decide +kernel
theorem dZ_law_1233 : decode mZ_law.2.1 1233 = .ok (.aload_n 2, 1) := by decide +kernel
theorem dZ_law_1234 : decode mZ_law.2.1 1234 = .ok (.aload_n 0, 1) := by decide +kernel
theorem dZ_law_1235 : decode mZ_law.2.1 1235 = .ok (.iload_n 3, 1) := by decide +kernel
theorem dZ_law_1236 : decode mZ_law.2.1 1236 = .ok (.iconst 1, 1) := by decide +kernel
theorem dZ_law_1237 : decode mZ_law.2.1 1237 = .ok (.iadd, 1) := by decide +kernel
theorem dZ_law_1238 : decode mZ_law.2.1 1238 = .ok (.iaload, 1) := by decide +kernel
theorem dZ_law_1239 : decode mZ_law.2.1 1239 = .ok (.aload_n 0, 1) := by decide +kernel
theorem dZ_law_1240 : decode mZ_law.2.1 1240 = .ok (.iload_n 3, 1) := by decide +kernel
theorem dZ_law_1241 : decode mZ_law.2.1 1241 = .ok (.iconst 2, 1) := by decide +kernel
theorem dZ_law_1242 : decode mZ_law.2.1 1242 = .ok (.iadd, 1) := by decide +kernel
theorem dZ_law_1243 : decode mZ_law.2.1 1243 = .ok (.iaload, 1) := by decide +kernel
theorem dZ_law_1244 : decode mZ_law.2.1 1244 = .ok (.invokevirtual 171, 3) := by decide +kernel
theorem dZ_law_1247 : decode mZ_law.2.1 1247 = .ok (.if_icmp .eq 241, 3) := by decide +kernel
theorem dZ_law_1250 : decode mZ_law.2.1 1250 = .ok (.iconst 0, 1) := by decide +kernel
theorem dZ_law_1251 : decode mZ_law.2.1 1251 = .ok (.ireturn, 1) := by decide +kernel
theorem dZ_law_1252 : decode mZ_law.2.1 1252 = .ok (.aload_n 1, 1) := by decide +kernel
theorem dZ_law_1253 : decode mZ_law.2.1 1253 = .ok (.aload_n 0, 1) := by decide +kernel
theorem dZ_law_1254 : decode mZ_law.2.1 1254 = .ok (.iload_n 3, 1) := by decide +kernel
theorem dZ_law_1255 : decode mZ_law.2.1 1255 = .ok (.iconst 1, 1) := by decide +kernel
theorem dZ_law_1256 : decode mZ_law.2.1 1256 = .ok (.iadd, 1) := by decide +kernel
theorem dZ_law_1257 : decode mZ_law.2.1 1257 = .ok (.iaload, 1) := by decide +kernel
theorem dZ_law_1258 : decode mZ_law.2.1 1258 = .ok (.invokevirtual 172, 3) := by decide +kernel
theorem dZ_law_1261 : decode mZ_law.2.1 1261 = .ok (.aload_n 2, 1) := by decide +kernel
theorem dZ_law_1262 : decode mZ_law.2.1 1262 = .ok (.aload_n 0, 1) := by decide +kernel
theorem dZ_law_1263 : decode mZ_law.2.1 1263 = .ok (.iload_n 3, 1) := by decide +kernel
theorem dZ_law_1264 : decode mZ_law.2.1 1264 = .ok (.iconst 1, 1) := by decide +kernel
theorem dZ_law_1265 : decode mZ_law.2.1 1265 = .ok (.iadd, 1) := by decide +kernel
theorem dZ_law_1266 : decode mZ_law.2.1 1266 = .ok (.iaload, 1) := by decide +kernel
theorem dZ_law_1267 : decode mZ_law.2.1 1267 = .ok (.invokevirtual 175, 3) := by decide +kernel
theorem dZ_law_1270 : decode mZ_law.2.1 1270 = .ok (.if_icmp .eq 218, 3) := by decide +kernel
theorem dZ_law_1273 : decode mZ_law.2.1 1273 = .ok (.iconst 0, 1) := by decide +kernel
theorem dZ_law_1274 : decode mZ_law.2.1 1274 = .ok (.ireturn, 1) := by decide +kernel
theorem dZ_law_1275 : decode mZ_law.2.1 1275 = .ok (.aload_n 1, 1) := by decide +kernel
theorem dZ_law_1276 : decode mZ_law.2.1 1276 = .ok (.aload_n 0, 1) := by decide +kernel
theorem dZ_law_1277 : decode mZ_law.2.1 1277 = .ok (.iload_n 3, 1) := by decide +kernel
theorem dZ_law_1278 : decode mZ_law.2.1 1278 = .ok (.iconst 1, 1) := by decide +kernel
theorem dZ_law_1279 : decode mZ_law.2.1 1279 = .ok (.iadd, 1) := by decide +kernel
theorem dZ_law_1280 : decode mZ_law.2.1 1280 = .ok (.iaload, 1) := by decide +kernel
theorem dZ_law_1281 : decode mZ_law.2.1 1281 = .ok (.aload_n 0, 1) := by decide +kernel
theorem dZ_law_1282 : decode mZ_law.2.1 1282 = .ok (.iload_n 3, 1) := by decide +kernel
theorem dZ_law_1283 : decode mZ_law.2.1 1283 = .ok (.iconst 2, 1) := by decide +kernel
theorem dZ_law_1284 : decode mZ_law.2.1 1284 = .ok (.iadd, 1) := by decide +kernel
theorem dZ_law_1285 : decode mZ_law.2.1 1285 = .ok (.iaload, 1) := by decide +kernel
theorem dZ_law_1286 : decode mZ_law.2.1 1286 = .ok (.aload_n 0, 1) := by decide +kernel
theorem dZ_law_1287 : decode mZ_law.2.1 1287 = .ok (.iload_n 3, 1) := by decide +kernel
theorem dZ_law_1288 : decode mZ_law.2.1 1288 = .ok (.iconst 3, 1) := by decide +kernel
theorem dZ_law_1289 : decode mZ_law.2.1 1289 = .ok (.iadd, 1) := by decide +kernel
theorem dZ_law_1290 : decode mZ_law.2.1 1290 = .ok (.iaload, 1) := by decide +kernel
theorem dZ_law_1291 : decode mZ_law.2.1 1291 = .ok (.invokevirtual 176, 3) := by decide +kernel
theorem dZ_law_1294 : decode mZ_law.2.1 1294 = .ok (.aload_n 2, 1) := by decide +kernel
theorem dZ_law_1295 : decode mZ_law.2.1 1295 = .ok (.aload_n 0, 1) := by decide +kernel
theorem dZ_law_1296 : decode mZ_law.2.1 1296 = .ok (.iload_n 3, 1) := by decide +kernel
theorem dZ_law_1297 : decode mZ_law.2.1 1297 = .ok (.iconst 1, 1) := by decide +kernel
theorem dZ_law_1298 : decode mZ_law.2.1 1298 = .ok (.iadd, 1) := by decide +kernel
theorem dZ_law_1299 : decode mZ_law.2.1 1299 = .ok (.iaload, 1) := by decide +kernel
theorem dZ_law_1300 : decode mZ_law.2.1 1300 = .ok (.aload_n 0, 1) := by decide +kernel
theorem dZ_law_1301 : decode mZ_law.2.1 1301 = .ok (.iload_n 3, 1) := by decide +kernel
theorem dZ_law_1302 : decode mZ_law.2.1 1302 = .ok (.iconst 2, 1) := by decide +kernel
theorem dZ_law_1303 : decode mZ_law.2.1 1303 = .ok (.iadd, 1) := by decide +kernel
theorem dZ_law_1304 : decode mZ_law.2.1 1304 = .ok (.iaload, 1) := by decide +kernel
theorem dZ_law_1305 : decode mZ_law.2.1 1305 = .ok (.aload_n 0, 1) := by decide +kernel
theorem dZ_law_1306 : decode mZ_law.2.1 1306 = .ok (.iload_n 3, 1) := by decide +kernel
theorem dZ_law_1307 : decode mZ_law.2.1 1307 = .ok (.iconst 3, 1) := by decide +kernel
theorem dZ_law_1308 : decode mZ_law.2.1 1308 = .ok (.iadd, 1) := by decide +kernel
theorem dZ_law_1309 : decode mZ_law.2.1 1309 = .ok (.iaload, 1) := by decide +kernel
theorem dZ_law_1310 : decode mZ_law.2.1 1310 = .ok (.invokevirtual 179, 3) := by decide +kernel
theorem dZ_law_1313 : decode mZ_law.2.1 1313 = .ok (.if_icmp .eq 175, 3) := by decide +kernel
theorem dZ_law_1316 : decode mZ_law.2.1 1316 = .ok (.iconst 0, 1) := by decide +kernel
theorem dZ_law_1317 : decode mZ_law.2.1 1317 = .ok (.ireturn, 1) := by decide +kernel
theorem dZ_law_1318 : decode mZ_law.2.1 1318 = .ok (.aload_n 1, 1) := by decide +kernel
theorem dZ_law_1319 : decode mZ_law.2.1 1319 = .ok (.aload_n 0, 1) := by decide +kernel
theorem dZ_law_1320 : decode mZ_law.2.1 1320 = .ok (.iload_n 3, 1) := by decide +kernel
theorem dZ_law_1321 : decode mZ_law.2.1 1321 = .ok (.iconst 1, 1) := by decide +kernel
theorem dZ_law_1322 : decode mZ_law.2.1 1322 = .ok (.iadd, 1) := by decide +kernel
theorem dZ_law_1323 : decode mZ_law.2.1 1323 = .ok (.iaload, 1) := by decide +kernel
theorem dZ_law_1324 : decode mZ_law.2.1 1324 = .ok (.aload_n 0, 1) := by decide +kernel
theorem dZ_law_1325 : decode mZ_law.2.1 1325 = .ok (.iload_n 3, 1) := by decide +kernel
theorem dZ_law_1326 : decode mZ_law.2.1 1326 = .ok (.iconst 2, 1) := by decide +kernel
theorem dZ_law_1327 : decode mZ_law.2.1 1327 = .ok (.iadd, 1) := by decide +kernel
theorem dZ_law_1328 : decode mZ_law.2.1 1328 = .ok (.iaload, 1) := by decide +kernel
theorem dZ_law_1329 : decode mZ_law.2.1 1329 = .ok (.aload_n 0, 1) := by decide +kernel
theorem dZ_law_1330 : decode mZ_law.2.1 1330 = .ok (.iload_n 3, 1) := by decide +kernel
theorem dZ_law_1331 : decode mZ_law.2.1 1331 = .ok (.iconst 3, 1) := by decide +kernel
theorem dZ_law_1332 : decode mZ_law.2.1 1332 = .ok (.iadd, 1) := by decide +kernel
theorem dZ_law_1333 : decode mZ_law.2.1 1333 = .ok (.iaload, 1) := by decide +kernel
theorem dZ_law_1334 : decode mZ_law.2.1 1334 = .ok (.i2l, 1) := by decide +kernel
theorem dZ_law_1335 : decode mZ_law.2.1 1335 = .ok (.bipush 32, 2) := by decide +kernel
theorem dZ_law_1337 : decode mZ_law.2.1 1337 = .ok (.lshl, 1) := by decide +kernel
theorem dZ_law_1338 : decode mZ_law.2.1 1338 = .ok (.aload_n 0, 1) := by decide +kernel
theorem dZ_law_1339 : decode mZ_law.2.1 1339 = .ok (.iload_n 3, 1) := by decide +kernel
theorem dZ_law_1340 : decode mZ_law.2.1 1340 = .ok (.iconst 4, 1) := by decide +kernel
theorem dZ_law_1341 : decode mZ_law.2.1 1341 = .ok (.iadd, 1) := by decide +kernel
theorem dZ_law_1342 : decode mZ_law.2.1 1342 = .ok (.iaload, 1) := by decide +kernel
theorem dZ_law_1343 : decode mZ_law.2.1 1343 = .ok (.i2l, 1) := by decide +kernel
theorem dZ_law_1344 : decode mZ_law.2.1 1344 = .ok (.ldc2_w 180, 3) := by decide +kernel
theorem dZ_law_1347 : decode mZ_law.2.1 1347 = .ok (.land, 1) := by decide +kernel
theorem dZ_law_1348 : decode mZ_law.2.1 1348 = .ok (.lor, 1) := by decide +kernel
theorem dZ_law_1349 : decode mZ_law.2.1 1349 = .ok (.invokevirtual 182, 3) := by decide +kernel
theorem dZ_law_1352 : decode mZ_law.2.1 1352 = .ok (.aload_n 2, 1) := by decide +kernel
theorem dZ_law_1353 : decode mZ_law.2.1 1353 = .ok (.aload_n 0, 1) := by decide +kernel
theorem dZ_law_1354 : decode mZ_law.2.1 1354 = .ok (.iload_n 3, 1) := by decide +kernel
theorem dZ_law_1355 : decode mZ_law.2.1 1355 = .ok (.iconst 1, 1) := by decide +kernel
theorem dZ_law_1356 : decode mZ_law.2.1 1356 = .ok (.iadd, 1) := by decide +kernel
theorem dZ_law_1357 : decode mZ_law.2.1 1357 = .ok (.iaload, 1) := by decide +kernel
theorem dZ_law_1358 : decode mZ_law.2.1 1358 = .ok (.aload_n 0, 1) := by decide +kernel
theorem dZ_law_1359 : decode mZ_law.2.1 1359 = .ok (.iload_n 3, 1) := by decide +kernel
theorem dZ_law_1360 : decode mZ_law.2.1 1360 = .ok (.iconst 2, 1) := by decide +kernel
theorem dZ_law_1361 : decode mZ_law.2.1 1361 = .ok (.iadd, 1) := by decide +kernel
theorem dZ_law_1362 : decode mZ_law.2.1 1362 = .ok (.iaload, 1) := by decide +kernel
theorem dZ_law_1363 : decode mZ_law.2.1 1363 = .ok (.aload_n 0, 1) := by decide +kernel
theorem dZ_law_1364 : decode mZ_law.2.1 1364 = .ok (.iload_n 3, 1) := by decide +kernel
theorem dZ_law_1365 : decode mZ_law.2.1 1365 = .ok (.iconst 3, 1) := by decide +kernel
theorem dZ_law_1366 : decode mZ_law.2.1 1366 = .ok (.iadd, 1) := by decide +kernel
theorem dZ_law_1367 : decode mZ_law.2.1 1367 = .ok (.iaload, 1) := by decide +kernel
theorem dZ_law_1368 : decode mZ_law.2.1 1368 = .ok (.i2l, 1) := by decide +kernel
theorem dZ_law_1369 : decode mZ_law.2.1 1369 = .ok (.bipush 32, 2) := by decide +kernel
theorem dZ_law_1371 : decode mZ_law.2.1 1371 = .ok (.lshl, 1) := by decide +kernel
theorem dZ_law_1372 : decode mZ_law.2.1 1372 = .ok (.aload_n 0, 1) := by decide +kernel
theorem dZ_law_1373 : decode mZ_law.2.1 1373 = .ok (.iload_n 3, 1) := by decide +kernel
theorem dZ_law_1374 : decode mZ_law.2.1 1374 = .ok (.iconst 4, 1) := by decide +kernel
theorem dZ_law_1375 : decode mZ_law.2.1 1375 = .ok (.iadd, 1) := by decide +kernel
theorem dZ_law_1376 : decode mZ_law.2.1 1376 = .ok (.iaload, 1) := by decide +kernel
theorem dZ_law_1377 : decode mZ_law.2.1 1377 = .ok (.i2l, 1) := by decide +kernel
theorem dZ_law_1378 : decode mZ_law.2.1 1378 = .ok (.ldc2_w 180, 3) := by decide +kernel
theorem dZ_law_1381 : decode mZ_law.2.1 1381 = .ok (.land, 1) := by decide +kernel
theorem dZ_law_1382 : decode mZ_law.2.1 1382 = .ok (.lor, 1) := by decide +kernel
theorem dZ_law_1383 : decode mZ_law.2.1 1383 = .ok (.invokevirtual 186, 3) := by decide +kernel
theorem dZ_law_1386 : decode mZ_law.2.1 1386 = .ok (.if_icmp .eq 102, 3) := by decide +kernel
theorem dZ_law_1389 : decode mZ_law.2.1 1389 = .ok (.iconst 0, 1) := by decide +kernel
theorem dZ_law_1390 : decode mZ_law.2.1 1390 = .ok (.ireturn, 1) := by decide +kernel
theorem dZ_law_1391 : decode mZ_law.2.1 1391 = .ok (.aload_n 1, 1) := by decide +kernel
theorem dZ_law_1392 : decode mZ_law.2.1 1392 = .ok (.aload_n 0, 1) := by decide +kernel
theorem dZ_law_1393 : decode mZ_law.2.1 1393 = .ok (.iload_n 3, 1) := by decide +kernel
theorem dZ_law_1394 : decode mZ_law.2.1 1394 = .ok (.iconst 1, 1) := by decide +kernel
theorem dZ_law_1395 : decode mZ_law.2.1 1395 = .ok (.iadd, 1) := by decide +kernel
theorem dZ_law_1396 : decode mZ_law.2.1 1396 = .ok (.iaload, 1) := by decide +kernel
theorem dZ_law_1397 : decode mZ_law.2.1 1397 = .ok (.aload_n 0, 1) := by decide +kernel
theorem dZ_law_1398 : decode mZ_law.2.1 1398 = .ok (.iload_n 3, 1) := by decide +kernel
theorem dZ_law_1399 : decode mZ_law.2.1 1399 = .ok (.iconst 2, 1) := by decide +kernel
theorem dZ_law_1400 : decode mZ_law.2.1 1400 = .ok (.iadd, 1) := by decide +kernel
theorem dZ_law_1401 : decode mZ_law.2.1 1401 = .ok (.iaload, 1) := by decide +kernel
theorem dZ_law_1402 : decode mZ_law.2.1 1402 = .ok (.invokevirtual 187, 3) := by decide +kernel
theorem dZ_law_1405 : decode mZ_law.2.1 1405 = .ok (.aload_n 2, 1) := by decide +kernel
theorem dZ_law_1406 : decode mZ_law.2.1 1406 = .ok (.aload_n 0, 1) := by decide +kernel
theorem dZ_law_1407 : decode mZ_law.2.1 1407 = .ok (.iload_n 3, 1) := by decide +kernel
theorem dZ_law_1408 : decode mZ_law.2.1 1408 = .ok (.iconst 1, 1) := by decide +kernel
theorem dZ_law_1409 : decode mZ_law.2.1 1409 = .ok (.iadd, 1) := by decide +kernel
theorem dZ_law_1410 : decode mZ_law.2.1 1410 = .ok (.iaload, 1) := by decide +kernel
theorem dZ_law_1411 : decode mZ_law.2.1 1411 = .ok (.aload_n 0, 1) := by decide +kernel
theorem dZ_law_1412 : decode mZ_law.2.1 1412 = .ok (.iload_n 3, 1) := by decide +kernel
theorem dZ_law_1413 : decode mZ_law.2.1 1413 = .ok (.iconst 2, 1) := by decide +kernel
theorem dZ_law_1414 : decode mZ_law.2.1 1414 = .ok (.iadd, 1) := by decide +kernel
theorem dZ_law_1415 : decode mZ_law.2.1 1415 = .ok (.iaload, 1) := by decide +kernel
theorem dZ_law_1416 : decode mZ_law.2.1 1416 = .ok (.invokevirtual 190, 3) := by decide +kernel
theorem dZ_law_1419 : decode mZ_law.2.1 1419 = .ok (.lcmp, 1) := by decide +kernel
theorem dZ_law_1420 : decode mZ_law.2.1 1420 = .ok (.ifCond .eq 68, 3) := by decide +kernel
theorem dZ_law_1423 : decode mZ_law.2.1 1423 = .ok (.iconst 0, 1) := by decide +kernel
theorem dZ_law_1424 : decode mZ_law.2.1 1424 = .ok (.ireturn, 1) := by decide +kernel
theorem dZ_law_1425 : decode mZ_law.2.1 1425 = .ok (.aload_n 1, 1) := by decide +kernel
theorem dZ_law_1426 : decode mZ_law.2.1 1426 = .ok (.aload_n 0, 1) := by decide +kernel
theorem dZ_law_1427 : decode mZ_law.2.1 1427 = .ok (.iload_n 3, 1) := by decide +kernel
theorem dZ_law_1428 : decode mZ_law.2.1 1428 = .ok (.iconst 1, 1) := by decide +kernel
theorem dZ_law_1429 : decode mZ_law.2.1 1429 = .ok (.iadd, 1) := by decide +kernel
theorem dZ_law_1430 : decode mZ_law.2.1 1430 = .ok (.iaload, 1) := by decide +kernel
theorem dZ_law_1431 : decode mZ_law.2.1 1431 = .ok (.aload_n 0, 1) := by decide +kernel
theorem dZ_law_1432 : decode mZ_law.2.1 1432 = .ok (.iload_n 3, 1) := by decide +kernel
theorem dZ_law_1433 : decode mZ_law.2.1 1433 = .ok (.iconst 2, 1) := by decide +kernel
theorem dZ_law_1434 : decode mZ_law.2.1 1434 = .ok (.iadd, 1) := by decide +kernel
theorem dZ_law_1435 : decode mZ_law.2.1 1435 = .ok (.iaload, 1) := by decide +kernel
theorem dZ_law_1436 : decode mZ_law.2.1 1436 = .ok (.aload_n 0, 1) := by decide +kernel
theorem dZ_law_1437 : decode mZ_law.2.1 1437 = .ok (.iload_n 3, 1) := by decide +kernel
theorem dZ_law_1438 : decode mZ_law.2.1 1438 = .ok (.iconst 3, 1) := by decide +kernel
theorem dZ_law_1439 : decode mZ_law.2.1 1439 = .ok (.iadd, 1) := by decide +kernel
theorem dZ_law_1440 : decode mZ_law.2.1 1440 = .ok (.iaload, 1) := by decide +kernel
theorem dZ_law_1441 : decode mZ_law.2.1 1441 = .ok (.aload_n 0, 1) := by decide +kernel
theorem dZ_law_1442 : decode mZ_law.2.1 1442 = .ok (.iload_n 3, 1) := by decide +kernel
theorem dZ_law_1443 : decode mZ_law.2.1 1443 = .ok (.iconst 4, 1) := by decide +kernel
theorem dZ_law_1444 : decode mZ_law.2.1 1444 = .ok (.iadd, 1) := by decide +kernel
theorem dZ_law_1445 : decode mZ_law.2.1 1445 = .ok (.iaload, 1) := by decide +kernel
theorem dZ_law_1446 : decode mZ_law.2.1 1446 = .ok (.aload_n 0, 1) := by decide +kernel
theorem dZ_law_1447 : decode mZ_law.2.1 1447 = .ok (.iload_n 3, 1) := by decide +kernel
theorem dZ_law_1448 : decode mZ_law.2.1 1448 = .ok (.iconst 5, 1) := by decide +kernel
theorem dZ_law_1449 : decode mZ_law.2.1 1449 = .ok (.iadd, 1) := by decide +kernel
theorem dZ_law_1450 : decode mZ_law.2.1 1450 = .ok (.iaload, 1) := by decide +kernel
theorem dZ_law_1451 : decode mZ_law.2.1 1451 = .ok (.invokevirtual 191, 3) := by decide +kernel
theorem dZ_law_1454 : decode mZ_law.2.1 1454 = .ok (.aload_n 2, 1) := by decide +kernel
theorem dZ_law_1455 : decode mZ_law.2.1 1455 = .ok (.aload_n 0, 1) := by decide +kernel
theorem dZ_law_1456 : decode mZ_law.2.1 1456 = .ok (.iload_n 3, 1) := by decide +kernel
theorem dZ_law_1457 : decode mZ_law.2.1 1457 = .ok (.iconst 1, 1) := by decide +kernel
theorem dZ_law_1458 : decode mZ_law.2.1 1458 = .ok (.iadd, 1) := by decide +kernel
theorem dZ_law_1459 : decode mZ_law.2.1 1459 = .ok (.iaload, 1) := by decide +kernel
theorem dZ_law_1460 : decode mZ_law.2.1 1460 = .ok (.aload_n 0, 1) := by decide +kernel
theorem dZ_law_1461 : decode mZ_law.2.1 1461 = .ok (.iload_n 3, 1) := by decide +kernel
theorem dZ_law_1462 : decode mZ_law.2.1 1462 = .ok (.iconst 2, 1) := by decide +kernel
theorem dZ_law_1463 : decode mZ_law.2.1 1463 = .ok (.iadd, 1) := by decide +kernel
theorem dZ_law_1464 : decode mZ_law.2.1 1464 = .ok (.iaload, 1) := by decide +kernel
theorem dZ_law_1465 : decode mZ_law.2.1 1465 = .ok (.aload_n 0, 1) := by decide +kernel
theorem dZ_law_1466 : decode mZ_law.2.1 1466 = .ok (.iload_n 3, 1) := by decide +kernel
theorem dZ_law_1467 : decode mZ_law.2.1 1467 = .ok (.iconst 3, 1) := by decide +kernel
theorem dZ_law_1468 : decode mZ_law.2.1 1468 = .ok (.iadd, 1) := by decide +kernel
theorem dZ_law_1469 : decode mZ_law.2.1 1469 = .ok (.iaload, 1) := by decide +kernel
theorem dZ_law_1470 : decode mZ_law.2.1 1470 = .ok (.aload_n 0, 1) := by decide +kernel
theorem dZ_law_1471 : decode mZ_law.2.1 1471 = .ok (.iload_n 3, 1) := by decide +kernel
theorem dZ_law_1472 : decode mZ_law.2.1 1472 = .ok (.iconst 4, 1) := by decide +kernel
theorem dZ_law_1473 : decode mZ_law.2.1 1473 = .ok (.iadd, 1) := by decide +kernel
theorem dZ_law_1474 : decode mZ_law.2.1 1474 = .ok (.iaload, 1) := by decide +kernel
theorem dZ_law_1475 : decode mZ_law.2.1 1475 = .ok (.aload_n 0, 1) := by decide +kernel
theorem dZ_law_1476 : decode mZ_law.2.1 1476 = .ok (.iload_n 3, 1) := by decide +kernel
theorem dZ_law_1477 : decode mZ_law.2.1 1477 = .ok (.iconst 5, 1) := by decide +kernel
theorem dZ_law_1478 : decode mZ_law.2.1 1478 = .ok (.iadd, 1) := by decide +kernel
theorem dZ_law_1479 : decode mZ_law.2.1 1479 = .ok (.iaload, 1) := by decide +kernel
theorem dZ_law_1480 : decode mZ_law.2.1 1480 = .ok (.invokevirtual 195, 3) := by decide +kernel
theorem dZ_law_1483 : decode mZ_law.2.1 1483 = .ok (.if_icmp .eq 5, 3) := by decide +kernel
theorem dZ_law_1486 : decode mZ_law.2.1 1486 = .ok (.iconst 0, 1) := by decide +kernel
theorem dZ_law_1487 : decode mZ_law.2.1 1487 = .ok (.ireturn, 1) := by decide +kernel
theorem dZ_law_1488 : decode mZ_law.2.1 1488 = .ok (.iinc 3 6, 3) := by decide +kernel
theorem dZ_law_1491 : decode mZ_law.2.1 1491 = .ok (.goto (-1473), 3) := by decide +kernel
theorem dZ_law_1494 : decode mZ_law.2.1 1494 = .ok (.iconst 1, 1) := by decide +kernel
theorem dZ_law_1495 : decode mZ_law.2.1 1495 = .ok (.ireturn, 1) := by decide +kernel
