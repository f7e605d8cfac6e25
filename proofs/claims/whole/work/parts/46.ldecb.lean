theorem d_w_law_266 : decode code 266 = .ok (.iaload, 1) := by decide +kernel
theorem d_w_law_267 : decode code 267 = .ok (.invokestatic 94, 3) := by decide +kernel
theorem d_w_law_270 : decode code 270 = .ok (.istore 5, 2) := by decide +kernel
theorem d_w_law_272 : decode code 272 = .ok (.aload_n 2, 1) := by decide +kernel
theorem d_w_law_273 : decode code 273 = .ok (.aload_n 0, 1) := by decide +kernel
theorem d_w_law_274 : decode code 274 = .ok (.iload 4, 2) := by decide +kernel
theorem d_w_law_276 : decode code 276 = .ok (.iconst 1, 1) := by decide +kernel
theorem d_w_law_277 : decode code 277 = .ok (.iadd, 1) := by decide +kernel
theorem d_w_law_278 : decode code 278 = .ok (.iaload, 1) := by decide +kernel
theorem d_w_law_279 : decode code 279 = .ok (.invokevirtual 97, 3) := by decide +kernel
theorem d_w_law_282 : decode code 282 = .ok (.aload_n 2, 1) := by decide +kernel
theorem d_w_law_283 : decode code 283 = .ok (.invokevirtual 87, 3) := by decide +kernel
theorem d_w_law_286 : decode code 286 = .ok (.iload 5, 2) := by decide +kernel
theorem d_w_law_288 : decode code 288 = .ok (.if_icmp .eq 5, 3) := by decide +kernel
theorem d_w_law_291 : decode code 291 = .ok (.iconst 0, 1) := by decide +kernel
theorem d_w_law_292 : decode code 292 = .ok (.ireturn, 1) := by decide +kernel
theorem d_w_law_293 : decode code 293 = .ok (.goto 890, 3) := by decide +kernel
theorem d_w_law_296 : decode code 296 = .ok (.aload_n 1, 1) := by decide +kernel
theorem d_w_law_297 : decode code 297 = .ok (.aload_n 0, 1) := by decide +kernel
theorem d_w_law_298 : decode code 298 = .ok (.iload 4, 2) := by decide +kernel
theorem d_w_law_300 : decode code 300 = .ok (.iconst 1, 1) := by decide +kernel
theorem d_w_law_301 : decode code 301 = .ok (.iadd, 1) := by decide +kernel
theorem d_w_law_302 : decode code 302 = .ok (.iaload, 1) := by decide +kernel
theorem d_w_law_303 : decode code 303 = .ok (.invokestatic 98, 3) := by decide +kernel
theorem d_w_law_306 : decode code 306 = .ok (.istore 5, 2) := by decide +kernel
theorem d_w_law_308 : decode code 308 = .ok (.aload_n 2, 1) := by decide +kernel
theorem d_w_law_309 : decode code 309 = .ok (.aload_n 0, 1) := by decide +kernel
theorem d_w_law_310 : decode code 310 = .ok (.iload 4, 2) := by decide +kernel
theorem d_w_law_312 : decode code 312 = .ok (.iconst 1, 1) := by decide +kernel
theorem d_w_law_313 : decode code 313 = .ok (.iadd, 1) := by decide +kernel
theorem d_w_law_314 : decode code 314 = .ok (.iaload, 1) := by decide +kernel
theorem d_w_law_315 : decode code 315 = .ok (.invokevirtual 100, 3) := by decide +kernel
theorem d_w_law_318 : decode code 318 = .ok (.aload_n 2, 1) := by decide +kernel
theorem d_w_law_319 : decode code 319 = .ok (.invokevirtual 87, 3) := by decide +kernel
theorem d_w_law_322 : decode code 322 = .ok (.iload 5, 2) := by decide +kernel
theorem d_w_law_324 : decode code 324 = .ok (.if_icmp .eq 5, 3) := by decide +kernel
theorem d_w_law_327 : decode code 327 = .ok (.iconst 0, 1) := by decide +kernel
theorem d_w_law_328 : decode code 328 = .ok (.ireturn, 1) := by decide +kernel
theorem d_w_law_329 : decode code 329 = .ok (.goto 854, 3) := by decide +kernel
theorem d_w_law_332 : decode code 332 = .ok (.aload_n 1, 1) := by decide +kernel
theorem d_w_law_333 : decode code 333 = .ok (.aload_n 0, 1) := by decide +kernel
theorem d_w_law_334 : decode code 334 = .ok (.iload 4, 2) := by decide +kernel
theorem d_w_law_336 : decode code 336 = .ok (.iconst 1, 1) := by decide +kernel
theorem d_w_law_337 : decode code 337 = .ok (.iadd, 1) := by decide +kernel
theorem d_w_law_338 : decode code 338 = .ok (.iaload, 1) := by decide +kernel
theorem d_w_law_339 : decode code 339 = .ok (.invokestatic 101, 3) := by decide +kernel
theorem d_w_law_342 : decode code 342 = .ok (.istore 5, 2) := by decide +kernel
theorem d_w_law_344 : decode code 344 = .ok (.aload_n 2, 1) := by decide +kernel
theorem d_w_law_345 : decode code 345 = .ok (.aload_n 0, 1) := by decide +kernel
theorem d_w_law_346 : decode code 346 = .ok (.iload 4, 2) := by decide +kernel
theorem d_w_law_348 : decode code 348 = .ok (.iconst 1, 1) := by decide +kernel
theorem d_w_law_349 : decode code 349 = .ok (.iadd, 1) := by decide +kernel
theorem d_w_law_350 : decode code 350 = .ok (.iaload, 1) := by decide +kernel
theorem d_w_law_351 : decode code 351 = .ok (.invokevirtual 103, 3) := by decide +kernel
theorem d_w_law_354 : decode code 354 = .ok (.aload_n 2, 1) := by decide +kernel
theorem d_w_law_355 : decode code 355 = .ok (.invokevirtual 87, 3) := by decide +kernel
theorem d_w_law_358 : decode code 358 = .ok (.iload 5, 2) := by decide +kernel
theorem d_w_law_360 : decode code 360 = .ok (.if_icmp .eq 5, 3) := by decide +kernel
theorem d_w_law_363 : decode code 363 = .ok (.iconst 0, 1) := by decide +kernel
theorem d_w_law_364 : decode code 364 = .ok (.ireturn, 1) := by decide +kernel
theorem d_w_law_365 : decode code 365 = .ok (.goto 818, 3) := by decide +kernel
theorem d_w_law_368 : decode code 368 = .ok (.aload_n 1, 1) := by decide +kernel
theorem d_w_law_369 : decode code 369 = .ok (.aload_n 0, 1) := by decide +kernel
theorem d_w_law_370 : decode code 370 = .ok (.iload 4, 2) := by decide +kernel
theorem d_w_law_372 : decode code 372 = .ok (.iconst 1, 1) := by decide +kernel
theorem d_w_law_373 : decode code 373 = .ok (.iadd, 1) := by decide +kernel
theorem d_w_law_374 : decode code 374 = .ok (.iaload, 1) := by decide +kernel
theorem d_w_law_375 : decode code 375 = .ok (.aload_n 0, 1) := by decide +kernel
theorem d_w_law_376 : decode code 376 = .ok (.iload 4, 2) := by decide +kernel
theorem d_w_law_378 : decode code 378 = .ok (.iconst 2, 1) := by decide +kernel
theorem d_w_law_379 : decode code 379 = .ok (.iadd, 1) := by decide +kernel
theorem d_w_law_380 : decode code 380 = .ok (.iaload, 1) := by decide +kernel
theorem d_w_law_381 : decode code 381 = .ok (.invokestatic 104, 3) := by decide +kernel
theorem d_w_law_384 : decode code 384 = .ok (.istore 5, 2) := by decide +kernel
theorem d_w_law_386 : decode code 386 = .ok (.aload_n 2, 1) := by decide +kernel
theorem d_w_law_387 : decode code 387 = .ok (.aload_n 0, 1) := by decide +kernel
theorem d_w_law_388 : decode code 388 = .ok (.iload 4, 2) := by decide +kernel
theorem d_w_law_390 : decode code 390 = .ok (.iconst 1, 1) := by decide +kernel
theorem d_w_law_391 : decode code 391 = .ok (.iadd, 1) := by decide +kernel
theorem d_w_law_392 : decode code 392 = .ok (.iaload, 1) := by decide +kernel
theorem d_w_law_393 : decode code 393 = .ok (.aload_n 0, 1) := by decide +kernel
theorem d_w_law_394 : decode code 394 = .ok (.iload 4, 2) := by decide +kernel
theorem d_w_law_396 : decode code 396 = .ok (.iconst 2, 1) := by decide +kernel
theorem d_w_law_397 : decode code 397 = .ok (.iadd, 1) := by decide +kernel
theorem d_w_law_398 : decode code 398 = .ok (.iaload, 1) := by decide +kernel
theorem d_w_law_399 : decode code 399 = .ok (.invokevirtual 107, 3) := by decide +kernel
theorem d_w_law_402 : decode code 402 = .ok (.aload_n 2, 1) := by decide +kernel
theorem d_w_law_403 : decode code 403 = .ok (.invokevirtual 87, 3) := by decide +kernel
theorem d_w_law_406 : decode code 406 = .ok (.iload 5, 2) := by decide +kernel
theorem d_w_law_408 : decode code 408 = .ok (.if_icmp .eq 5, 3) := by decide +kernel
theorem d_w_law_411 : decode code 411 = .ok (.iconst 0, 1) := by decide +kernel
theorem d_w_law_412 : decode code 412 = .ok (.ireturn, 1) := by decide +kernel
theorem d_w_law_413 : decode code 413 = .ok (.goto 770, 3) := by decide +kernel
theorem d_w_law_416 : decode code 416 = .ok (.aload_n 1, 1) := by decide +kernel
theorem d_w_law_417 : decode code 417 = .ok (.aload_n 0, 1) := by decide +kernel
theorem d_w_law_418 : decode code 418 = .ok (.iload 4, 2) := by decide +kernel
theorem d_w_law_420 : decode code 420 = .ok (.iconst 1, 1) := by decide +kernel
theorem d_w_law_421 : decode code 421 = .ok (.iadd, 1) := by decide +kernel
theorem d_w_law_422 : decode code 422 = .ok (.iaload, 1) := by decide +kernel
theorem d_w_law_423 : decode code 423 = .ok (.aload_n 0, 1) := by decide +kernel
theorem d_w_law_424 : decode code 424 = .ok (.iload 4, 2) := by decide +kernel
theorem d_w_law_426 : decode code 426 = .ok (.iconst 2, 1) := by decide +kernel
theorem d_w_law_427 : decode code 427 = .ok (.iadd, 1) := by decide +kernel
theorem d_w_law_428 : decode code 428 = .ok (.iaload, 1) := by decide +kernel
theorem d_w_law_429 : decode code 429 = .ok (.aload_n 3, 1) := by decide +kernel
theorem d_w_law_430 : decode code 430 = .ok (.invokestatic 108, 3) := by decide +kernel
theorem d_w_law_433 : decode code 433 = .ok (.istore 5, 2) := by decide +kernel
theorem d_w_law_435 : decode code 435 = .ok (.aload_n 2, 1) := by decide +kernel
theorem d_w_law_436 : decode code 436 = .ok (.aload_n 0, 1) := by decide +kernel
theorem d_w_law_437 : decode code 437 = .ok (.iload 4, 2) := by decide +kernel
theorem d_w_law_439 : decode code 439 = .ok (.iconst 1, 1) := by decide +kernel
theorem d_w_law_440 : decode code 440 = .ok (.iadd, 1) := by decide +kernel
theorem d_w_law_441 : decode code 441 = .ok (.iaload, 1) := by decide +kernel
theorem d_w_law_442 : decode code 442 = .ok (.aload_n 0, 1) := by decide +kernel
theorem d_w_law_443 : decode code 443 = .ok (.iload 4, 2) := by decide +kernel
theorem d_w_law_445 : decode code 445 = .ok (.iconst 2, 1) := by decide +kernel
theorem d_w_law_446 : decode code 446 = .ok (.iadd, 1) := by decide +kernel
theorem d_w_law_447 : decode code 447 = .ok (.iaload, 1) := by decide +kernel
theorem d_w_law_448 : decode code 448 = .ok (.invokevirtual 111, 3) := by decide +kernel
theorem d_w_law_451 : decode code 451 = .ok (.istore 6, 2) := by decide +kernel
