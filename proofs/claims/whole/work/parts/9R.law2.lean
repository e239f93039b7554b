/-! the law: what its bytes are, 2 -/
theorem dL_law_322 : decode code 322 = .ok (.ireturn, 1) := by decide +kernel
theorem dL_law_323 : decode code 323 = .ok (.aload_n 1, 1) := by decide +kernel
theorem dL_law_324 : decode code 324 = .ok (.invokevirtual 43, 3) := by decide +kernel
theorem dL_law_327 : decode code 327 = .ok (.aload_n 2, 1) := by decide +kernel
theorem dL_law_328 : decode code 328 = .ok (.invokevirtual 46, 3) := by decide +kernel
theorem dL_law_331 : decode code 331 = .ok (.if_icmp .eq 827, 3) := by decide +kernel
theorem dL_law_334 : decode code 334 = .ok (.iconst 0, 1) := by decide +kernel
theorem dL_law_335 : decode code 335 = .ok (.ireturn, 1) := by decide +kernel
theorem dL_law_336 : decode code 336 = .ok (.aload_n 1, 1) := by decide +kernel
theorem dL_law_337 : decode code 337 = .ok (.invokevirtual 47, 3) := by decide +kernel
theorem dL_law_340 : decode code 340 = .ok (.aload_n 2, 1) := by decide +kernel
theorem dL_law_341 : decode code 341 = .ok (.invokevirtual 50, 3) := by decide +kernel
theorem dL_law_344 : decode code 344 = .ok (.if_icmp .eq 814, 3) := by decide +kernel
theorem dL_law_347 : decode code 347 = .ok (.iconst 0, 1) := by decide +kernel
theorem dL_law_348 : decode code 348 = .ok (.ireturn, 1) := by decide +kernel
theorem dL_law_349 : decode code 349 = .ok (.aload_n 1, 1) := by decide +kernel
theorem dL_law_350 : decode code 350 = .ok (.aload_n 0, 1) := by decide +kernel
theorem dL_law_351 : decode code 351 = .ok (.iload_n 3, 1) := by decide +kernel
theorem dL_law_352 : decode code 352 = .ok (.iconst 1, 1) := by decide +kernel
theorem dL_law_353 : decode code 353 = .ok (.iadd, 1) := by decide +kernel
theorem dL_law_354 : decode code 354 = .ok (.iaload, 1) := by decide +kernel
theorem dL_law_355 : decode code 355 = .ok (.invokevirtual 51, 3) := by decide +kernel
theorem dL_law_358 : decode code 358 = .ok (.aload_n 2, 1) := by decide +kernel
theorem dL_law_359 : decode code 359 = .ok (.aload_n 0, 1) := by decide +kernel
theorem dL_law_360 : decode code 360 = .ok (.iload_n 3, 1) := by decide +kernel
theorem dL_law_361 : decode code 361 = .ok (.iconst 1, 1) := by decide +kernel
theorem dL_law_362 : decode code 362 = .ok (.iadd, 1) := by decide +kernel
theorem dL_law_363 : decode code 363 = .ok (.iaload, 1) := by decide +kernel
theorem dL_law_364 : decode code 364 = .ok (.invokevirtual 54, 3) := by decide +kernel
theorem dL_law_367 : decode code 367 = .ok (.if_icmp .eq 791, 3) := by decide +kernel
theorem dL_law_370 : decode code 370 = .ok (.iconst 0, 1) := by decide +kernel
theorem dL_law_371 : decode code 371 = .ok (.ireturn, 1) := by decide +kernel
theorem dL_law_372 : decode code 372 = .ok (.aload_n 1, 1) := by decide +kernel
theorem dL_law_373 : decode code 373 = .ok (.aload_n 0, 1) := by decide +kernel
theorem dL_law_374 : decode code 374 = .ok (.iload_n 3, 1) := by decide +kernel
theorem dL_law_375 : decode code 375 = .ok (.iconst 1, 1) := by decide +kernel
theorem dL_law_376 : decode code 376 = .ok (.iadd, 1) := by decide +kernel
theorem dL_law_377 : decode code 377 = .ok (.iaload, 1) := by decide +kernel
theorem dL_law_378 : decode code 378 = .ok (.aload_n 0, 1) := by decide +kernel
theorem dL_law_379 : decode code 379 = .ok (.iload_n 3, 1) := by decide +kernel
theorem dL_law_380 : decode code 380 = .ok (.iconst 2, 1) := by decide +kernel
theorem dL_law_381 : decode code 381 = .ok (.iadd, 1) := by decide +kernel
theorem dL_law_382 : decode code 382 = .ok (.iaload, 1) := by decide +kernel
theorem dL_law_383 : decode code 383 = .ok (.aload_n 0, 1) := by decide +kernel
theorem dL_law_384 : decode code 384 = .ok (.iload_n 3, 1) := by decide +kernel
theorem dL_law_385 : decode code 385 = .ok (.iconst 3, 1) := by decide +kernel
theorem dL_law_386 : decode code 386 = .ok (.iadd, 1) := by decide +kernel
theorem dL_law_387 : decode code 387 = .ok (.iaload, 1) := by decide +kernel
theorem dL_law_388 : decode code 388 = .ok (.invokevirtual 55, 3) := by decide +kernel
theorem dL_law_391 : decode code 391 = .ok (.aload_n 2, 1) := by decide +kernel
theorem dL_law_392 : decode code 392 = .ok (.aload_n 0, 1) := by decide +kernel
theorem dL_law_393 : decode code 393 = .ok (.iload_n 3, 1) := by decide +kernel
theorem dL_law_394 : decode code 394 = .ok (.iconst 1, 1) := by decide +kernel
theorem dL_law_395 : decode code 395 = .ok (.iadd, 1) := by decide +kernel
theorem dL_law_396 : decode code 396 = .ok (.iaload, 1) := by decide +kernel
