/-! The law's instructions, 1. -/
theorem dl_284 : decode code 284 = .ok (.if_icmp .eq 5, 3) := by decide +kernel
theorem dl_287 : decode code 287 = .ok (.iconst 0, 1) := by decide +kernel
theorem dl_288 : decode code 288 = .ok (.ireturn, 1) := by decide +kernel
theorem dl_289 : decode code 289 = .ok (.iload 5, 2) := by decide +kernel
theorem dl_291 : decode code 291 = .ok (.ifCond .ne 15, 3) := by decide +kernel
theorem dl_294 : decode code 294 = .ok (.aload_n 3, 1) := by decide +kernel
theorem dl_295 : decode code 295 = .ok (.iconst 0, 1) := by decide +kernel
theorem dl_296 : decode code 296 = .ok (.laload, 1) := by decide +kernel
theorem dl_297 : decode code 297 = .ok (.iload 6, 2) := by decide +kernel
theorem dl_299 : decode code 299 = .ok (.i2l, 1) := by decide +kernel
theorem dl_300 : decode code 300 = .ok (.lcmp, 1) := by decide +kernel
theorem dl_301 : decode code 301 = .ok (.ifCond .eq 5, 3) := by decide +kernel
theorem dl_304 : decode code 304 = .ok (.iconst 0, 1) := by decide +kernel
theorem dl_305 : decode code 305 = .ok (.ireturn, 1) := by decide +kernel
theorem dl_306 : decode code 306 = .ok (.goto 400, 3) := by decide +kernel
theorem dl_309 : decode code 309 = .ok (.aload_n 1, 1) := by decide +kernel
theorem dl_310 : decode code 310 = .ok (.aload_n 0, 1) := by decide +kernel
theorem dl_311 : decode code 311 = .ok (.iload 4, 2) := by decide +kernel
theorem dl_313 : decode code 313 = .ok (.iconst 1, 1) := by decide +kernel
theorem dl_314 : decode code 314 = .ok (.iadd, 1) := by decide +kernel
theorem dl_315 : decode code 315 = .ok (.iaload, 1) := by decide +kernel
theorem dl_316 : decode code 316 = .ok (.aload_n 3, 1) := by decide +kernel
theorem dl_317 : decode code 317 = .ok (.invokestatic 66, 3) := by decide +kernel
theorem dl_320 : decode code 320 = .ok (.istore 5, 2) := by decide +kernel
theorem dl_322 : decode code 322 = .ok (.aload_n 2, 1) := by decide +kernel
theorem dl_323 : decode code 323 = .ok (.aload_n 0, 1) := by decide +kernel
theorem dl_324 : decode code 324 = .ok (.iload 4, 2) := by decide +kernel
theorem dl_326 : decode code 326 = .ok (.iconst 1, 1) := by decide +kernel
theorem dl_327 : decode code 327 = .ok (.iadd, 1) := by decide +kernel
theorem dl_328 : decode code 328 = .ok (.iaload, 1) := by decide +kernel
theorem dl_329 : decode code 329 = .ok (.invokevirtual 68, 3) := by decide +kernel
theorem dl_332 : decode code 332 = .ok (.istore 6, 2) := by decide +kernel
theorem dl_334 : decode code 334 = .ok (.aload_n 2, 1) := by decide +kernel
theorem dl_335 : decode code 335 = .ok (.invokevirtual 51, 3) := by decide +kernel
theorem dl_338 : decode code 338 = .ok (.iload 5, 2) := by decide +kernel
theorem dl_340 : decode code 340 = .ok (.if_icmp .eq 5, 3) := by decide +kernel
theorem dl_343 : decode code 343 = .ok (.iconst 0, 1) := by decide +kernel
theorem dl_344 : decode code 344 = .ok (.ireturn, 1) := by decide +kernel
theorem dl_345 : decode code 345 = .ok (.iload 5, 2) := by decide +kernel
theorem dl_347 : decode code 347 = .ok (.ifCond .ne 15, 3) := by decide +kernel
theorem dl_350 : decode code 350 = .ok (.aload_n 3, 1) := by decide +kernel
theorem dl_351 : decode code 351 = .ok (.iconst 0, 1) := by decide +kernel
theorem dl_352 : decode code 352 = .ok (.laload, 1) := by decide +kernel
theorem dl_353 : decode code 353 = .ok (.iload 6, 2) := by decide +kernel
theorem dl_355 : decode code 355 = .ok (.i2l, 1) := by decide +kernel
theorem dl_356 : decode code 356 = .ok (.lcmp, 1) := by decide +kernel
theorem dl_357 : decode code 357 = .ok (.ifCond .eq 5, 3) := by decide +kernel
theorem dl_360 : decode code 360 = .ok (.iconst 0, 1) := by decide +kernel
theorem dl_361 : decode code 361 = .ok (.ireturn, 1) := by decide +kernel
theorem dl_362 : decode code 362 = .ok (.goto 344, 3) := by decide +kernel
theorem dl_365 : decode code 365 = .ok (.aload_n 1, 1) := by decide +kernel
theorem dl_366 : decode code 366 = .ok (.aload_n 0, 1) := by decide +kernel
theorem dl_367 : decode code 367 = .ok (.iload 4, 2) := by decide +kernel
theorem dl_369 : decode code 369 = .ok (.iconst 1, 1) := by decide +kernel
theorem dl_370 : decode code 370 = .ok (.iadd, 1) := by decide +kernel
theorem dl_371 : decode code 371 = .ok (.iaload, 1) := by decide +kernel
theorem dl_372 : decode code 372 = .ok (.aload_n 0, 1) := by decide +kernel
theorem dl_373 : decode code 373 = .ok (.iload 4, 2) := by decide +kernel
theorem dl_375 : decode code 375 = .ok (.iconst 2, 1) := by decide +kernel
theorem dl_376 : decode code 376 = .ok (.iadd, 1) := by decide +kernel
theorem dl_377 : decode code 377 = .ok (.iaload, 1) := by decide +kernel
theorem dl_378 : decode code 378 = .ok (.aload_n 3, 1) := by decide +kernel
theorem dl_379 : decode code 379 = .ok (.invokestatic 69, 3) := by decide +kernel
theorem dl_382 : decode code 382 = .ok (.istore 5, 2) := by decide +kernel
theorem dl_384 : decode code 384 = .ok (.aload_n 2, 1) := by decide +kernel
theorem dl_385 : decode code 385 = .ok (.aload_n 0, 1) := by decide +kernel
theorem dl_386 : decode code 386 = .ok (.iload 4, 2) := by decide +kernel
theorem dl_388 : decode code 388 = .ok (.iconst 1, 1) := by decide +kernel
theorem dl_389 : decode code 389 = .ok (.iadd, 1) := by decide +kernel
theorem dl_390 : decode code 390 = .ok (.iaload, 1) := by decide +kernel
theorem dl_391 : decode code 391 = .ok (.aload_n 0, 1) := by decide +kernel
theorem dl_392 : decode code 392 = .ok (.iload 4, 2) := by decide +kernel
theorem dl_394 : decode code 394 = .ok (.iconst 2, 1) := by decide +kernel
theorem dl_395 : decode code 395 = .ok (.iadd, 1) := by decide +kernel
theorem dl_396 : decode code 396 = .ok (.iaload, 1) := by decide +kernel
theorem dl_397 : decode code 397 = .ok (.invokevirtual 72, 3) := by decide +kernel
theorem dl_400 : decode code 400 = .ok (.istore 6, 2) := by decide +kernel
theorem dl_402 : decode code 402 = .ok (.aload_n 2, 1) := by decide +kernel
theorem dl_403 : decode code 403 = .ok (.invokevirtual 51, 3) := by decide +kernel
theorem dl_406 : decode code 406 = .ok (.iload 5, 2) := by decide +kernel
theorem dl_408 : decode code 408 = .ok (.if_icmp .eq 5, 3) := by decide +kernel
theorem dl_411 : decode code 411 = .ok (.iconst 0, 1) := by decide +kernel
theorem dl_412 : decode code 412 = .ok (.ireturn, 1) := by decide +kernel
theorem dl_413 : decode code 413 = .ok (.iload 5, 2) := by decide +kernel
theorem dl_415 : decode code 415 = .ok (.ifCond .ne 15, 3) := by decide +kernel
theorem dl_418 : decode code 418 = .ok (.aload_n 3, 1) := by decide +kernel
theorem dl_419 : decode code 419 = .ok (.iconst 0, 1) := by decide +kernel
theorem dl_420 : decode code 420 = .ok (.laload, 1) := by decide +kernel
theorem dl_421 : decode code 421 = .ok (.iload 6, 2) := by decide +kernel
theorem dl_423 : decode code 423 = .ok (.i2l, 1) := by decide +kernel
theorem dl_424 : decode code 424 = .ok (.lcmp, 1) := by decide +kernel
theorem dl_425 : decode code 425 = .ok (.ifCond .eq 5, 3) := by decide +kernel
theorem dl_428 : decode code 428 = .ok (.iconst 0, 1) := by decide +kernel
theorem dl_429 : decode code 429 = .ok (.ireturn, 1) := by decide +kernel
theorem dl_430 : decode code 430 = .ok (.goto 276, 3) := by decide +kernel
theorem dl_433 : decode code 433 = .ok (.aload_n 1, 1) := by decide +kernel
theorem dl_434 : decode code 434 = .ok (.aload_n 0, 1) := by decide +kernel
theorem dl_435 : decode code 435 = .ok (.iload 4, 2) := by decide +kernel
theorem dl_437 : decode code 437 = .ok (.iconst 1, 1) := by decide +kernel
theorem dl_438 : decode code 438 = .ok (.iadd, 1) := by decide +kernel
theorem dl_439 : decode code 439 = .ok (.iaload, 1) := by decide +kernel
theorem dl_440 : decode code 440 = .ok (.aload_n 0, 1) := by decide +kernel
theorem dl_441 : decode code 441 = .ok (.iload 4, 2) := by decide +kernel
theorem dl_443 : decode code 443 = .ok (.iconst 2, 1) := by decide +kernel
theorem dl_444 : decode code 444 = .ok (.iadd, 1) := by decide +kernel
theorem dl_445 : decode code 445 = .ok (.iaload, 1) := by decide +kernel
theorem dl_446 : decode code 446 = .ok (.aload_n 0, 1) := by decide +kernel
theorem dl_447 : decode code 447 = .ok (.iload 4, 2) := by decide +kernel
theorem dl_449 : decode code 449 = .ok (.iconst 3, 1) := by decide +kernel
theorem dl_450 : decode code 450 = .ok (.iadd, 1) := by decide +kernel
theorem dl_451 : decode code 451 = .ok (.iaload, 1) := by decide +kernel
theorem dl_452 : decode code 452 = .ok (.aload_n 3, 1) := by decide +kernel
theorem dl_453 : decode code 453 = .ok (.invokestatic 73, 3) := by decide +kernel
theorem dl_456 : decode code 456 = .ok (.istore 5, 2) := by decide +kernel
theorem dl_458 : decode code 458 = .ok (.aload_n 2, 1) := by decide +kernel
theorem dl_459 : decode code 459 = .ok (.aload_n 0, 1) := by decide +kernel
theorem dl_460 : decode code 460 = .ok (.iload 4, 2) := by decide +kernel
theorem dl_462 : decode code 462 = .ok (.iconst 1, 1) := by decide +kernel
theorem dl_463 : decode code 463 = .ok (.iadd, 1) := by decide +kernel
theorem dl_464 : decode code 464 = .ok (.iaload, 1) := by decide +kernel
theorem dl_465 : decode code 465 = .ok (.aload_n 0, 1) := by decide +kernel
theorem dl_466 : decode code 466 = .ok (.iload 4, 2) := by decide +kernel
theorem dl_468 : decode code 468 = .ok (.iconst 2, 1) := by decide +kernel
theorem dl_469 : decode code 469 = .ok (.iadd, 1) := by decide +kernel
theorem dl_470 : decode code 470 = .ok (.iaload, 1) := by decide +kernel
theorem dl_471 : decode code 471 = .ok (.aload_n 0, 1) := by decide +kernel
theorem dl_472 : decode code 472 = .ok (.iload 4, 2) := by decide +kernel
theorem dl_474 : decode code 474 = .ok (.iconst 3, 1) := by decide +kernel
theorem dl_475 : decode code 475 = .ok (.iadd, 1) := by decide +kernel
theorem dl_476 : decode code 476 = .ok (.iaload, 1) := by decide +kernel
theorem dl_477 : decode code 477 = .ok (.invokevirtual 76, 3) := by decide +kernel
theorem dl_480 : decode code 480 = .ok (.istore 6, 2) := by decide +kernel
theorem dl_482 : decode code 482 = .ok (.aload_n 2, 1) := by decide +kernel
theorem dl_483 : decode code 483 = .ok (.invokevirtual 51, 3) := by decide +kernel
theorem dl_486 : decode code 486 = .ok (.iload 5, 2) := by decide +kernel
theorem dl_488 : decode code 488 = .ok (.if_icmp .eq 5, 3) := by decide +kernel
theorem dl_491 : decode code 491 = .ok (.iconst 0, 1) := by decide +kernel
theorem dl_492 : decode code 492 = .ok (.ireturn, 1) := by decide +kernel
theorem dl_493 : decode code 493 = .ok (.iload 5, 2) := by decide +kernel
theorem dl_495 : decode code 495 = .ok (.ifCond .ne 15, 3) := by decide +kernel
theorem dl_498 : decode code 498 = .ok (.aload_n 3, 1) := by decide +kernel
theorem dl_499 : decode code 499 = .ok (.iconst 0, 1) := by decide +kernel
