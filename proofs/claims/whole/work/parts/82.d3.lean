/-! law: decode rows -/
theorem dLW_law_351 : decode cLW_law 351 = .ok (.iload 4, 2) := by decide +kernel
theorem dLW_law_353 : decode cLW_law 353 = .ok (.bipush 9, 2) := by decide +kernel
theorem dLW_law_355 : decode cLW_law 355 = .ok (.iadd, 1) := by decide +kernel
theorem dLW_law_356 : decode cLW_law 356 = .ok (.iaload, 1) := by decide +kernel
theorem dLW_law_357 : decode cLW_law 357 = .ok (.i2l, 1) := by decide +kernel
theorem dLW_law_358 : decode cLW_law 358 = .ok (.ldc2_w 68, 3) := by decide +kernel
theorem dLW_law_361 : decode cLW_law 361 = .ok (.land, 1) := by decide +kernel
theorem dLW_law_362 : decode cLW_law 362 = .ok (.lor, 1) := by decide +kernel
theorem dLW_law_363 : decode cLW_law 363 = .ok (.aload_n 0, 1) := by decide +kernel
theorem dLW_law_364 : decode cLW_law 364 = .ok (.iload 4, 2) := by decide +kernel
theorem dLW_law_366 : decode cLW_law 366 = .ok (.bipush 10, 2) := by decide +kernel
theorem dLW_law_368 : decode cLW_law 368 = .ok (.iadd, 1) := by decide +kernel
theorem dLW_law_369 : decode cLW_law 369 = .ok (.iaload, 1) := by decide +kernel
theorem dLW_law_370 : decode cLW_law 370 = .ok (.i2l, 1) := by decide +kernel
theorem dLW_law_371 : decode cLW_law 371 = .ok (.bipush 32, 2) := by decide +kernel
theorem dLW_law_373 : decode cLW_law 373 = .ok (.lshl, 1) := by decide +kernel
theorem dLW_law_374 : decode cLW_law 374 = .ok (.aload_n 0, 1) := by decide +kernel
theorem dLW_law_375 : decode cLW_law 375 = .ok (.iload 4, 2) := by decide +kernel
theorem dLW_law_377 : decode cLW_law 377 = .ok (.bipush 11, 2) := by decide +kernel
theorem dLW_law_379 : decode cLW_law 379 = .ok (.iadd, 1) := by decide +kernel
theorem dLW_law_380 : decode cLW_law 380 = .ok (.iaload, 1) := by decide +kernel
theorem dLW_law_381 : decode cLW_law 381 = .ok (.i2l, 1) := by decide +kernel
theorem dLW_law_382 : decode cLW_law 382 = .ok (.ldc2_w 68, 3) := by decide +kernel
theorem dLW_law_385 : decode cLW_law 385 = .ok (.land, 1) := by decide +kernel
theorem dLW_law_386 : decode cLW_law 386 = .ok (.lor, 1) := by decide +kernel
theorem dLW_law_387 : decode cLW_law 387 = .ok (.invokestatic 84, 3) := by decide +kernel
theorem dLW_law_390 : decode cLW_law 390 = .ok (.istore 5, 2) := by decide +kernel
theorem dLW_law_392 : decode cLW_law 392 = .ok (.aload_n 2, 1) := by decide +kernel
theorem dLW_law_393 : decode cLW_law 393 = .ok (.aload_n 0, 1) := by decide +kernel
theorem dLW_law_394 : decode cLW_law 394 = .ok (.iload 4, 2) := by decide +kernel
theorem dLW_law_396 : decode cLW_law 396 = .ok (.iconst 1, 1) := by decide +kernel
theorem dLW_law_397 : decode cLW_law 397 = .ok (.iadd, 1) := by decide +kernel
theorem dLW_law_398 : decode cLW_law 398 = .ok (.iaload, 1) := by decide +kernel
theorem dLW_law_399 : decode cLW_law 399 = .ok (.aload_n 0, 1) := by decide +kernel
theorem dLW_law_400 : decode cLW_law 400 = .ok (.iload 4, 2) := by decide +kernel
theorem dLW_law_402 : decode cLW_law 402 = .ok (.iconst 2, 1) := by decide +kernel
theorem dLW_law_403 : decode cLW_law 403 = .ok (.iadd, 1) := by decide +kernel
theorem dLW_law_404 : decode cLW_law 404 = .ok (.iaload, 1) := by decide +kernel
theorem dLW_law_405 : decode cLW_law 405 = .ok (.i2l, 1) := by decide +kernel
theorem dLW_law_406 : decode cLW_law 406 = .ok (.bipush 32, 2) := by decide +kernel
theorem dLW_law_408 : decode cLW_law 408 = .ok (.lshl, 1) := by decide +kernel
theorem dLW_law_409 : decode cLW_law 409 = .ok (.aload_n 0, 1) := by decide +kernel
theorem dLW_law_410 : decode cLW_law 410 = .ok (.iload 4, 2) := by decide +kernel
theorem dLW_law_412 : decode cLW_law 412 = .ok (.iconst 3, 1) := by decide +kernel
theorem dLW_law_413 : decode cLW_law 413 = .ok (.iadd, 1) := by decide +kernel
theorem dLW_law_414 : decode cLW_law 414 = .ok (.iaload, 1) := by decide +kernel
theorem dLW_law_415 : decode cLW_law 415 = .ok (.i2l, 1) := by decide +kernel
theorem dLW_law_416 : decode cLW_law 416 = .ok (.ldc2_w 68, 3) := by decide +kernel
theorem dLW_law_419 : decode cLW_law 419 = .ok (.land, 1) := by decide +kernel
theorem dLW_law_420 : decode cLW_law 420 = .ok (.lor, 1) := by decide +kernel
theorem dLW_law_421 : decode cLW_law 421 = .ok (.aload_n 0, 1) := by decide +kernel
theorem dLW_law_422 : decode cLW_law 422 = .ok (.iload 4, 2) := by decide +kernel
theorem dLW_law_424 : decode cLW_law 424 = .ok (.iconst 4, 1) := by decide +kernel
theorem dLW_law_425 : decode cLW_law 425 = .ok (.iadd, 1) := by decide +kernel
theorem dLW_law_426 : decode cLW_law 426 = .ok (.iaload, 1) := by decide +kernel
theorem dLW_law_427 : decode cLW_law 427 = .ok (.i2l, 1) := by decide +kernel
theorem dLW_law_428 : decode cLW_law 428 = .ok (.bipush 32, 2) := by decide +kernel
theorem dLW_law_430 : decode cLW_law 430 = .ok (.lshl, 1) := by decide +kernel
theorem dLW_law_431 : decode cLW_law 431 = .ok (.aload_n 0, 1) := by decide +kernel
theorem dLW_law_432 : decode cLW_law 432 = .ok (.iload 4, 2) := by decide +kernel
theorem dLW_law_434 : decode cLW_law 434 = .ok (.iconst 5, 1) := by decide +kernel
theorem dLW_law_435 : decode cLW_law 435 = .ok (.iadd, 1) := by decide +kernel
theorem dLW_law_436 : decode cLW_law 436 = .ok (.iaload, 1) := by decide +kernel
theorem dLW_law_437 : decode cLW_law 437 = .ok (.i2l, 1) := by decide +kernel
theorem dLW_law_438 : decode cLW_law 438 = .ok (.ldc2_w 68, 3) := by decide +kernel
theorem dLW_law_441 : decode cLW_law 441 = .ok (.land, 1) := by decide +kernel
theorem dLW_law_442 : decode cLW_law 442 = .ok (.lor, 1) := by decide +kernel
theorem dLW_law_443 : decode cLW_law 443 = .ok (.aload_n 0, 1) := by decide +kernel
theorem dLW_law_444 : decode cLW_law 444 = .ok (.iload 4, 2) := by decide +kernel
theorem dLW_law_446 : decode cLW_law 446 = .ok (.bipush 6, 2) := by decide +kernel
theorem dLW_law_448 : decode cLW_law 448 = .ok (.iadd, 1) := by decide +kernel
theorem dLW_law_449 : decode cLW_law 449 = .ok (.iaload, 1) := by decide +kernel
theorem dLW_law_450 : decode cLW_law 450 = .ok (.i2l, 1) := by decide +kernel
theorem dLW_law_451 : decode cLW_law 451 = .ok (.bipush 32, 2) := by decide +kernel
theorem dLW_law_453 : decode cLW_law 453 = .ok (.lshl, 1) := by decide +kernel
theorem dLW_law_454 : decode cLW_law 454 = .ok (.aload_n 0, 1) := by decide +kernel
theorem dLW_law_455 : decode cLW_law 455 = .ok (.iload 4, 2) := by decide +kernel
theorem dLW_law_457 : decode cLW_law 457 = .ok (.bipush 7, 2) := by decide +kernel
theorem dLW_law_459 : decode cLW_law 459 = .ok (.iadd, 1) := by decide +kernel
theorem dLW_law_460 : decode cLW_law 460 = .ok (.iaload, 1) := by decide +kernel
theorem dLW_law_461 : decode cLW_law 461 = .ok (.i2l, 1) := by decide +kernel
theorem dLW_law_462 : decode cLW_law 462 = .ok (.ldc2_w 68, 3) := by decide +kernel
theorem dLW_law_465 : decode cLW_law 465 = .ok (.land, 1) := by decide +kernel
theorem dLW_law_466 : decode cLW_law 466 = .ok (.lor, 1) := by decide +kernel
theorem dLW_law_467 : decode cLW_law 467 = .ok (.aload_n 0, 1) := by decide +kernel
theorem dLW_law_468 : decode cLW_law 468 = .ok (.iload 4, 2) := by decide +kernel
theorem dLW_law_470 : decode cLW_law 470 = .ok (.bipush 8, 2) := by decide +kernel
theorem dLW_law_472 : decode cLW_law 472 = .ok (.iadd, 1) := by decide +kernel
theorem dLW_law_473 : decode cLW_law 473 = .ok (.iaload, 1) := by decide +kernel
theorem dLW_law_474 : decode cLW_law 474 = .ok (.i2l, 1) := by decide +kernel
theorem dLW_law_475 : decode cLW_law 475 = .ok (.bipush 32, 2) := by decide +kernel
theorem dLW_law_477 : decode cLW_law 477 = .ok (.lshl, 1) := by decide +kernel
theorem dLW_law_478 : decode cLW_law 478 = .ok (.aload_n 0, 1) := by decide +kernel
theorem dLW_law_479 : decode cLW_law 479 = .ok (.iload 4, 2) := by decide +kernel
theorem dLW_law_481 : decode cLW_law 481 = .ok (.bipush 9, 2) := by decide +kernel
theorem dLW_law_483 : decode cLW_law 483 = .ok (.iadd, 1) := by decide +kernel
