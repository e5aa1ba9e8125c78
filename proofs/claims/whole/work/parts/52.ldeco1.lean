theorem d_W_law_321 : decode b_W_law 321 = .ok (.aload_n 2, 1) := by decide +kernel
theorem d_W_law_322 : decode b_W_law 322 = .ok (.aload_n 0, 1) := by decide +kernel
theorem d_W_law_323 : decode b_W_law 323 = .ok (.iload 4, 2) := by decide +kernel
theorem d_W_law_325 : decode b_W_law 325 = .ok (.iconst 1, 1) := by decide +kernel
theorem d_W_law_326 : decode b_W_law 326 = .ok (.iadd, 1) := by decide +kernel
theorem d_W_law_327 : decode b_W_law 327 = .ok (.iaload, 1) := by decide +kernel
theorem d_W_law_328 : decode b_W_law 328 = .ok (.aload_n 0, 1) := by decide +kernel
theorem d_W_law_329 : decode b_W_law 329 = .ok (.iload 4, 2) := by decide +kernel
theorem d_W_law_331 : decode b_W_law 331 = .ok (.iconst 2, 1) := by decide +kernel
theorem d_W_law_332 : decode b_W_law 332 = .ok (.iadd, 1) := by decide +kernel
theorem d_W_law_333 : decode b_W_law 333 = .ok (.iaload, 1) := by decide +kernel
theorem d_W_law_334 : decode b_W_law 334 = .ok (.aload_n 0, 1) := by decide +kernel
theorem d_W_law_335 : decode b_W_law 335 = .ok (.iload 4, 2) := by decide +kernel
theorem d_W_law_337 : decode b_W_law 337 = .ok (.iconst 3, 1) := by decide +kernel
theorem d_W_law_338 : decode b_W_law 338 = .ok (.iadd, 1) := by decide +kernel
theorem d_W_law_339 : decode b_W_law 339 = .ok (.iaload, 1) := by decide +kernel
theorem d_W_law_340 : decode b_W_law 340 = .ok (.invokevirtual 105, 3) := by decide +kernel
theorem d_W_law_343 : decode b_W_law 343 = .ok (.aload_n 2, 1) := by decide +kernel
theorem d_W_law_344 : decode b_W_law 344 = .ok (.invokevirtual 90, 3) := by decide +kernel
theorem d_W_law_347 : decode b_W_law 347 = .ok (.iload 5, 2) := by decide +kernel
theorem d_W_law_349 : decode b_W_law 349 = .ok (.if_icmp .eq 5, 3) := by decide +kernel
theorem d_W_law_352 : decode b_W_law 352 = .ok (.iconst 0, 1) := by decide +kernel
theorem d_W_law_353 : decode b_W_law 353 = .ok (.ireturn, 1) := by decide +kernel
theorem d_W_law_354 : decode b_W_law 354 = .ok (.goto 1131, 3) := by decide +kernel
theorem d_W_law_357 : decode b_W_law 357 = .ok (.aload_n 1, 1) := by decide +kernel
theorem d_W_law_358 : decode b_W_law 358 = .ok (.aload_n 0, 1) := by decide +kernel
theorem d_W_law_359 : decode b_W_law 359 = .ok (.iload 4, 2) := by decide +kernel
theorem d_W_law_361 : decode b_W_law 361 = .ok (.iconst 1, 1) := by decide +kernel
theorem d_W_law_362 : decode b_W_law 362 = .ok (.iadd, 1) := by decide +kernel
theorem d_W_law_363 : decode b_W_law 363 = .ok (.iaload, 1) := by decide +kernel
theorem d_W_law_364 : decode b_W_law 364 = .ok (.aload_n 0, 1) := by decide +kernel
theorem d_W_law_365 : decode b_W_law 365 = .ok (.iload 4, 2) := by decide +kernel
theorem d_W_law_367 : decode b_W_law 367 = .ok (.iconst 2, 1) := by decide +kernel
theorem d_W_law_368 : decode b_W_law 368 = .ok (.iadd, 1) := by decide +kernel
theorem d_W_law_369 : decode b_W_law 369 = .ok (.iaload, 1) := by decide +kernel
theorem d_W_law_370 : decode b_W_law 370 = .ok (.aload_n 0, 1) := by decide +kernel
theorem d_W_law_371 : decode b_W_law 371 = .ok (.iload 4, 2) := by decide +kernel
theorem d_W_law_373 : decode b_W_law 373 = .ok (.iconst 3, 1) := by decide +kernel
theorem d_W_law_374 : decode b_W_law 374 = .ok (.iadd, 1) := by decide +kernel
theorem d_W_law_375 : decode b_W_law 375 = .ok (.iaload, 1) := by decide +kernel
theorem d_W_law_376 : decode b_W_law 376 = .ok (.aload_n 3, 1) := by decide +kernel
theorem d_W_law_377 : decode b_W_law 377 = .ok (.invokestatic 106, 3) := by decide +kernel
theorem d_W_law_380 : decode b_W_law 380 = .ok (.istore 5, 2) := by decide +kernel
theorem d_W_law_382 : decode b_W_law 382 = .ok (.aload_n 2, 1) := by decide +kernel
theorem d_W_law_383 : decode b_W_law 383 = .ok (.aload_n 0, 1) := by decide +kernel
theorem d_W_law_384 : decode b_W_law 384 = .ok (.iload 4, 2) := by decide +kernel
theorem d_W_law_386 : decode b_W_law 386 = .ok (.iconst 1, 1) := by decide +kernel
theorem d_W_law_387 : decode b_W_law 387 = .ok (.iadd, 1) := by decide +kernel
theorem d_W_law_388 : decode b_W_law 388 = .ok (.iaload, 1) := by decide +kernel
theorem d_W_law_389 : decode b_W_law 389 = .ok (.aload_n 0, 1) := by decide +kernel
theorem d_W_law_390 : decode b_W_law 390 = .ok (.iload 4, 2) := by decide +kernel
theorem d_W_law_392 : decode b_W_law 392 = .ok (.iconst 2, 1) := by decide +kernel
theorem d_W_law_393 : decode b_W_law 393 = .ok (.iadd, 1) := by decide +kernel
theorem d_W_law_394 : decode b_W_law 394 = .ok (.iaload, 1) := by decide +kernel
theorem d_W_law_395 : decode b_W_law 395 = .ok (.aload_n 0, 1) := by decide +kernel
theorem d_W_law_396 : decode b_W_law 396 = .ok (.iload 4, 2) := by decide +kernel
theorem d_W_law_398 : decode b_W_law 398 = .ok (.iconst 3, 1) := by decide +kernel
theorem d_W_law_399 : decode b_W_law 399 = .ok (.iadd, 1) := by decide +kernel
theorem d_W_law_400 : decode b_W_law 400 = .ok (.iaload, 1) := by decide +kernel
theorem d_W_law_401 : decode b_W_law 401 = .ok (.invokevirtual 108, 3) := by decide +kernel
theorem d_W_law_404 : decode b_W_law 404 = .ok (.istore 6, 2) := by decide +kernel
theorem d_W_law_406 : decode b_W_law 406 = .ok (.aload_n 2, 1) := by decide +kernel
theorem d_W_law_407 : decode b_W_law 407 = .ok (.invokevirtual 90, 3) := by decide +kernel
theorem d_W_law_410 : decode b_W_law 410 = .ok (.iload 5, 2) := by decide +kernel
theorem d_W_law_412 : decode b_W_law 412 = .ok (.if_icmp .eq 5, 3) := by decide +kernel
theorem d_W_law_415 : decode b_W_law 415 = .ok (.iconst 0, 1) := by decide +kernel
theorem d_W_law_416 : decode b_W_law 416 = .ok (.ireturn, 1) := by decide +kernel
theorem d_W_law_417 : decode b_W_law 417 = .ok (.iload 5, 2) := by decide +kernel
theorem d_W_law_419 : decode b_W_law 419 = .ok (.ifCond .ne 22, 3) := by decide +kernel
theorem d_W_law_422 : decode b_W_law 422 = .ok (.aload_n 3, 1) := by decide +kernel
theorem d_W_law_423 : decode b_W_law 423 = .ok (.iconst 0, 1) := by decide +kernel
theorem d_W_law_424 : decode b_W_law 424 = .ok (.laload, 1) := by decide +kernel
theorem d_W_law_425 : decode b_W_law 425 = .ok (.iload 6, 2) := by decide +kernel
theorem d_W_law_427 : decode b_W_law 427 = .ok (.ifCond .eq 7, 3) := by decide +kernel
theorem d_W_law_430 : decode b_W_law 430 = .ok (.lconst 1, 1) := by decide +kernel
theorem d_W_law_431 : decode b_W_law 431 = .ok (.goto 4, 3) := by decide +kernel
theorem d_W_law_434 : decode b_W_law 434 = .ok (.lconst 0, 1) := by decide +kernel
theorem d_W_law_435 : decode b_W_law 435 = .ok (.lcmp, 1) := by decide +kernel
theorem d_W_law_436 : decode b_W_law 436 = .ok (.ifCond .eq 5, 3) := by decide +kernel
theorem d_W_law_439 : decode b_W_law 439 = .ok (.iconst 0, 1) := by decide +kernel
theorem d_W_law_440 : decode b_W_law 440 = .ok (.ireturn, 1) := by decide +kernel
theorem d_W_law_441 : decode b_W_law 441 = .ok (.goto 1044, 3) := by decide +kernel
theorem d_W_law_444 : decode b_W_law 444 = .ok (.aload_n 1, 1) := by decide +kernel
theorem d_W_law_445 : decode b_W_law 445 = .ok (.aload_n 0, 1) := by decide +kernel
theorem d_W_law_446 : decode b_W_law 446 = .ok (.iload 4, 2) := by decide +kernel
theorem d_W_law_448 : decode b_W_law 448 = .ok (.iconst 1, 1) := by decide +kernel
theorem d_W_law_449 : decode b_W_law 449 = .ok (.iadd, 1) := by decide +kernel
theorem d_W_law_450 : decode b_W_law 450 = .ok (.iaload, 1) := by decide +kernel
theorem d_W_law_451 : decode b_W_law 451 = .ok (.invokevirtual 109, 3) := by decide +kernel
theorem d_W_law_454 : decode b_W_law 454 = .ok (.aload_n 2, 1) := by decide +kernel
theorem d_W_law_455 : decode b_W_law 455 = .ok (.aload_n 0, 1) := by decide +kernel
theorem d_W_law_456 : decode b_W_law 456 = .ok (.iload 4, 2) := by decide +kernel
theorem d_W_law_458 : decode b_W_law 458 = .ok (.iconst 1, 1) := by decide +kernel
theorem d_W_law_459 : decode b_W_law 459 = .ok (.iadd, 1) := by decide +kernel
theorem d_W_law_460 : decode b_W_law 460 = .ok (.iaload, 1) := by decide +kernel
theorem d_W_law_461 : decode b_W_law 461 = .ok (.invokevirtual 113, 3) := by decide +kernel
theorem d_W_law_464 : decode b_W_law 464 = .ok (.if_icmp .eq 1021, 3) := by decide +kernel
theorem d_W_law_467 : decode b_W_law 467 = .ok (.iconst 0, 1) := by decide +kernel
theorem d_W_law_468 : decode b_W_law 468 = .ok (.ireturn, 1) := by decide +kernel
theorem d_W_law_469 : decode b_W_law 469 = .ok (.aload_n 1, 1) := by decide +kernel
theorem d_W_law_470 : decode b_W_law 470 = .ok (.aload_n 0, 1) := by decide +kernel
theorem d_W_law_471 : decode b_W_law 471 = .ok (.iload 4, 2) := by decide +kernel
theorem d_W_law_473 : decode b_W_law 473 = .ok (.iconst 1, 1) := by decide +kernel
theorem d_W_law_474 : decode b_W_law 474 = .ok (.iadd, 1) := by decide +kernel
theorem d_W_law_475 : decode b_W_law 475 = .ok (.iaload, 1) := by decide +kernel
theorem d_W_law_476 : decode b_W_law 476 = .ok (.aload_n 0, 1) := by decide +kernel
theorem d_W_law_477 : decode b_W_law 477 = .ok (.iload 4, 2) := by decide +kernel
theorem d_W_law_479 : decode b_W_law 479 = .ok (.iconst 2, 1) := by decide +kernel
theorem d_W_law_480 : decode b_W_law 480 = .ok (.iadd, 1) := by decide +kernel
theorem d_W_law_481 : decode b_W_law 481 = .ok (.iaload, 1) := by decide +kernel
theorem d_W_law_482 : decode b_W_law 482 = .ok (.aload_n 0, 1) := by decide +kernel
theorem d_W_law_483 : decode b_W_law 483 = .ok (.iload 4, 2) := by decide +kernel
theorem d_W_law_485 : decode b_W_law 485 = .ok (.iconst 3, 1) := by decide +kernel
theorem d_W_law_486 : decode b_W_law 486 = .ok (.iadd, 1) := by decide +kernel
theorem d_W_law_487 : decode b_W_law 487 = .ok (.iaload, 1) := by decide +kernel
theorem d_W_law_488 : decode b_W_law 488 = .ok (.aload_n 0, 1) := by decide +kernel
theorem d_W_law_489 : decode b_W_law 489 = .ok (.iload 4, 2) := by decide +kernel
theorem d_W_law_491 : decode b_W_law 491 = .ok (.iconst 4, 1) := by decide +kernel
theorem d_W_law_492 : decode b_W_law 492 = .ok (.iadd, 1) := by decide +kernel
theorem d_W_law_493 : decode b_W_law 493 = .ok (.iaload, 1) := by decide +kernel
theorem d_W_law_494 : decode b_W_law 494 = .ok (.aload_n 3, 1) := by decide +kernel
theorem d_W_law_495 : decode b_W_law 495 = .ok (.invokestatic 114, 3) := by decide +kernel
theorem d_W_law_498 : decode b_W_law 498 = .ok (.istore 5, 2) := by decide +kernel
theorem d_W_law_500 : decode b_W_law 500 = .ok (.aload_n 2, 1) := by decide +kernel
theorem d_W_law_501 : decode b_W_law 501 = .ok (.aload_n 0, 1) := by decide +kernel
theorem d_W_law_502 : decode b_W_law 502 = .ok (.iload 4, 2) := by decide +kernel
theorem d_W_law_504 : decode b_W_law 504 = .ok (.iconst 1, 1) := by decide +kernel
theorem d_W_law_505 : decode b_W_law 505 = .ok (.iadd, 1) := by decide +kernel
theorem d_W_law_506 : decode b_W_law 506 = .ok (.iaload, 1) := by decide +kernel
theorem d_W_law_507 : decode b_W_law 507 = .ok (.aload_n 0, 1) := by decide +kernel
theorem d_W_law_508 : decode b_W_law 508 = .ok (.iload 4, 2) := by decide +kernel
theorem d_W_law_510 : decode b_W_law 510 = .ok (.iconst 2, 1) := by decide +kernel
theorem d_W_law_511 : decode b_W_law 511 = .ok (.iadd, 1) := by decide +kernel
theorem d_W_law_512 : decode b_W_law 512 = .ok (.iaload, 1) := by decide +kernel
theorem d_W_law_513 : decode b_W_law 513 = .ok (.aload_n 0, 1) := by decide +kernel
theorem d_W_law_514 : decode b_W_law 514 = .ok (.iload 4, 2) := by decide +kernel
theorem d_W_law_516 : decode b_W_law 516 = .ok (.iconst 3, 1) := by decide +kernel
theorem d_W_law_517 : decode b_W_law 517 = .ok (.iadd, 1) := by decide +kernel
theorem d_W_law_518 : decode b_W_law 518 = .ok (.iaload, 1) := by decide +kernel
theorem d_W_law_519 : decode b_W_law 519 = .ok (.aload_n 0, 1) := by decide +kernel
theorem d_W_law_520 : decode b_W_law 520 = .ok (.iload 4, 2) := by decide +kernel
theorem d_W_law_522 : decode b_W_law 522 = .ok (.iconst 4, 1) := by decide +kernel
theorem d_W_law_523 : decode b_W_law 523 = .ok (.iadd, 1) := by decide +kernel
theorem d_W_law_524 : decode b_W_law 524 = .ok (.iaload, 1) := by decide +kernel
theorem d_W_law_525 : decode b_W_law 525 = .ok (.invokevirtual 117, 3) := by decide +kernel
theorem d_W_law_528 : decode b_W_law 528 = .ok (.istore 6, 2) := by decide +kernel
theorem d_W_law_530 : decode b_W_law 530 = .ok (.aload_n 2, 1) := by decide +kernel
theorem d_W_law_531 : decode b_W_law 531 = .ok (.invokevirtual 90, 3) := by decide +kernel
theorem d_W_law_534 : decode b_W_law 534 = .ok (.iload 5, 2) := by decide +kernel
theorem d_W_law_536 : decode b_W_law 536 = .ok (.if_icmp .eq 5, 3) := by decide +kernel
