theorem dl_376 : decode code 376 = .ok (.iload_n 3, 1) := by decide +kernel
theorem dl_377 : decode code 377 = .ok (.iconst 1, 1) := by decide +kernel
theorem dl_378 : decode code 378 = .ok (.iadd, 1) := by decide +kernel
theorem dl_379 : decode code 379 = .ok (.iaload, 1) := by decide +kernel
theorem dl_380 : decode code 380 = .ok (.aload_n 0, 1) := by decide +kernel
theorem dl_381 : decode code 381 = .ok (.iload_n 3, 1) := by decide +kernel
theorem dl_382 : decode code 382 = .ok (.iconst 2, 1) := by decide +kernel
theorem dl_383 : decode code 383 = .ok (.iadd, 1) := by decide +kernel
theorem dl_384 : decode code 384 = .ok (.iaload, 1) := by decide +kernel
theorem dl_385 : decode code 385 = .ok (.invokevirtual 51, 3) := by decide +kernel
theorem dl_388 : decode code 388 = .ok (.if_icmp .eq 656, 3) := by decide +kernel
theorem dl_391 : decode code 391 = .ok (.iconst 0, 1) := by decide +kernel
theorem dl_392 : decode code 392 = .ok (.ireturn, 1) := by decide +kernel
theorem dl_393 : decode code 393 = .ok (.aload_n 1, 1) := by decide +kernel
theorem dl_394 : decode code 394 = .ok (.aload_n 0, 1) := by decide +kernel
theorem dl_395 : decode code 395 = .ok (.iload_n 3, 1) := by decide +kernel
theorem dl_396 : decode code 396 = .ok (.iconst 1, 1) := by decide +kernel
theorem dl_397 : decode code 397 = .ok (.iadd, 1) := by decide +kernel
theorem dl_398 : decode code 398 = .ok (.iaload, 1) := by decide +kernel
theorem dl_399 : decode code 399 = .ok (.invokevirtual 52, 3) := by decide +kernel
theorem dl_402 : decode code 402 = .ok (.aload_n 2, 1) := by decide +kernel
theorem dl_403 : decode code 403 = .ok (.aload_n 0, 1) := by decide +kernel
theorem dl_404 : decode code 404 = .ok (.iload_n 3, 1) := by decide +kernel
theorem dl_405 : decode code 405 = .ok (.iconst 1, 1) := by decide +kernel
theorem dl_406 : decode code 406 = .ok (.iadd, 1) := by decide +kernel
theorem dl_407 : decode code 407 = .ok (.iaload, 1) := by decide +kernel
theorem dl_408 : decode code 408 = .ok (.invokevirtual 55, 3) := by decide +kernel
theorem dl_411 : decode code 411 = .ok (.if_icmp .eq 633, 3) := by decide +kernel
theorem dl_414 : decode code 414 = .ok (.iconst 0, 1) := by decide +kernel
theorem dl_415 : decode code 415 = .ok (.ireturn, 1) := by decide +kernel
theorem dl_416 : decode code 416 = .ok (.aload_n 1, 1) := by decide +kernel
theorem dl_417 : decode code 417 = .ok (.aload_n 0, 1) := by decide +kernel
theorem dl_418 : decode code 418 = .ok (.iload_n 3, 1) := by decide +kernel
theorem dl_419 : decode code 419 = .ok (.iconst 1, 1) := by decide +kernel
theorem dl_420 : decode code 420 = .ok (.iadd, 1) := by decide +kernel
theorem dl_421 : decode code 421 = .ok (.iaload, 1) := by decide +kernel
theorem dl_422 : decode code 422 = .ok (.invokevirtual 56, 3) := by decide +kernel
theorem dl_425 : decode code 425 = .ok (.aload_n 2, 1) := by decide +kernel
theorem dl_426 : decode code 426 = .ok (.aload_n 0, 1) := by decide +kernel
theorem dl_427 : decode code 427 = .ok (.iload_n 3, 1) := by decide +kernel
theorem dl_428 : decode code 428 = .ok (.iconst 1, 1) := by decide +kernel
theorem dl_429 : decode code 429 = .ok (.iadd, 1) := by decide +kernel
theorem dl_430 : decode code 430 = .ok (.iaload, 1) := by decide +kernel
theorem dl_431 : decode code 431 = .ok (.invokevirtual 59, 3) := by decide +kernel
theorem dl_434 : decode code 434 = .ok (.if_icmp .eq 610, 3) := by decide +kernel
theorem dl_437 : decode code 437 = .ok (.iconst 0, 1) := by decide +kernel
theorem dl_438 : decode code 438 = .ok (.ireturn, 1) := by decide +kernel
theorem dl_439 : decode code 439 = .ok (.aload_n 1, 1) := by decide +kernel
theorem dl_440 : decode code 440 = .ok (.aload_n 0, 1) := by decide +kernel
theorem dl_441 : decode code 441 = .ok (.iload_n 3, 1) := by decide +kernel
theorem dl_442 : decode code 442 = .ok (.iconst 1, 1) := by decide +kernel
theorem dl_443 : decode code 443 = .ok (.iadd, 1) := by decide +kernel
theorem dl_444 : decode code 444 = .ok (.iaload, 1) := by decide +kernel
theorem dl_445 : decode code 445 = .ok (.invokevirtual 60, 3) := by decide +kernel
theorem dl_448 : decode code 448 = .ok (.aload_n 2, 1) := by decide +kernel
theorem dl_449 : decode code 449 = .ok (.aload_n 0, 1) := by decide +kernel
theorem dl_450 : decode code 450 = .ok (.iload_n 3, 1) := by decide +kernel
theorem dl_451 : decode code 451 = .ok (.iconst 1, 1) := by decide +kernel
theorem dl_452 : decode code 452 = .ok (.iadd, 1) := by decide +kernel
theorem dl_453 : decode code 453 = .ok (.iaload, 1) := by decide +kernel
theorem dl_454 : decode code 454 = .ok (.invokevirtual 63, 3) := by decide +kernel
theorem dl_457 : decode code 457 = .ok (.if_icmp .eq 587, 3) := by decide +kernel
theorem dl_460 : decode code 460 = .ok (.iconst 0, 1) := by decide +kernel
theorem dl_461 : decode code 461 = .ok (.ireturn, 1) := by decide +kernel
theorem dl_462 : decode code 462 = .ok (.aload_n 1, 1) := by decide +kernel
theorem dl_463 : decode code 463 = .ok (.aload_n 0, 1) := by decide +kernel
theorem dl_464 : decode code 464 = .ok (.iload_n 3, 1) := by decide +kernel
theorem dl_465 : decode code 465 = .ok (.iconst 1, 1) := by decide +kernel
theorem dl_466 : decode code 466 = .ok (.iadd, 1) := by decide +kernel
theorem dl_467 : decode code 467 = .ok (.iaload, 1) := by decide +kernel
theorem dl_468 : decode code 468 = .ok (.invokevirtual 64, 3) := by decide +kernel
theorem dl_471 : decode code 471 = .ok (.aload_n 2, 1) := by decide +kernel
theorem dl_472 : decode code 472 = .ok (.aload_n 0, 1) := by decide +kernel
theorem dl_473 : decode code 473 = .ok (.iload_n 3, 1) := by decide +kernel
theorem dl_474 : decode code 474 = .ok (.iconst 1, 1) := by decide +kernel
theorem dl_475 : decode code 475 = .ok (.iadd, 1) := by decide +kernel
theorem dl_476 : decode code 476 = .ok (.iaload, 1) := by decide +kernel
theorem dl_477 : decode code 477 = .ok (.invokevirtual 67, 3) := by decide +kernel
theorem dl_480 : decode code 480 = .ok (.if_icmp .eq 564, 3) := by decide +kernel
theorem dl_483 : decode code 483 = .ok (.iconst 0, 1) := by decide +kernel
theorem dl_484 : decode code 484 = .ok (.ireturn, 1) := by decide +kernel
theorem dl_485 : decode code 485 = .ok (.aload_n 1, 1) := by decide +kernel
theorem dl_486 : decode code 486 = .ok (.aload_n 0, 1) := by decide +kernel
theorem dl_487 : decode code 487 = .ok (.iload_n 3, 1) := by decide +kernel
theorem dl_488 : decode code 488 = .ok (.iconst 1, 1) := by decide +kernel
theorem dl_489 : decode code 489 = .ok (.iadd, 1) := by decide +kernel
theorem dl_490 : decode code 490 = .ok (.iaload, 1) := by decide +kernel
theorem dl_491 : decode code 491 = .ok (.invokevirtual 68, 3) := by decide +kernel
theorem dl_494 : decode code 494 = .ok (.aload_n 2, 1) := by decide +kernel
theorem dl_495 : decode code 495 = .ok (.aload_n 0, 1) := by decide +kernel
theorem dl_496 : decode code 496 = .ok (.iload_n 3, 1) := by decide +kernel
theorem dl_497 : decode code 497 = .ok (.iconst 1, 1) := by decide +kernel
theorem dl_498 : decode code 498 = .ok (.iadd, 1) := by decide +kernel
theorem dl_499 : decode code 499 = .ok (.iaload, 1) := by decide +kernel
theorem dl_500 : decode code 500 = .ok (.invokevirtual 71, 3) := by decide +kernel
theorem dl_503 : decode code 503 = .ok (.if_icmp .eq 541, 3) := by decide +kernel
theorem dl_506 : decode code 506 = .ok (.iconst 0, 1) := by decide +kernel
theorem dl_507 : decode code 507 = .ok (.ireturn, 1) := by decide +kernel
theorem dl_508 : decode code 508 = .ok (.aload_n 1, 1) := by decide +kernel
theorem dl_509 : decode code 509 = .ok (.aload_n 0, 1) := by decide +kernel
theorem dl_510 : decode code 510 = .ok (.iload_n 3, 1) := by decide +kernel
theorem dl_511 : decode code 511 = .ok (.iconst 1, 1) := by decide +kernel
theorem dl_512 : decode code 512 = .ok (.iadd, 1) := by decide +kernel
theorem dl_513 : decode code 513 = .ok (.iaload, 1) := by decide +kernel
theorem dl_514 : decode code 514 = .ok (.invokevirtual 72, 3) := by decide +kernel
theorem dl_517 : decode code 517 = .ok (.aload_n 2, 1) := by decide +kernel
theorem dl_518 : decode code 518 = .ok (.aload_n 0, 1) := by decide +kernel
theorem dl_519 : decode code 519 = .ok (.iload_n 3, 1) := by decide +kernel
theorem dl_520 : decode code 520 = .ok (.iconst 1, 1) := by decide +kernel
theorem dl_521 : decode code 521 = .ok (.iadd, 1) := by decide +kernel
theorem dl_522 : decode code 522 = .ok (.iaload, 1) := by decide +kernel
theorem dl_523 : decode code 523 = .ok (.invokevirtual 75, 3) := by decide +kernel
theorem dl_526 : decode code 526 = .ok (.if_icmp .eq 518, 3) := by decide +kernel
theorem dl_529 : decode code 529 = .ok (.iconst 0, 1) := by decide +kernel
theorem dl_530 : decode code 530 = .ok (.ireturn, 1) := by decide +kernel
theorem dl_531 : decode code 531 = .ok (.aload_n 1, 1) := by decide +kernel
theorem dl_532 : decode code 532 = .ok (.aload_n 0, 1) := by decide +kernel
theorem dl_533 : decode code 533 = .ok (.iload_n 3, 1) := by decide +kernel
theorem dl_534 : decode code 534 = .ok (.iconst 1, 1) := by decide +kernel
theorem dl_535 : decode code 535 = .ok (.iadd, 1) := by decide +kernel
theorem dl_536 : decode code 536 = .ok (.iaload, 1) := by decide +kernel
theorem dl_537 : decode code 537 = .ok (.aload_n 0, 1) := by decide +kernel
theorem dl_538 : decode code 538 = .ok (.iload_n 3, 1) := by decide +kernel
theorem dl_539 : decode code 539 = .ok (.iconst 2, 1) := by decide +kernel
theorem dl_540 : decode code 540 = .ok (.iadd, 1) := by decide +kernel
theorem dl_541 : decode code 541 = .ok (.iaload, 1) := by decide +kernel
theorem dl_542 : decode code 542 = .ok (.ifCond .eq 7, 3) := by decide +kernel
theorem dl_545 : decode code 545 = .ok (.iconst 1, 1) := by decide +kernel
theorem dl_546 : decode code 546 = .ok (.goto 4, 3) := by decide +kernel
theorem dl_549 : decode code 549 = .ok (.iconst 0, 1) := by decide +kernel
theorem dl_550 : decode code 550 = .ok (.invokevirtual 76, 3) := by decide +kernel
theorem dl_553 : decode code 553 = .ok (.aload_n 2, 1) := by decide +kernel
theorem dl_554 : decode code 554 = .ok (.aload_n 0, 1) := by decide +kernel
theorem dl_555 : decode code 555 = .ok (.iload_n 3, 1) := by decide +kernel
theorem dl_556 : decode code 556 = .ok (.iconst 1, 1) := by decide +kernel
theorem dl_557 : decode code 557 = .ok (.iadd, 1) := by decide +kernel
theorem dl_558 : decode code 558 = .ok (.iaload, 1) := by decide +kernel
theorem dl_559 : decode code 559 = .ok (.aload_n 0, 1) := by decide +kernel
theorem dl_560 : decode code 560 = .ok (.iload_n 3, 1) := by decide +kernel
theorem dl_561 : decode code 561 = .ok (.iconst 2, 1) := by decide +kernel
theorem dl_562 : decode code 562 = .ok (.iadd, 1) := by decide +kernel
theorem dl_563 : decode code 563 = .ok (.iaload, 1) := by decide +kernel
theorem dl_564 : decode code 564 = .ok (.ifCond .eq 7, 3) := by decide +kernel
theorem dl_567 : decode code 567 = .ok (.iconst 1, 1) := by decide +kernel
theorem dl_568 : decode code 568 = .ok (.goto 4, 3) := by decide +kernel
theorem dl_571 : decode code 571 = .ok (.iconst 0, 1) := by decide +kernel
theorem dl_572 : decode code 572 = .ok (.invokevirtual 80, 3) := by decide +kernel
theorem dl_575 : decode code 575 = .ok (.if_icmp .eq 469, 3) := by decide +kernel
theorem dl_578 : decode code 578 = .ok (.iconst 0, 1) := by decide +kernel
theorem dl_579 : decode code 579 = .ok (.ireturn, 1) := by decide +kernel
theorem dl_580 : decode code 580 = .ok (.aload_n 1, 1) := by decide +kernel
theorem dl_581 : decode code 581 = .ok (.aload_n 0, 1) := by decide +kernel
theorem dl_582 : decode code 582 = .ok (.iload_n 3, 1) := by decide +kernel
theorem dl_583 : decode code 583 = .ok (.iconst 1, 1) := by decide +kernel
theorem dl_584 : decode code 584 = .ok (.iadd, 1) := by decide +kernel
theorem dl_585 : decode code 585 = .ok (.iaload, 1) := by decide +kernel
theorem dl_586 : decode code 586 = .ok (.invokevirtual 81, 3) := by decide +kernel
theorem dl_589 : decode code 589 = .ok (.aload_n 2, 1) := by decide +kernel
theorem dl_590 : decode code 590 = .ok (.aload_n 0, 1) := by decide +kernel
theorem dl_591 : decode code 591 = .ok (.iload_n 3, 1) := by decide +kernel
theorem dl_592 : decode code 592 = .ok (.iconst 1, 1) := by decide +kernel
theorem dl_593 : decode code 593 = .ok (.iadd, 1) := by decide +kernel
theorem dl_594 : decode code 594 = .ok (.iaload, 1) := by decide +kernel
theorem dl_595 : decode code 595 = .ok (.invokevirtual 84, 3) := by decide +kernel
theorem dl_598 : decode code 598 = .ok (.if_icmp .eq 446, 3) := by decide +kernel
theorem dl_601 : decode code 601 = .ok (.iconst 0, 1) := by decide +kernel
theorem dl_602 : decode code 602 = .ok (.ireturn, 1) := by decide +kernel
theorem dl_603 : decode code 603 = .ok (.aload_n 1, 1) := by decide +kernel
theorem dl_604 : decode code 604 = .ok (.aload_n 0, 1) := by decide +kernel
theorem dl_605 : decode code 605 = .ok (.iload_n 3, 1) := by decide +kernel
theorem dl_606 : decode code 606 = .ok (.iconst 1, 1) := by decide +kernel
theorem dl_607 : decode code 607 = .ok (.iadd, 1) := by decide +kernel
