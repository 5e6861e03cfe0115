theorem dL_act_307 : decode cL_act 307 = .ok (.bipush 80, 2) := by decide +kernel
theorem dL_act_309 : decode cL_act 309 = .ok (.isub, 1) := by decide +kernel
theorem dL_act_310 : decode cL_act 310 = .ok (.istore 10, 2) := by decide +kernel
theorem dL_act_312 : decode cL_act 312 = .ok (.iload_n 3, 1) := by decide +kernel
theorem dL_act_313 : decode cL_act 313 = .ok (.bipush 6, 2) := by decide +kernel
theorem dL_act_315 : decode cL_act 315 = .ok (.if_icmp .ge 91, 3) := by decide +kernel
theorem dL_act_318 : decode cL_act 318 = .ok (.iload 7, 2) := by decide +kernel
theorem dL_act_320 : decode cL_act 320 = .ok (.bipush 20, 2) := by decide +kernel
theorem dL_act_322 : decode cL_act 322 = .ok (.if_icmp .gt 84, 3) := by decide +kernel
theorem dL_act_325 : decode cL_act 325 = .ok (.iload 4, 2) := by decide +kernel
theorem dL_act_327 : decode cL_act 327 = .ok (.bipush 41, 2) := by decide +kernel
theorem dL_act_329 : decode cL_act 329 = .ok (.invokestatic 136, 3) := by decide +kernel
theorem dL_act_332 : decode cL_act 332 = .ok (.bipush 20, 2) := by decide +kernel
theorem dL_act_334 : decode cL_act 334 = .ok (.isub, 1) := by decide +kernel
theorem dL_act_335 : decode cL_act 335 = .ok (.istore 11, 2) := by decide +kernel
theorem dL_act_337 : decode cL_act 337 = .ok (.aload_n 0, 1) := by decide +kernel
theorem dL_act_338 : decode cL_act 338 = .ok (.iload 6, 2) := by decide +kernel
theorem dL_act_340 : decode cL_act 340 = .ok (.iload 11, 2) := by decide +kernel
theorem dL_act_342 : decode cL_act 342 = .ok (.iconst 0, 1) := by decide +kernel
theorem dL_act_343 : decode cL_act 343 = .ok (.invokevirtual 142, 3) := by decide +kernel
theorem dL_act_346 : decode cL_act 346 = .ok (.istore 12, 2) := by decide +kernel
theorem dL_act_348 : decode cL_act 348 = .ok (.aload_n 0, 1) := by decide +kernel
theorem dL_act_349 : decode cL_act 349 = .ok (.iload 6, 2) := by decide +kernel
theorem dL_act_351 : decode cL_act 351 = .ok (.iload 11, 2) := by decide +kernel
theorem dL_act_353 : decode cL_act 353 = .ok (.invokevirtual 139, 3) := by decide +kernel
theorem dL_act_356 : decode cL_act 356 = .ok (.ifCond .le 15, 3) := by decide +kernel
theorem dL_act_359 : decode cL_act 359 = .ok (.iload 12, 2) := by decide +kernel
theorem dL_act_361 : decode cL_act 361 = .ok (.iconst (-1), 1) := by decide +kernel
theorem dL_act_362 : decode cL_act 362 = .ok (.if_icmp .ne 7, 3) := by decide +kernel
theorem dL_act_365 : decode cL_act 365 = .ok (.iconst 1, 1) := by decide +kernel
theorem dL_act_366 : decode cL_act 366 = .ok (.goto 4, 3) := by decide +kernel
theorem dL_act_369 : decode cL_act 369 = .ok (.iconst 0, 1) := by decide +kernel
theorem dL_act_370 : decode cL_act 370 = .ok (.ireturn, 1) := by decide +kernel
theorem dL_act_371 : decode cL_act 371 = .ok (.aload_n 0, 1) := by decide +kernel
theorem dL_act_372 : decode cL_act 372 = .ok (.iload 6, 2) := by decide +kernel
theorem dL_act_374 : decode cL_act 374 = .ok (.iload 11, 2) := by decide +kernel
theorem dL_act_376 : decode cL_act 376 = .ok (.invokevirtual 149, 3) := by decide +kernel
theorem dL_act_379 : decode cL_act 379 = .ok (.aload_n 0, 1) := by decide +kernel
theorem dL_act_380 : decode cL_act 380 = .ok (.iload 6, 2) := by decide +kernel
theorem dL_act_382 : decode cL_act 382 = .ok (.invokevirtual 33, 3) := by decide +kernel
theorem dL_act_385 : decode cL_act 385 = .ok (.if_icmp .ne 19, 3) := by decide +kernel
theorem dL_act_388 : decode cL_act 388 = .ok (.aload_n 0, 1) := by decide +kernel
theorem dL_act_389 : decode cL_act 389 = .ok (.iload 6, 2) := by decide +kernel
theorem dL_act_391 : decode cL_act 391 = .ok (.iconst 0, 1) := by decide +kernel
theorem dL_act_392 : decode cL_act 392 = .ok (.invokevirtual 77, 3) := by decide +kernel
theorem dL_act_395 : decode cL_act 395 = .ok (.iload 12, 2) := by decide +kernel
theorem dL_act_397 : decode cL_act 397 = .ok (.if_icmp .ne 7, 3) := by decide +kernel
theorem dL_act_400 : decode cL_act 400 = .ok (.iconst 1, 1) := by decide +kernel
theorem dL_act_401 : decode cL_act 401 = .ok (.goto 4, 3) := by decide +kernel
theorem dL_act_404 : decode cL_act 404 = .ok (.iconst 0, 1) := by decide +kernel
theorem dL_act_405 : decode cL_act 405 = .ok (.ireturn, 1) := by decide +kernel
theorem dL_act_406 : decode cL_act 406 = .ok (.iload_n 3, 1) := by decide +kernel
theorem dL_act_407 : decode cL_act 407 = .ok (.bipush 8, 2) := by decide +kernel
theorem dL_act_409 : decode cL_act 409 = .ok (.if_icmp .ge 116, 3) := by decide +kernel
theorem dL_act_412 : decode cL_act 412 = .ok (.iload 7, 2) := by decide +kernel
theorem dL_act_414 : decode cL_act 414 = .ok (.iconst 1, 1) := by decide +kernel
theorem dL_act_415 : decode cL_act 415 = .ok (.iadd, 1) := by decide +kernel
theorem dL_act_416 : decode cL_act 416 = .ok (.iconst 2, 1) := by decide +kernel
theorem dL_act_417 : decode cL_act 417 = .ok (.idiv, 1) := by decide +kernel
theorem dL_act_418 : decode cL_act 418 = .ok (.istore 11, 2) := by decide +kernel
theorem dL_act_420 : decode cL_act 420 = .ok (.aload_n 0, 1) := by decide +kernel
theorem dL_act_421 : decode cL_act 421 = .ok (.iload 6, 2) := by decide +kernel
theorem dL_act_423 : decode cL_act 423 = .ok (.iconst 1, 1) := by decide +kernel
theorem dL_act_424 : decode cL_act 424 = .ok (.invokevirtual 77, 3) := by decide +kernel
theorem dL_act_427 : decode cL_act 427 = .ok (.istore 12, 2) := by decide +kernel
theorem dL_act_429 : decode cL_act 429 = .ok (.iload 11, 2) := by decide +kernel
theorem dL_act_431 : decode cL_act 431 = .ok (.aload_n 0, 1) := by decide +kernel
theorem dL_act_432 : decode cL_act 432 = .ok (.iload 6, 2) := by decide +kernel
theorem dL_act_434 : decode cL_act 434 = .ok (.invokevirtual 50, 3) := by decide +kernel
theorem dL_act_437 : decode cL_act 437 = .ok (.ifCond .eq 7, 3) := by decide +kernel
theorem dL_act_440 : decode cL_act 440 = .ok (.iconst 3, 1) := by decide +kernel
theorem dL_act_441 : decode cL_act 441 = .ok (.goto 4, 3) := by decide +kernel
theorem dL_act_444 : decode cL_act 444 = .ok (.iconst 2, 1) := by decide +kernel
theorem dL_act_445 : decode cL_act 445 = .ok (.if_icmp .ge 20, 3) := by decide +kernel
theorem dL_act_448 : decode cL_act 448 = .ok (.aload_n 0, 1) := by decide +kernel
theorem dL_act_449 : decode cL_act 449 = .ok (.iload 6, 2) := by decide +kernel
theorem dL_act_451 : decode cL_act 451 = .ok (.iconst 1, 1) := by decide +kernel
theorem dL_act_452 : decode cL_act 452 = .ok (.invokevirtual 61, 3) := by decide +kernel
theorem dL_act_455 : decode cL_act 455 = .ok (.iconst 3, 1) := by decide +kernel
theorem dL_act_456 : decode cL_act 456 = .ok (.if_icmp .gt 7, 3) := by decide +kernel
theorem dL_act_459 : decode cL_act 459 = .ok (.iconst 1, 1) := by decide +kernel
theorem dL_act_460 : decode cL_act 460 = .ok (.goto 4, 3) := by decide +kernel
theorem dL_act_463 : decode cL_act 463 = .ok (.iconst 0, 1) := by decide +kernel
theorem dL_act_464 : decode cL_act 464 = .ok (.ireturn, 1) := by decide +kernel
theorem dL_act_465 : decode cL_act 465 = .ok (.aload_n 0, 1) := by decide +kernel
theorem dL_act_466 : decode cL_act 466 = .ok (.iload 6, 2) := by decide +kernel
theorem dL_act_468 : decode cL_act 468 = .ok (.invokevirtual 152, 3) := by decide +kernel
theorem dL_act_471 : decode cL_act 471 = .ok (.iload 11, 2) := by decide +kernel
theorem dL_act_473 : decode cL_act 473 = .ok (.if_icmp .ne 50, 3) := by decide +kernel
theorem dL_act_476 : decode cL_act 476 = .ok (.iload 7, 2) := by decide +kernel
theorem dL_act_478 : decode cL_act 478 = .ok (.iconst 2, 1) := by decide +kernel
theorem dL_act_479 : decode cL_act 479 = .ok (.irem, 1) := by decide +kernel
theorem dL_act_480 : decode cL_act 480 = .ok (.ifCond .ne 27, 3) := by decide +kernel
theorem dL_act_483 : decode cL_act 483 = .ok (.aload_n 0, 1) := by decide +kernel
theorem dL_act_484 : decode cL_act 484 = .ok (.iload 6, 2) := by decide +kernel
theorem dL_act_486 : decode cL_act 486 = .ok (.invokevirtual 50, 3) := by decide +kernel
theorem dL_act_489 : decode cL_act 489 = .ok (.ifCond .ne 18, 3) := by decide +kernel
theorem dL_act_492 : decode cL_act 492 = .ok (.aload_n 0, 1) := by decide +kernel
theorem dL_act_493 : decode cL_act 493 = .ok (.iload 6, 2) := by decide +kernel
theorem dL_act_495 : decode cL_act 495 = .ok (.iconst 0, 1) := by decide +kernel
theorem dL_act_496 : decode cL_act 496 = .ok (.invokevirtual 77, 3) := by decide +kernel
theorem dL_act_499 : decode cL_act 499 = .ok (.iload 12, 2) := by decide +kernel
theorem dL_act_501 : decode cL_act 501 = .ok (.if_icmp .gt 22, 3) := by decide +kernel
theorem dL_act_504 : decode cL_act 504 = .ok (.goto 15, 3) := by decide +kernel
theorem dL_act_507 : decode cL_act 507 = .ok (.aload_n 0, 1) := by decide +kernel
theorem dL_act_508 : decode cL_act 508 = .ok (.iload 6, 2) := by decide +kernel
theorem dL_act_510 : decode cL_act 510 = .ok (.iconst 0, 1) := by decide +kernel
theorem dL_act_511 : decode cL_act 511 = .ok (.invokevirtual 77, 3) := by decide +kernel
theorem dL_act_514 : decode cL_act 514 = .ok (.iload 12, 2) := by decide +kernel
theorem dL_act_516 : decode cL_act 516 = .ok (.if_icmp .ne 7, 3) := by decide +kernel
theorem dL_act_519 : decode cL_act 519 = .ok (.iconst 1, 1) := by decide +kernel
theorem dL_act_520 : decode cL_act 520 = .ok (.goto 4, 3) := by decide +kernel
theorem dL_act_523 : decode cL_act 523 = .ok (.iconst 0, 1) := by decide +kernel
theorem dL_act_524 : decode cL_act 524 = .ok (.ireturn, 1) := by decide +kernel
theorem dL_act_525 : decode cL_act 525 = .ok (.iload_n 3, 1) := by decide +kernel
theorem dL_act_526 : decode cL_act 526 = .ok (.bipush 10, 2) := by decide +kernel
theorem dL_act_528 : decode cL_act 528 = .ok (.if_icmp .ge 104, 3) := by decide +kernel
theorem dL_act_531 : decode cL_act 531 = .ok (.aload_n 0, 1) := by decide +kernel
theorem dL_act_532 : decode cL_act 532 = .ok (.iload 6, 2) := by decide +kernel
theorem dL_act_534 : decode cL_act 534 = .ok (.iload 8, 2) := by decide +kernel
theorem dL_act_536 : decode cL_act 536 = .ok (.invokevirtual 54, 3) := by decide +kernel
theorem dL_act_539 : decode cL_act 539 = .ok (.iload 9, 2) := by decide +kernel
theorem dL_act_541 : decode cL_act 541 = .ok (.isub, 1) := by decide +kernel
theorem dL_act_542 : decode cL_act 542 = .ok (.invokestatic 204, 3) := by decide +kernel
theorem dL_act_545 : decode cL_act 545 = .ok (.istore 11, 2) := by decide +kernel
theorem dL_act_547 : decode cL_act 547 = .ok (.aload_n 0, 1) := by decide +kernel
theorem dL_act_548 : decode cL_act 548 = .ok (.iload 6, 2) := by decide +kernel
theorem dL_act_550 : decode cL_act 550 = .ok (.iload 8, 2) := by decide +kernel
theorem dL_act_552 : decode cL_act 552 = .ok (.invokevirtual 58, 3) := by decide +kernel
theorem dL_act_555 : decode cL_act 555 = .ok (.iload 10, 2) := by decide +kernel
theorem dL_act_557 : decode cL_act 557 = .ok (.isub, 1) := by decide +kernel
theorem dL_act_558 : decode cL_act 558 = .ok (.invokestatic 204, 3) := by decide +kernel
theorem dL_act_561 : decode cL_act 561 = .ok (.istore 12, 2) := by decide +kernel
theorem dL_act_563 : decode cL_act 563 = .ok (.aload_n 0, 1) := by decide +kernel
theorem dL_act_564 : decode cL_act 564 = .ok (.iload 6, 2) := by decide +kernel
theorem dL_act_566 : decode cL_act 566 = .ok (.iload 8, 2) := by decide +kernel
theorem dL_act_568 : decode cL_act 568 = .ok (.iload 9, 2) := by decide +kernel
theorem dL_act_570 : decode cL_act 570 = .ok (.iload 10, 2) := by decide +kernel
theorem dL_act_572 : decode cL_act 572 = .ok (.invokevirtual 209, 3) := by decide +kernel
theorem dL_act_575 : decode cL_act 575 = .ok (.aload_n 0, 1) := by decide +kernel
theorem dL_act_576 : decode cL_act 576 = .ok (.invokevirtual 37, 3) := by decide +kernel
theorem dL_act_579 : decode cL_act 579 = .ok (.ifCond .eq 13, 3) := by decide +kernel
theorem dL_act_582 : decode cL_act 582 = .ok (.iload 11, 2) := by decide +kernel
theorem dL_act_584 : decode cL_act 584 = .ok (.iload 12, 2) := by decide +kernel
theorem dL_act_586 : decode cL_act 586 = .ok (.invokestatic 213, 3) := by decide +kernel
theorem dL_act_589 : decode cL_act 589 = .ok (.goto 8, 3) := by decide +kernel
theorem dL_act_592 : decode cL_act 592 = .ok (.iload 11, 2) := by decide +kernel
theorem dL_act_594 : decode cL_act 594 = .ok (.iload 12, 2) := by decide +kernel
theorem dL_act_596 : decode cL_act 596 = .ok (.iadd, 1) := by decide +kernel
theorem dL_act_597 : decode cL_act 597 = .ok (.if_icmp .ne 33, 3) := by decide +kernel
theorem dL_act_600 : decode cL_act 600 = .ok (.aload_n 0, 1) := by decide +kernel
theorem dL_act_601 : decode cL_act 601 = .ok (.iload 6, 2) := by decide +kernel
theorem dL_act_603 : decode cL_act 603 = .ok (.iload 8, 2) := by decide +kernel
theorem dL_act_605 : decode cL_act 605 = .ok (.invokevirtual 54, 3) := by decide +kernel
theorem dL_act_608 : decode cL_act 608 = .ok (.iload 9, 2) := by decide +kernel
theorem dL_act_610 : decode cL_act 610 = .ok (.if_icmp .ne 20, 3) := by decide +kernel
theorem dL_act_613 : decode cL_act 613 = .ok (.aload_n 0, 1) := by decide +kernel
theorem dL_act_614 : decode cL_act 614 = .ok (.iload 6, 2) := by decide +kernel
theorem dL_act_616 : decode cL_act 616 = .ok (.iload 8, 2) := by decide +kernel
theorem dL_act_618 : decode cL_act 618 = .ok (.invokevirtual 58, 3) := by decide +kernel
theorem dL_act_621 : decode cL_act 621 = .ok (.iload 10, 2) := by decide +kernel
theorem dL_act_623 : decode cL_act 623 = .ok (.if_icmp .ne 7, 3) := by decide +kernel
theorem dL_act_626 : decode cL_act 626 = .ok (.iconst 1, 1) := by decide +kernel
theorem dL_act_627 : decode cL_act 627 = .ok (.goto 4, 3) := by decide +kernel
theorem dL_act_630 : decode cL_act 630 = .ok (.iconst 0, 1) := by decide +kernel
theorem dL_act_631 : decode cL_act 631 = .ok (.ireturn, 1) := by decide +kernel
theorem dL_act_632 : decode cL_act 632 = .ok (.iload_n 3, 1) := by decide +kernel
theorem dL_act_633 : decode cL_act 633 = .ok (.bipush 12, 2) := by decide +kernel
theorem dL_act_635 : decode cL_act 635 = .ok (.if_icmp .ge 83, 3) := by decide +kernel
theorem dL_act_638 : decode cL_act 638 = .ok (.iload 7, 2) := by decide +kernel
theorem dL_act_640 : decode cL_act 640 = .ok (.sipush 129, 3) := by decide +kernel
theorem dL_act_643 : decode cL_act 643 = .ok (.if_icmp .ge 75, 3) := by decide +kernel
theorem dL_act_646 : decode cL_act 646 = .ok (.aload_n 0, 1) := by decide +kernel
theorem dL_act_647 : decode cL_act 647 = .ok (.iload 6, 2) := by decide +kernel
theorem dL_act_649 : decode cL_act 649 = .ok (.iconst 0, 1) := by decide +kernel
theorem dL_act_650 : decode cL_act 650 = .ok (.invokevirtual 77, 3) := by decide +kernel
theorem dL_act_653 : decode cL_act 653 = .ok (.istore 11, 2) := by decide +kernel
theorem dL_act_655 : decode cL_act 655 = .ok (.aload_n 0, 1) := by decide +kernel
theorem dL_act_656 : decode cL_act 656 = .ok (.iload 6, 2) := by decide +kernel
theorem dL_act_658 : decode cL_act 658 = .ok (.iload 8, 2) := by decide +kernel
theorem dL_act_660 : decode cL_act 660 = .ok (.iload 9, 2) := by decide +kernel
theorem dL_act_662 : decode cL_act 662 = .ok (.iload 10, 2) := by decide +kernel
theorem dL_act_664 : decode cL_act 664 = .ok (.invokevirtual 216, 3) := by decide +kernel
theorem dL_act_667 : decode cL_act 667 = .ok (.iload 7, 2) := by decide +kernel
theorem dL_act_669 : decode cL_act 669 = .ok (.iconst 1, 1) := by decide +kernel
theorem dL_act_670 : decode cL_act 670 = .ok (.iadd, 1) := by decide +kernel
theorem dL_act_671 : decode cL_act 671 = .ok (.if_icmp .ne 45, 3) := by decide +kernel
theorem dL_act_674 : decode cL_act 674 = .ok (.aload_n 0, 1) := by decide +kernel
theorem dL_act_675 : decode cL_act 675 = .ok (.iload 6, 2) := by decide +kernel
theorem dL_act_677 : decode cL_act 677 = .ok (.iload 8, 2) := by decide +kernel
theorem dL_act_679 : decode cL_act 679 = .ok (.invokevirtual 54, 3) := by decide +kernel
theorem dL_act_682 : decode cL_act 682 = .ok (.iload 9, 2) := by decide +kernel
theorem dL_act_684 : decode cL_act 684 = .ok (.if_icmp .ne 32, 3) := by decide +kernel
theorem dL_act_687 : decode cL_act 687 = .ok (.aload_n 0, 1) := by decide +kernel
theorem dL_act_688 : decode cL_act 688 = .ok (.iload 6, 2) := by decide +kernel
theorem dL_act_690 : decode cL_act 690 = .ok (.iconst 0, 1) := by decide +kernel
theorem dL_act_691 : decode cL_act 691 = .ok (.invokevirtual 77, 3) := by decide +kernel
theorem dL_act_694 : decode cL_act 694 = .ok (.iload 11, 2) := by decide +kernel
theorem dL_act_696 : decode cL_act 696 = .ok (.if_icmp .lt 20, 3) := by decide +kernel
theorem dL_act_699 : decode cL_act 699 = .ok (.aload_n 0, 1) := by decide +kernel
theorem dL_act_700 : decode cL_act 700 = .ok (.iload 6, 2) := by decide +kernel
theorem dL_act_702 : decode cL_act 702 = .ok (.iload 8, 2) := by decide +kernel
theorem dL_act_704 : decode cL_act 704 = .ok (.invokevirtual 123, 3) := by decide +kernel
theorem dL_act_707 : decode cL_act 707 = .ok (.iload 11, 2) := by decide +kernel
theorem dL_act_709 : decode cL_act 709 = .ok (.if_icmp .ne 7, 3) := by decide +kernel
theorem dL_act_712 : decode cL_act 712 = .ok (.iconst 1, 1) := by decide +kernel
theorem dL_act_713 : decode cL_act 713 = .ok (.goto 4, 3) := by decide +kernel
theorem dL_act_716 : decode cL_act 716 = .ok (.iconst 0, 1) := by decide +kernel
theorem dL_act_717 : decode cL_act 717 = .ok (.ireturn, 1) := by decide +kernel
theorem dL_act_718 : decode cL_act 718 = .ok (.iload_n 3, 1) := by decide +kernel
theorem dL_act_719 : decode cL_act 719 = .ok (.bipush 12, 2) := by decide +kernel
theorem dL_act_721 : decode cL_act 721 = .ok (.if_icmp .ne 78, 3) := by decide +kernel
theorem dL_act_724 : decode cL_act 724 = .ok (.aload_n 0, 1) := by decide +kernel
theorem dL_act_725 : decode cL_act 725 = .ok (.iload 6, 2) := by decide +kernel
theorem dL_act_727 : decode cL_act 727 = .ok (.iload 8, 2) := by decide +kernel
theorem dL_act_729 : decode cL_act 729 = .ok (.invokevirtual 123, 3) := by decide +kernel
theorem dL_act_732 : decode cL_act 732 = .ok (.istore 11, 2) := by decide +kernel
theorem dL_act_734 : decode cL_act 734 = .ok (.iload 11, 2) := by decide +kernel
theorem dL_act_736 : decode cL_act 736 = .ok (.ifCond .ge 30, 3) := by decide +kernel
theorem dL_act_739 : decode cL_act 739 = .ok (.iload 7, 2) := by decide +kernel
theorem dL_act_741 : decode cL_act 741 = .ok (.aload_n 0, 1) := by decide +kernel
theorem dL_act_742 : decode cL_act 742 = .ok (.iload 6, 2) := by decide +kernel
theorem dL_act_744 : decode cL_act 744 = .ok (.invokevirtual 50, 3) := by decide +kernel
theorem dL_act_747 : decode cL_act 747 = .ok (.ifCond .eq 7, 3) := by decide +kernel
theorem dL_act_750 : decode cL_act 750 = .ok (.iconst 3, 1) := by decide +kernel
theorem dL_act_751 : decode cL_act 751 = .ok (.goto 4, 3) := by decide +kernel
theorem dL_act_754 : decode cL_act 754 = .ok (.iconst 2, 1) := by decide +kernel
theorem dL_act_755 : decode cL_act 755 = .ok (.if_icmp .ne 7, 3) := by decide +kernel
theorem dL_act_758 : decode cL_act 758 = .ok (.iconst 1, 1) := by decide +kernel
theorem dL_act_759 : decode cL_act 759 = .ok (.goto 39, 3) := by decide +kernel
theorem dL_act_762 : decode cL_act 762 = .ok (.iconst 0, 1) := by decide +kernel
theorem dL_act_763 : decode cL_act 763 = .ok (.goto 35, 3) := by decide +kernel
theorem dL_act_766 : decode cL_act 766 = .ok (.aload_n 0, 1) := by decide +kernel
theorem dL_act_767 : decode cL_act 767 = .ok (.iload 6, 2) := by decide +kernel
theorem dL_act_769 : decode cL_act 769 = .ok (.iload 8, 2) := by decide +kernel
theorem dL_act_771 : decode cL_act 771 = .ok (.invokevirtual 219, 3) := by decide +kernel
theorem dL_act_774 : decode cL_act 774 = .ok (.iload 7, 2) := by decide +kernel
theorem dL_act_776 : decode cL_act 776 = .ok (.iconst 1, 1) := by decide +kernel
theorem dL_act_777 : decode cL_act 777 = .ok (.isub, 1) := by decide +kernel
theorem dL_act_778 : decode cL_act 778 = .ok (.if_icmp .ne 19, 3) := by decide +kernel
theorem dL_act_781 : decode cL_act 781 = .ok (.aload_n 0, 1) := by decide +kernel
theorem dL_act_782 : decode cL_act 782 = .ok (.iload 6, 2) := by decide +kernel
theorem dL_act_784 : decode cL_act 784 = .ok (.iconst 0, 1) := by decide +kernel
theorem dL_act_785 : decode cL_act 785 = .ok (.invokevirtual 77, 3) := by decide +kernel
theorem dL_act_788 : decode cL_act 788 = .ok (.iload 11, 2) := by decide +kernel
theorem dL_act_790 : decode cL_act 790 = .ok (.if_icmp .ne 7, 3) := by decide +kernel
theorem dL_act_793 : decode cL_act 793 = .ok (.iconst 1, 1) := by decide +kernel
theorem dL_act_794 : decode cL_act 794 = .ok (.goto 4, 3) := by decide +kernel
theorem dL_act_797 : decode cL_act 797 = .ok (.iconst 0, 1) := by decide +kernel
theorem dL_act_798 : decode cL_act 798 = .ok (.ireturn, 1) := by decide +kernel
theorem dL_act_799 : decode cL_act 799 = .ok (.iload_n 3, 1) := by decide +kernel
theorem dL_act_800 : decode cL_act 800 = .ok (.bipush 13, 2) := by decide +kernel
theorem dL_act_802 : decode cL_act 802 = .ok (.if_icmp .ne 172, 3) := by decide +kernel
theorem dL_act_805 : decode cL_act 805 = .ok (.aload_n 0, 1) := by decide +kernel
theorem dL_act_806 : decode cL_act 806 = .ok (.iload 6, 2) := by decide +kernel
theorem dL_act_808 : decode cL_act 808 = .ok (.iconst 3, 1) := by decide +kernel
theorem dL_act_809 : decode cL_act 809 = .ok (.invokevirtual 77, 3) := by decide +kernel
theorem dL_act_812 : decode cL_act 812 = .ok (.istore 11, 2) := by decide +kernel
theorem dL_act_814 : decode cL_act 814 = .ok (.sipush 1000, 3) := by decide +kernel
theorem dL_act_817 : decode cL_act 817 = .ok (.istore 12, 2) := by decide +kernel
theorem dL_act_819 : decode cL_act 819 = .ok (.sipush (-1000), 3) := by decide +kernel
theorem dL_act_822 : decode cL_act 822 = .ok (.istore 13, 2) := by decide +kernel
theorem dL_act_824 : decode cL_act 824 = .ok (.iconst 0, 1) := by decide +kernel
theorem dL_act_825 : decode cL_act 825 = .ok (.istore 14, 2) := by decide +kernel
theorem dL_act_827 : decode cL_act 827 = .ok (.iload 14, 2) := by decide +kernel
theorem dL_act_829 : decode cL_act 829 = .ok (.iload 7, 2) := by decide +kernel
theorem dL_act_831 : decode cL_act 831 = .ok (.if_icmp .ge 61, 3) := by decide +kernel
theorem dL_act_834 : decode cL_act 834 = .ok (.iload 12, 2) := by decide +kernel
theorem dL_act_836 : decode cL_act 836 = .ok (.aload_n 0, 1) := by decide +kernel
theorem dL_act_837 : decode cL_act 837 = .ok (.iload 6, 2) := by decide +kernel
theorem dL_act_839 : decode cL_act 839 = .ok (.iload 14, 2) := by decide +kernel
theorem dL_act_841 : decode cL_act 841 = .ok (.invokevirtual 54, 3) := by decide +kernel
theorem dL_act_844 : decode cL_act 844 = .ok (.aload_n 0, 1) := by decide +kernel
theorem dL_act_845 : decode cL_act 845 = .ok (.iload 6, 2) := by decide +kernel
theorem dL_act_847 : decode cL_act 847 = .ok (.iload 14, 2) := by decide +kernel
theorem dL_act_849 : decode cL_act 849 = .ok (.invokevirtual 58, 3) := by decide +kernel
theorem dL_act_852 : decode cL_act 852 = .ok (.invokestatic 222, 3) := by decide +kernel
theorem dL_act_855 : decode cL_act 855 = .ok (.invokestatic 222, 3) := by decide +kernel
theorem dL_act_858 : decode cL_act 858 = .ok (.istore 12, 2) := by decide +kernel
theorem dL_act_860 : decode cL_act 860 = .ok (.iload 13, 2) := by decide +kernel
theorem dL_act_862 : decode cL_act 862 = .ok (.aload_n 0, 1) := by decide +kernel
theorem dL_act_863 : decode cL_act 863 = .ok (.iload 6, 2) := by decide +kernel
theorem dL_act_865 : decode cL_act 865 = .ok (.iload 14, 2) := by decide +kernel
theorem dL_act_867 : decode cL_act 867 = .ok (.invokevirtual 54, 3) := by decide +kernel
theorem dL_act_870 : decode cL_act 870 = .ok (.aload_n 0, 1) := by decide +kernel
theorem dL_act_871 : decode cL_act 871 = .ok (.iload 6, 2) := by decide +kernel
theorem dL_act_873 : decode cL_act 873 = .ok (.iload 14, 2) := by decide +kernel
theorem dL_act_875 : decode cL_act 875 = .ok (.invokevirtual 58, 3) := by decide +kernel
theorem dL_act_878 : decode cL_act 878 = .ok (.invokestatic 213, 3) := by decide +kernel
theorem dL_act_881 : decode cL_act 881 = .ok (.invokestatic 213, 3) := by decide +kernel
theorem dL_act_884 : decode cL_act 884 = .ok (.istore 13, 2) := by decide +kernel
theorem dL_act_886 : decode cL_act 886 = .ok (.iinc 14 1, 3) := by decide +kernel
theorem dL_act_889 : decode cL_act 889 = .ok (.goto (-62), 3) := by decide +kernel
theorem dL_act_892 : decode cL_act 892 = .ok (.sipush (-1000), 3) := by decide +kernel
theorem dL_act_895 : decode cL_act 895 = .ok (.iload 12, 2) := by decide +kernel
theorem dL_act_897 : decode cL_act 897 = .ok (.isub, 1) := by decide +kernel
theorem dL_act_898 : decode cL_act 898 = .ok (.iload 13, 2) := by decide +kernel
theorem dL_act_900 : decode cL_act 900 = .ok (.sipush 1000, 3) := by decide +kernel
theorem dL_act_903 : decode cL_act 903 = .ok (.isub, 1) := by decide +kernel
theorem dL_act_904 : decode cL_act 904 = .ok (.invokestatic 213, 3) := by decide +kernel
theorem dL_act_907 : decode cL_act 907 = .ok (.istore 14, 2) := by decide +kernel
theorem dL_act_909 : decode cL_act 909 = .ok (.sipush 1000, 3) := by decide +kernel
theorem dL_act_912 : decode cL_act 912 = .ok (.iload 13, 2) := by decide +kernel
theorem dL_act_914 : decode cL_act 914 = .ok (.isub, 1) := by decide +kernel
theorem dL_act_915 : decode cL_act 915 = .ok (.sipush 1000, 3) := by decide +kernel
theorem dL_act_918 : decode cL_act 918 = .ok (.iload 12, 2) := by decide +kernel
theorem dL_act_920 : decode cL_act 920 = .ok (.iadd, 1) := by decide +kernel
theorem dL_act_921 : decode cL_act 921 = .ok (.invokestatic 222, 3) := by decide +kernel
theorem dL_act_924 : decode cL_act 924 = .ok (.istore 15, 2) := by decide +kernel
theorem dL_act_926 : decode cL_act 926 = .ok (.iload 14, 2) := by decide +kernel
theorem dL_act_928 : decode cL_act 928 = .ok (.iload 15, 2) := by decide +kernel
theorem dL_act_930 : decode cL_act 930 = .ok (.iload 9, 2) := by decide +kernel
theorem dL_act_932 : decode cL_act 932 = .ok (.invokestatic 222, 3) := by decide +kernel
theorem dL_act_935 : decode cL_act 935 = .ok (.invokestatic 213, 3) := by decide +kernel
theorem dL_act_938 : decode cL_act 938 = .ok (.istore 16, 2) := by decide +kernel
theorem dL_act_940 : decode cL_act 940 = .ok (.aload_n 0, 1) := by decide +kernel
theorem dL_act_941 : decode cL_act 941 = .ok (.iload 6, 2) := by decide +kernel
theorem dL_act_943 : decode cL_act 943 = .ok (.iload 16, 2) := by decide +kernel
theorem dL_act_945 : decode cL_act 945 = .ok (.iload 16, 2) := by decide +kernel
theorem dL_act_947 : decode cL_act 947 = .ok (.ineg, 1) := by decide +kernel
theorem dL_act_948 : decode cL_act 948 = .ok (.invokevirtual 225, 3) := by decide +kernel
theorem dL_act_951 : decode cL_act 951 = .ok (.iload 7, 2) := by decide +kernel
theorem dL_act_953 : decode cL_act 953 = .ok (.if_icmp .ne 19, 3) := by decide +kernel
theorem dL_act_956 : decode cL_act 956 = .ok (.aload_n 0, 1) := by decide +kernel
theorem dL_act_957 : decode cL_act 957 = .ok (.iload 6, 2) := by decide +kernel
theorem dL_act_959 : decode cL_act 959 = .ok (.iconst 3, 1) := by decide +kernel
theorem dL_act_960 : decode cL_act 960 = .ok (.invokevirtual 77, 3) := by decide +kernel
theorem dL_act_963 : decode cL_act 963 = .ok (.iload 11, 2) := by decide +kernel
theorem dL_act_965 : decode cL_act 965 = .ok (.if_icmp .ne 7, 3) := by decide +kernel
theorem dL_act_968 : decode cL_act 968 = .ok (.iconst 1, 1) := by decide +kernel
theorem dL_act_969 : decode cL_act 969 = .ok (.goto 4, 3) := by decide +kernel
theorem dL_act_972 : decode cL_act 972 = .ok (.iconst 0, 1) := by decide +kernel
theorem dL_act_973 : decode cL_act 973 = .ok (.ireturn, 1) := by decide +kernel
theorem dL_act_974 : decode cL_act 974 = .ok (.iload_n 3, 1) := by decide +kernel
theorem dL_act_975 : decode cL_act 975 = .ok (.bipush 14, 2) := by decide +kernel
theorem dL_act_977 : decode cL_act 977 = .ok (.if_icmp .ne 65, 3) := by decide +kernel
theorem dL_act_980 : decode cL_act 980 = .ok (.aload_n 0, 1) := by decide +kernel
theorem dL_act_981 : decode cL_act 981 = .ok (.iload 6, 2) := by decide +kernel
theorem dL_act_983 : decode cL_act 983 = .ok (.iconst 0, 1) := by decide +kernel
theorem dL_act_984 : decode cL_act 984 = .ok (.invokevirtual 77, 3) := by decide +kernel
theorem dL_act_987 : decode cL_act 987 = .ok (.istore 11, 2) := by decide +kernel
theorem dL_act_989 : decode cL_act 989 = .ok (.aload_n 0, 1) := by decide +kernel
theorem dL_act_990 : decode cL_act 990 = .ok (.iload 6, 2) := by decide +kernel
theorem dL_act_992 : decode cL_act 992 = .ok (.iconst 0, 1) := by decide +kernel
theorem dL_act_993 : decode cL_act 993 = .ok (.invokevirtual 54, 3) := by decide +kernel
theorem dL_act_996 : decode cL_act 996 = .ok (.istore 12, 2) := by decide +kernel
theorem dL_act_998 : decode cL_act 998 = .ok (.aload_n 0, 1) := by decide +kernel
theorem dL_act_999 : decode cL_act 999 = .ok (.iload 6, 2) := by decide +kernel
theorem dL_act_1001 : decode cL_act 1001 = .ok (.invokevirtual 228, 3) := by decide +kernel
theorem dL_act_1004 : decode cL_act 1004 = .ok (.iload 7, 2) := by decide +kernel
theorem dL_act_1006 : decode cL_act 1006 = .ok (.if_icmp .ne 34, 3) := by decide +kernel
theorem dL_act_1009 : decode cL_act 1009 = .ok (.aload_n 0, 1) := by decide +kernel
theorem dL_act_1010 : decode cL_act 1010 = .ok (.iload 6, 2) := by decide +kernel
theorem dL_act_1012 : decode cL_act 1012 = .ok (.iload 7, 2) := by decide +kernel
theorem dL_act_1014 : decode cL_act 1014 = .ok (.iconst 1, 1) := by decide +kernel
theorem dL_act_1015 : decode cL_act 1015 = .ok (.isub, 1) := by decide +kernel
theorem dL_act_1016 : decode cL_act 1016 = .ok (.invokevirtual 54, 3) := by decide +kernel
theorem dL_act_1019 : decode cL_act 1019 = .ok (.iload 12, 2) := by decide +kernel
theorem dL_act_1021 : decode cL_act 1021 = .ok (.if_icmp .ne 19, 3) := by decide +kernel
theorem dL_act_1024 : decode cL_act 1024 = .ok (.aload_n 0, 1) := by decide +kernel
