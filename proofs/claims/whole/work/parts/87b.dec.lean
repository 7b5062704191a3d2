theorem dl_433 : decode code 433 = .ok (.iconst 2, 1) := by decide +kernel
theorem dl_434 : decode code 434 = .ok (.iadd, 1) := by decide +kernel
theorem dl_435 : decode code 435 = .ok (.iaload, 1) := by decide +kernel
theorem dl_436 : decode code 436 = .ok (.invokevirtual 48, 3) := by decide +kernel
theorem dl_439 : decode code 439 = .ok (.if_icmp .eq (873), 3) := by decide +kernel
theorem dl_442 : decode code 442 = .ok (.iconst 0, 1) := by decide +kernel
theorem dl_443 : decode code 443 = .ok (.ireturn, 1) := by decide +kernel
theorem dl_444 : decode code 444 = .ok (.aload_n 1, 1) := by decide +kernel
theorem dl_445 : decode code 445 = .ok (.aload_n 0, 1) := by decide +kernel
theorem dl_446 : decode code 446 = .ok (.iload_n 3, 1) := by decide +kernel
theorem dl_447 : decode code 447 = .ok (.iconst 1, 1) := by decide +kernel
theorem dl_448 : decode code 448 = .ok (.iadd, 1) := by decide +kernel
theorem dl_449 : decode code 449 = .ok (.iaload, 1) := by decide +kernel
theorem dl_450 : decode code 450 = .ok (.aload_n 0, 1) := by decide +kernel
theorem dl_451 : decode code 451 = .ok (.iload_n 3, 1) := by decide +kernel
theorem dl_452 : decode code 452 = .ok (.iconst 2, 1) := by decide +kernel
theorem dl_453 : decode code 453 = .ok (.iadd, 1) := by decide +kernel
theorem dl_454 : decode code 454 = .ok (.iaload, 1) := by decide +kernel
theorem dl_455 : decode code 455 = .ok (.aload_n 0, 1) := by decide +kernel
theorem dl_456 : decode code 456 = .ok (.iload_n 3, 1) := by decide +kernel
theorem dl_457 : decode code 457 = .ok (.iconst 3, 1) := by decide +kernel
theorem dl_458 : decode code 458 = .ok (.iadd, 1) := by decide +kernel
theorem dl_459 : decode code 459 = .ok (.iaload, 1) := by decide +kernel
theorem dl_460 : decode code 460 = .ok (.aload_n 0, 1) := by decide +kernel
theorem dl_461 : decode code 461 = .ok (.iload_n 3, 1) := by decide +kernel
theorem dl_462 : decode code 462 = .ok (.iconst 4, 1) := by decide +kernel
theorem dl_463 : decode code 463 = .ok (.iadd, 1) := by decide +kernel
theorem dl_464 : decode code 464 = .ok (.iaload, 1) := by decide +kernel
theorem dl_465 : decode code 465 = .ok (.invokevirtual 49, 3) := by decide +kernel
theorem dl_468 : decode code 468 = .ok (.aload_n 2, 1) := by decide +kernel
theorem dl_469 : decode code 469 = .ok (.aload_n 0, 1) := by decide +kernel
theorem dl_470 : decode code 470 = .ok (.iload_n 3, 1) := by decide +kernel
theorem dl_471 : decode code 471 = .ok (.iconst 1, 1) := by decide +kernel
theorem dl_472 : decode code 472 = .ok (.iadd, 1) := by decide +kernel
theorem dl_473 : decode code 473 = .ok (.iaload, 1) := by decide +kernel
theorem dl_474 : decode code 474 = .ok (.aload_n 0, 1) := by decide +kernel
theorem dl_475 : decode code 475 = .ok (.iload_n 3, 1) := by decide +kernel
theorem dl_476 : decode code 476 = .ok (.iconst 2, 1) := by decide +kernel
theorem dl_477 : decode code 477 = .ok (.iadd, 1) := by decide +kernel
theorem dl_478 : decode code 478 = .ok (.iaload, 1) := by decide +kernel
theorem dl_479 : decode code 479 = .ok (.aload_n 0, 1) := by decide +kernel
theorem dl_480 : decode code 480 = .ok (.iload_n 3, 1) := by decide +kernel
theorem dl_481 : decode code 481 = .ok (.iconst 3, 1) := by decide +kernel
theorem dl_482 : decode code 482 = .ok (.iadd, 1) := by decide +kernel
theorem dl_483 : decode code 483 = .ok (.iaload, 1) := by decide +kernel
theorem dl_484 : decode code 484 = .ok (.aload_n 0, 1) := by decide +kernel
theorem dl_485 : decode code 485 = .ok (.iload_n 3, 1) := by decide +kernel
theorem dl_486 : decode code 486 = .ok (.iconst 4, 1) := by decide +kernel
theorem dl_487 : decode code 487 = .ok (.iadd, 1) := by decide +kernel
theorem dl_488 : decode code 488 = .ok (.iaload, 1) := by decide +kernel
theorem dl_489 : decode code 489 = .ok (.invokevirtual 53, 3) := by decide +kernel
theorem dl_492 : decode code 492 = .ok (.if_icmp .eq (820), 3) := by decide +kernel
theorem dl_495 : decode code 495 = .ok (.iconst 0, 1) := by decide +kernel
theorem dl_496 : decode code 496 = .ok (.ireturn, 1) := by decide +kernel
theorem dl_497 : decode code 497 = .ok (.aload_n 1, 1) := by decide +kernel
theorem dl_498 : decode code 498 = .ok (.aload_n 0, 1) := by decide +kernel
theorem dl_499 : decode code 499 = .ok (.iload_n 3, 1) := by decide +kernel
theorem dl_500 : decode code 500 = .ok (.iconst 1, 1) := by decide +kernel
theorem dl_501 : decode code 501 = .ok (.iadd, 1) := by decide +kernel
theorem dl_502 : decode code 502 = .ok (.iaload, 1) := by decide +kernel
theorem dl_503 : decode code 503 = .ok (.aload_n 0, 1) := by decide +kernel
theorem dl_504 : decode code 504 = .ok (.iload_n 3, 1) := by decide +kernel
theorem dl_505 : decode code 505 = .ok (.iconst 2, 1) := by decide +kernel
theorem dl_506 : decode code 506 = .ok (.iadd, 1) := by decide +kernel
theorem dl_507 : decode code 507 = .ok (.iaload, 1) := by decide +kernel
theorem dl_508 : decode code 508 = .ok (.aload_n 0, 1) := by decide +kernel
theorem dl_509 : decode code 509 = .ok (.iload_n 3, 1) := by decide +kernel
theorem dl_510 : decode code 510 = .ok (.iconst 3, 1) := by decide +kernel
theorem dl_511 : decode code 511 = .ok (.iadd, 1) := by decide +kernel
theorem dl_512 : decode code 512 = .ok (.iaload, 1) := by decide +kernel
theorem dl_513 : decode code 513 = .ok (.invokevirtual 54, 3) := by decide +kernel
theorem dl_516 : decode code 516 = .ok (.aload_n 2, 1) := by decide +kernel
theorem dl_517 : decode code 517 = .ok (.aload_n 0, 1) := by decide +kernel
theorem dl_518 : decode code 518 = .ok (.iload_n 3, 1) := by decide +kernel
theorem dl_519 : decode code 519 = .ok (.iconst 1, 1) := by decide +kernel
theorem dl_520 : decode code 520 = .ok (.iadd, 1) := by decide +kernel
theorem dl_521 : decode code 521 = .ok (.iaload, 1) := by decide +kernel
theorem dl_522 : decode code 522 = .ok (.aload_n 0, 1) := by decide +kernel
theorem dl_523 : decode code 523 = .ok (.iload_n 3, 1) := by decide +kernel
theorem dl_524 : decode code 524 = .ok (.iconst 2, 1) := by decide +kernel
theorem dl_525 : decode code 525 = .ok (.iadd, 1) := by decide +kernel
theorem dl_526 : decode code 526 = .ok (.iaload, 1) := by decide +kernel
theorem dl_527 : decode code 527 = .ok (.aload_n 0, 1) := by decide +kernel
theorem dl_528 : decode code 528 = .ok (.iload_n 3, 1) := by decide +kernel
theorem dl_529 : decode code 529 = .ok (.iconst 3, 1) := by decide +kernel
theorem dl_530 : decode code 530 = .ok (.iadd, 1) := by decide +kernel
theorem dl_531 : decode code 531 = .ok (.iaload, 1) := by decide +kernel
theorem dl_532 : decode code 532 = .ok (.invokevirtual 58, 3) := by decide +kernel
theorem dl_535 : decode code 535 = .ok (.lcmp, 1) := by decide +kernel
theorem dl_536 : decode code 536 = .ok (.ifCond .eq (776), 3) := by decide +kernel
theorem dl_539 : decode code 539 = .ok (.iconst 0, 1) := by decide +kernel
theorem dl_540 : decode code 540 = .ok (.ireturn, 1) := by decide +kernel
theorem dl_541 : decode code 541 = .ok (.aload_n 1, 1) := by decide +kernel
theorem dl_542 : decode code 542 = .ok (.aload_n 0, 1) := by decide +kernel
theorem dl_543 : decode code 543 = .ok (.iload_n 3, 1) := by decide +kernel
theorem dl_544 : decode code 544 = .ok (.iconst 1, 1) := by decide +kernel
theorem dl_545 : decode code 545 = .ok (.iadd, 1) := by decide +kernel
theorem dl_546 : decode code 546 = .ok (.iaload, 1) := by decide +kernel
theorem dl_547 : decode code 547 = .ok (.aload_n 0, 1) := by decide +kernel
theorem dl_548 : decode code 548 = .ok (.iload_n 3, 1) := by decide +kernel
theorem dl_549 : decode code 549 = .ok (.iconst 2, 1) := by decide +kernel
theorem dl_550 : decode code 550 = .ok (.iadd, 1) := by decide +kernel
theorem dl_551 : decode code 551 = .ok (.iaload, 1) := by decide +kernel
theorem dl_552 : decode code 552 = .ok (.aload_n 0, 1) := by decide +kernel
theorem dl_553 : decode code 553 = .ok (.iload_n 3, 1) := by decide +kernel
theorem dl_554 : decode code 554 = .ok (.iconst 3, 1) := by decide +kernel
theorem dl_555 : decode code 555 = .ok (.iadd, 1) := by decide +kernel
theorem dl_556 : decode code 556 = .ok (.iaload, 1) := by decide +kernel
theorem dl_557 : decode code 557 = .ok (.invokevirtual 59, 3) := by decide +kernel
theorem dl_560 : decode code 560 = .ok (.aload_n 2, 1) := by decide +kernel
theorem dl_561 : decode code 561 = .ok (.aload_n 0, 1) := by decide +kernel
theorem dl_562 : decode code 562 = .ok (.iload_n 3, 1) := by decide +kernel
theorem dl_563 : decode code 563 = .ok (.iconst 1, 1) := by decide +kernel
theorem dl_564 : decode code 564 = .ok (.iadd, 1) := by decide +kernel
theorem dl_565 : decode code 565 = .ok (.iaload, 1) := by decide +kernel
theorem dl_566 : decode code 566 = .ok (.aload_n 0, 1) := by decide +kernel
theorem dl_567 : decode code 567 = .ok (.iload_n 3, 1) := by decide +kernel
theorem dl_568 : decode code 568 = .ok (.iconst 2, 1) := by decide +kernel
theorem dl_569 : decode code 569 = .ok (.iadd, 1) := by decide +kernel
theorem dl_570 : decode code 570 = .ok (.iaload, 1) := by decide +kernel
theorem dl_571 : decode code 571 = .ok (.aload_n 0, 1) := by decide +kernel
theorem dl_572 : decode code 572 = .ok (.iload_n 3, 1) := by decide +kernel
theorem dl_573 : decode code 573 = .ok (.iconst 3, 1) := by decide +kernel
theorem dl_574 : decode code 574 = .ok (.iadd, 1) := by decide +kernel
theorem dl_575 : decode code 575 = .ok (.iaload, 1) := by decide +kernel
theorem dl_576 : decode code 576 = .ok (.invokevirtual 62, 3) := by decide +kernel
theorem dl_579 : decode code 579 = .ok (.lcmp, 1) := by decide +kernel
theorem dl_580 : decode code 580 = .ok (.ifCond .eq (732), 3) := by decide +kernel
theorem dl_583 : decode code 583 = .ok (.iconst 0, 1) := by decide +kernel
theorem dl_584 : decode code 584 = .ok (.ireturn, 1) := by decide +kernel
theorem dl_585 : decode code 585 = .ok (.aload_n 1, 1) := by decide +kernel
theorem dl_586 : decode code 586 = .ok (.aload_n 0, 1) := by decide +kernel
theorem dl_587 : decode code 587 = .ok (.iload_n 3, 1) := by decide +kernel
theorem dl_588 : decode code 588 = .ok (.iconst 1, 1) := by decide +kernel
theorem dl_589 : decode code 589 = .ok (.iadd, 1) := by decide +kernel
theorem dl_590 : decode code 590 = .ok (.iaload, 1) := by decide +kernel
theorem dl_591 : decode code 591 = .ok (.aload_n 0, 1) := by decide +kernel
theorem dl_592 : decode code 592 = .ok (.iload_n 3, 1) := by decide +kernel
theorem dl_593 : decode code 593 = .ok (.iconst 2, 1) := by decide +kernel
theorem dl_594 : decode code 594 = .ok (.iadd, 1) := by decide +kernel
theorem dl_595 : decode code 595 = .ok (.iaload, 1) := by decide +kernel
theorem dl_596 : decode code 596 = .ok (.aload_n 0, 1) := by decide +kernel
theorem dl_597 : decode code 597 = .ok (.iload_n 3, 1) := by decide +kernel
theorem dl_598 : decode code 598 = .ok (.iconst 3, 1) := by decide +kernel
theorem dl_599 : decode code 599 = .ok (.iadd, 1) := by decide +kernel
theorem dl_600 : decode code 600 = .ok (.iaload, 1) := by decide +kernel
theorem dl_601 : decode code 601 = .ok (.aload_n 0, 1) := by decide +kernel
theorem dl_602 : decode code 602 = .ok (.iload_n 3, 1) := by decide +kernel
theorem dl_603 : decode code 603 = .ok (.iconst 4, 1) := by decide +kernel
theorem dl_604 : decode code 604 = .ok (.iadd, 1) := by decide +kernel
theorem dl_605 : decode code 605 = .ok (.iaload, 1) := by decide +kernel
theorem dl_606 : decode code 606 = .ok (.invokevirtual 63, 3) := by decide +kernel
theorem dl_609 : decode code 609 = .ok (.aload_n 2, 1) := by decide +kernel
theorem dl_610 : decode code 610 = .ok (.aload_n 0, 1) := by decide +kernel
theorem dl_611 : decode code 611 = .ok (.iload_n 3, 1) := by decide +kernel
theorem dl_612 : decode code 612 = .ok (.iconst 1, 1) := by decide +kernel
theorem dl_613 : decode code 613 = .ok (.iadd, 1) := by decide +kernel
theorem dl_614 : decode code 614 = .ok (.iaload, 1) := by decide +kernel
theorem dl_615 : decode code 615 = .ok (.aload_n 0, 1) := by decide +kernel
theorem dl_616 : decode code 616 = .ok (.iload_n 3, 1) := by decide +kernel
theorem dl_617 : decode code 617 = .ok (.iconst 2, 1) := by decide +kernel
theorem dl_618 : decode code 618 = .ok (.iadd, 1) := by decide +kernel
theorem dl_619 : decode code 619 = .ok (.iaload, 1) := by decide +kernel
theorem dl_620 : decode code 620 = .ok (.aload_n 0, 1) := by decide +kernel
theorem dl_621 : decode code 621 = .ok (.iload_n 3, 1) := by decide +kernel
theorem dl_622 : decode code 622 = .ok (.iconst 3, 1) := by decide +kernel
theorem dl_623 : decode code 623 = .ok (.iadd, 1) := by decide +kernel
theorem dl_624 : decode code 624 = .ok (.iaload, 1) := by decide +kernel
theorem dl_625 : decode code 625 = .ok (.aload_n 0, 1) := by decide +kernel
theorem dl_626 : decode code 626 = .ok (.iload_n 3, 1) := by decide +kernel
theorem dl_627 : decode code 627 = .ok (.iconst 4, 1) := by decide +kernel
theorem dl_628 : decode code 628 = .ok (.iadd, 1) := by decide +kernel
theorem dl_629 : decode code 629 = .ok (.iaload, 1) := by decide +kernel
theorem dl_630 : decode code 630 = .ok (.invokevirtual 67, 3) := by decide +kernel
theorem dl_633 : decode code 633 = .ok (.lcmp, 1) := by decide +kernel
theorem dl_634 : decode code 634 = .ok (.ifCond .eq (678), 3) := by decide +kernel
theorem dl_637 : decode code 637 = .ok (.iconst 0, 1) := by decide +kernel
theorem dl_638 : decode code 638 = .ok (.ireturn, 1) := by decide +kernel
theorem dl_639 : decode code 639 = .ok (.aload_n 1, 1) := by decide +kernel
theorem dl_640 : decode code 640 = .ok (.aload_n 0, 1) := by decide +kernel
theorem dl_641 : decode code 641 = .ok (.iload_n 3, 1) := by decide +kernel
theorem dl_642 : decode code 642 = .ok (.iconst 1, 1) := by decide +kernel
theorem dl_643 : decode code 643 = .ok (.iadd, 1) := by decide +kernel
theorem dl_644 : decode code 644 = .ok (.iaload, 1) := by decide +kernel
theorem dl_645 : decode code 645 = .ok (.aload_n 0, 1) := by decide +kernel
theorem dl_646 : decode code 646 = .ok (.iload_n 3, 1) := by decide +kernel
theorem dl_647 : decode code 647 = .ok (.iconst 2, 1) := by decide +kernel
theorem dl_648 : decode code 648 = .ok (.iadd, 1) := by decide +kernel
theorem dl_649 : decode code 649 = .ok (.iaload, 1) := by decide +kernel
theorem dl_650 : decode code 650 = .ok (.invokevirtual 68, 3) := by decide +kernel
theorem dl_653 : decode code 653 = .ok (.aload_n 2, 1) := by decide +kernel
theorem dl_654 : decode code 654 = .ok (.aload_n 0, 1) := by decide +kernel
theorem dl_655 : decode code 655 = .ok (.iload_n 3, 1) := by decide +kernel
theorem dl_656 : decode code 656 = .ok (.iconst 1, 1) := by decide +kernel
theorem dl_657 : decode code 657 = .ok (.iadd, 1) := by decide +kernel
theorem dl_658 : decode code 658 = .ok (.iaload, 1) := by decide +kernel
theorem dl_659 : decode code 659 = .ok (.aload_n 0, 1) := by decide +kernel
theorem dl_660 : decode code 660 = .ok (.iload_n 3, 1) := by decide +kernel
theorem dl_661 : decode code 661 = .ok (.iconst 2, 1) := by decide +kernel
theorem dl_662 : decode code 662 = .ok (.iadd, 1) := by decide +kernel
theorem dl_663 : decode code 663 = .ok (.iaload, 1) := by decide +kernel
theorem dl_664 : decode code 664 = .ok (.invokevirtual 71, 3) := by decide +kernel
theorem dl_667 : decode code 667 = .ok (.if_icmp .eq (645), 3) := by decide +kernel
theorem dl_670 : decode code 670 = .ok (.iconst 0, 1) := by decide +kernel
theorem dl_671 : decode code 671 = .ok (.ireturn, 1) := by decide +kernel
theorem dl_672 : decode code 672 = .ok (.aload_n 1, 1) := by decide +kernel
theorem dl_673 : decode code 673 = .ok (.aload_n 0, 1) := by decide +kernel
theorem dl_674 : decode code 674 = .ok (.iload_n 3, 1) := by decide +kernel
theorem dl_675 : decode code 675 = .ok (.iconst 1, 1) := by decide +kernel
theorem dl_676 : decode code 676 = .ok (.iadd, 1) := by decide +kernel
theorem dl_677 : decode code 677 = .ok (.iaload, 1) := by decide +kernel
theorem dl_678 : decode code 678 = .ok (.aload_n 0, 1) := by decide +kernel
theorem dl_679 : decode code 679 = .ok (.iload_n 3, 1) := by decide +kernel
theorem dl_680 : decode code 680 = .ok (.iconst 2, 1) := by decide +kernel
theorem dl_681 : decode code 681 = .ok (.iadd, 1) := by decide +kernel
theorem dl_682 : decode code 682 = .ok (.iaload, 1) := by decide +kernel
theorem dl_683 : decode code 683 = .ok (.aload_n 0, 1) := by decide +kernel
theorem dl_684 : decode code 684 = .ok (.iload_n 3, 1) := by decide +kernel
theorem dl_685 : decode code 685 = .ok (.iconst 3, 1) := by decide +kernel
theorem dl_686 : decode code 686 = .ok (.iadd, 1) := by decide +kernel
theorem dl_687 : decode code 687 = .ok (.iaload, 1) := by decide +kernel
theorem dl_688 : decode code 688 = .ok (.aload_n 0, 1) := by decide +kernel
theorem dl_689 : decode code 689 = .ok (.iload_n 3, 1) := by decide +kernel
theorem dl_690 : decode code 690 = .ok (.iconst 4, 1) := by decide +kernel
theorem dl_691 : decode code 691 = .ok (.iadd, 1) := by decide +kernel
theorem dl_692 : decode code 692 = .ok (.iaload, 1) := by decide +kernel
theorem dl_693 : decode code 693 = .ok (.aload_n 0, 1) := by decide +kernel
theorem dl_694 : decode code 694 = .ok (.iload_n 3, 1) := by decide +kernel
theorem dl_695 : decode code 695 = .ok (.iconst 5, 1) := by decide +kernel
theorem dl_696 : decode code 696 = .ok (.iadd, 1) := by decide +kernel
theorem dl_697 : decode code 697 = .ok (.iaload, 1) := by decide +kernel
theorem dl_698 : decode code 698 = .ok (.aload_n 0, 1) := by decide +kernel
theorem dl_699 : decode code 699 = .ok (.iload_n 3, 1) := by decide +kernel
theorem dl_700 : decode code 700 = .ok (.bipush 6, 2) := by decide +kernel
theorem dl_702 : decode code 702 = .ok (.iadd, 1) := by decide +kernel
theorem dl_703 : decode code 703 = .ok (.iaload, 1) := by decide +kernel
theorem dl_704 : decode code 704 = .ok (.invokevirtual 72, 3) := by decide +kernel
theorem dl_707 : decode code 707 = .ok (.aload_n 2, 1) := by decide +kernel
theorem dl_708 : decode code 708 = .ok (.aload_n 0, 1) := by decide +kernel
theorem dl_709 : decode code 709 = .ok (.iload_n 3, 1) := by decide +kernel
theorem dl_710 : decode code 710 = .ok (.iconst 1, 1) := by decide +kernel
theorem dl_711 : decode code 711 = .ok (.iadd, 1) := by decide +kernel
theorem dl_712 : decode code 712 = .ok (.iaload, 1) := by decide +kernel
theorem dl_713 : decode code 713 = .ok (.aload_n 0, 1) := by decide +kernel
theorem dl_714 : decode code 714 = .ok (.iload_n 3, 1) := by decide +kernel
theorem dl_715 : decode code 715 = .ok (.iconst 2, 1) := by decide +kernel
theorem dl_716 : decode code 716 = .ok (.iadd, 1) := by decide +kernel
theorem dl_717 : decode code 717 = .ok (.iaload, 1) := by decide +kernel
theorem dl_718 : decode code 718 = .ok (.aload_n 0, 1) := by decide +kernel
theorem dl_719 : decode code 719 = .ok (.iload_n 3, 1) := by decide +kernel
theorem dl_720 : decode code 720 = .ok (.iconst 3, 1) := by decide +kernel
