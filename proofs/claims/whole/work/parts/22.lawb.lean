theorem d_LC_428 : decode code 428 = .ok (.iconst 1, 1) := by decide +kernel
theorem d_LC_429 : decode code 429 = .ok (.iadd, 1) := by decide +kernel
theorem d_LC_430 : decode code 430 = .ok (.iaload, 1) := by decide +kernel
theorem d_LC_431 : decode code 431 = .ok (.aload_n 0, 1) := by decide +kernel
theorem d_LC_432 : decode code 432 = .ok (.iload 4, 2) := by decide +kernel
theorem d_LC_434 : decode code 434 = .ok (.iconst 2, 1) := by decide +kernel
theorem d_LC_435 : decode code 435 = .ok (.iadd, 1) := by decide +kernel
theorem d_LC_436 : decode code 436 = .ok (.iaload, 1) := by decide +kernel
theorem d_LC_437 : decode code 437 = .ok (.aload_n 3, 1) := by decide +kernel
theorem d_LC_438 : decode code 438 = .ok (.invokestatic 98, 3) := by decide +kernel
theorem d_LC_441 : decode code 441 = .ok (.istore 5, 2) := by decide +kernel
theorem d_LC_443 : decode code 443 = .ok (.aload_n 2, 1) := by decide +kernel
theorem d_LC_444 : decode code 444 = .ok (.aload_n 0, 1) := by decide +kernel
theorem d_LC_445 : decode code 445 = .ok (.iload 4, 2) := by decide +kernel
theorem d_LC_447 : decode code 447 = .ok (.iconst 1, 1) := by decide +kernel
theorem d_LC_448 : decode code 448 = .ok (.iadd, 1) := by decide +kernel
theorem d_LC_449 : decode code 449 = .ok (.iaload, 1) := by decide +kernel
theorem d_LC_450 : decode code 450 = .ok (.aload_n 0, 1) := by decide +kernel
theorem d_LC_451 : decode code 451 = .ok (.iload 4, 2) := by decide +kernel
theorem d_LC_453 : decode code 453 = .ok (.iconst 2, 1) := by decide +kernel
theorem d_LC_454 : decode code 454 = .ok (.iadd, 1) := by decide +kernel
theorem d_LC_455 : decode code 455 = .ok (.iaload, 1) := by decide +kernel
theorem d_LC_456 : decode code 456 = .ok (.invokevirtual 101, 3) := by decide +kernel
theorem d_LC_459 : decode code 459 = .ok (.istore 6, 2) := by decide +kernel
theorem d_LC_461 : decode code 461 = .ok (.aload_n 2, 1) := by decide +kernel
theorem d_LC_462 : decode code 462 = .ok (.invokevirtual 84, 3) := by decide +kernel
theorem d_LC_465 : decode code 465 = .ok (.iload 5, 2) := by decide +kernel
theorem d_LC_467 : decode code 467 = .ok (.if_icmp .eq 5, 3) := by decide +kernel
theorem d_LC_470 : decode code 470 = .ok (.iconst 0, 1) := by decide +kernel
theorem d_LC_471 : decode code 471 = .ok (.ireturn, 1) := by decide +kernel
theorem d_LC_472 : decode code 472 = .ok (.iload 5, 2) := by decide +kernel
theorem d_LC_474 : decode code 474 = .ok (.ifCond .ne 15, 3) := by decide +kernel
theorem d_LC_477 : decode code 477 = .ok (.aload_n 3, 1) := by decide +kernel
theorem d_LC_478 : decode code 478 = .ok (.iconst 0, 1) := by decide +kernel
theorem d_LC_479 : decode code 479 = .ok (.laload, 1) := by decide +kernel
theorem d_LC_480 : decode code 480 = .ok (.iload 6, 2) := by decide +kernel
theorem d_LC_482 : decode code 482 = .ok (.i2l, 1) := by decide +kernel
theorem d_LC_483 : decode code 483 = .ok (.lcmp, 1) := by decide +kernel
theorem d_LC_484 : decode code 484 = .ok (.ifCond .eq 5, 3) := by decide +kernel
theorem d_LC_487 : decode code 487 = .ok (.iconst 0, 1) := by decide +kernel
theorem d_LC_488 : decode code 488 = .ok (.ireturn, 1) := by decide +kernel
theorem d_LC_489 : decode code 489 = .ok (.goto 655, 3) := by decide +kernel
theorem d_LC_492 : decode code 492 = .ok (.aload_n 1, 1) := by decide +kernel
theorem d_LC_493 : decode code 493 = .ok (.aload_n 0, 1) := by decide +kernel
theorem d_LC_494 : decode code 494 = .ok (.iload 4, 2) := by decide +kernel
theorem d_LC_496 : decode code 496 = .ok (.iconst 1, 1) := by decide +kernel
theorem d_LC_497 : decode code 497 = .ok (.iadd, 1) := by decide +kernel
theorem d_LC_498 : decode code 498 = .ok (.iaload, 1) := by decide +kernel
theorem d_LC_499 : decode code 499 = .ok (.aload_n 0, 1) := by decide +kernel
theorem d_LC_500 : decode code 500 = .ok (.iload 4, 2) := by decide +kernel
theorem d_LC_502 : decode code 502 = .ok (.iconst 2, 1) := by decide +kernel
theorem d_LC_503 : decode code 503 = .ok (.iadd, 1) := by decide +kernel
theorem d_LC_504 : decode code 504 = .ok (.iaload, 1) := by decide +kernel
theorem d_LC_505 : decode code 505 = .ok (.aload_n 3, 1) := by decide +kernel
theorem d_LC_506 : decode code 506 = .ok (.invokestatic 102, 3) := by decide +kernel
theorem d_LC_509 : decode code 509 = .ok (.istore 5, 2) := by decide +kernel
theorem d_LC_511 : decode code 511 = .ok (.aload_n 2, 1) := by decide +kernel
theorem d_LC_512 : decode code 512 = .ok (.aload_n 0, 1) := by decide +kernel
theorem d_LC_513 : decode code 513 = .ok (.iload 4, 2) := by decide +kernel
theorem d_LC_515 : decode code 515 = .ok (.iconst 1, 1) := by decide +kernel
theorem d_LC_516 : decode code 516 = .ok (.iadd, 1) := by decide +kernel
theorem d_LC_517 : decode code 517 = .ok (.iaload, 1) := by decide +kernel
theorem d_LC_518 : decode code 518 = .ok (.aload_n 0, 1) := by decide +kernel
theorem d_LC_519 : decode code 519 = .ok (.iload 4, 2) := by decide +kernel
theorem d_LC_521 : decode code 521 = .ok (.iconst 2, 1) := by decide +kernel
theorem d_LC_522 : decode code 522 = .ok (.iadd, 1) := by decide +kernel
theorem d_LC_523 : decode code 523 = .ok (.iaload, 1) := by decide +kernel
theorem d_LC_524 : decode code 524 = .ok (.invokevirtual 104, 3) := by decide +kernel
theorem d_LC_527 : decode code 527 = .ok (.istore 6, 2) := by decide +kernel
theorem d_LC_529 : decode code 529 = .ok (.aload_n 2, 1) := by decide +kernel
theorem d_LC_530 : decode code 530 = .ok (.invokevirtual 84, 3) := by decide +kernel
theorem d_LC_533 : decode code 533 = .ok (.iload 5, 2) := by decide +kernel
theorem d_LC_535 : decode code 535 = .ok (.if_icmp .eq 5, 3) := by decide +kernel
theorem d_LC_538 : decode code 538 = .ok (.iconst 0, 1) := by decide +kernel
theorem d_LC_539 : decode code 539 = .ok (.ireturn, 1) := by decide +kernel
theorem d_LC_540 : decode code 540 = .ok (.iload 5, 2) := by decide +kernel
theorem d_LC_542 : decode code 542 = .ok (.ifCond .ne 15, 3) := by decide +kernel
theorem d_LC_545 : decode code 545 = .ok (.aload_n 3, 1) := by decide +kernel
theorem d_LC_546 : decode code 546 = .ok (.iconst 0, 1) := by decide +kernel
theorem d_LC_547 : decode code 547 = .ok (.laload, 1) := by decide +kernel
theorem d_LC_548 : decode code 548 = .ok (.iload 6, 2) := by decide +kernel
theorem d_LC_550 : decode code 550 = .ok (.i2l, 1) := by decide +kernel
theorem d_LC_551 : decode code 551 = .ok (.lcmp, 1) := by decide +kernel
theorem d_LC_552 : decode code 552 = .ok (.ifCond .eq 5, 3) := by decide +kernel
theorem d_LC_555 : decode code 555 = .ok (.iconst 0, 1) := by decide +kernel
theorem d_LC_556 : decode code 556 = .ok (.ireturn, 1) := by decide +kernel
theorem d_LC_557 : decode code 557 = .ok (.goto 587, 3) := by decide +kernel
theorem d_LC_560 : decode code 560 = .ok (.aload_n 1, 1) := by decide +kernel
theorem d_LC_561 : decode code 561 = .ok (.aload_n 3, 1) := by decide +kernel
theorem d_LC_562 : decode code 562 = .ok (.invokestatic 105, 3) := by decide +kernel
theorem d_LC_565 : decode code 565 = .ok (.istore 5, 2) := by decide +kernel
theorem d_LC_567 : decode code 567 = .ok (.aload_n 2, 1) := by decide +kernel
theorem d_LC_568 : decode code 568 = .ok (.invokevirtual 108, 3) := by decide +kernel
theorem d_LC_571 : decode code 571 = .ok (.istore 6, 2) := by decide +kernel
theorem d_LC_573 : decode code 573 = .ok (.aload_n 2, 1) := by decide +kernel
theorem d_LC_574 : decode code 574 = .ok (.invokevirtual 84, 3) := by decide +kernel
theorem d_LC_577 : decode code 577 = .ok (.iload 5, 2) := by decide +kernel
theorem d_LC_579 : decode code 579 = .ok (.if_icmp .eq 5, 3) := by decide +kernel
theorem d_LC_582 : decode code 582 = .ok (.iconst 0, 1) := by decide +kernel
theorem d_LC_583 : decode code 583 = .ok (.ireturn, 1) := by decide +kernel
theorem d_LC_584 : decode code 584 = .ok (.iload 5, 2) := by decide +kernel
theorem d_LC_586 : decode code 586 = .ok (.ifCond .ne 15, 3) := by decide +kernel
theorem d_LC_589 : decode code 589 = .ok (.aload_n 3, 1) := by decide +kernel
theorem d_LC_590 : decode code 590 = .ok (.iconst 0, 1) := by decide +kernel
theorem d_LC_591 : decode code 591 = .ok (.laload, 1) := by decide +kernel
theorem d_LC_592 : decode code 592 = .ok (.iload 6, 2) := by decide +kernel
theorem d_LC_594 : decode code 594 = .ok (.i2l, 1) := by decide +kernel
theorem d_LC_595 : decode code 595 = .ok (.lcmp, 1) := by decide +kernel
theorem d_LC_596 : decode code 596 = .ok (.ifCond .eq 5, 3) := by decide +kernel
theorem d_LC_599 : decode code 599 = .ok (.iconst 0, 1) := by decide +kernel
theorem d_LC_600 : decode code 600 = .ok (.ireturn, 1) := by decide +kernel
theorem d_LC_601 : decode code 601 = .ok (.goto 543, 3) := by decide +kernel
theorem d_LC_604 : decode code 604 = .ok (.aload_n 1, 1) := by decide +kernel
theorem d_LC_605 : decode code 605 = .ok (.aload_n 0, 1) := by decide +kernel
theorem d_LC_606 : decode code 606 = .ok (.iload 4, 2) := by decide +kernel
theorem d_LC_608 : decode code 608 = .ok (.iconst 1, 1) := by decide +kernel
theorem d_LC_609 : decode code 609 = .ok (.iadd, 1) := by decide +kernel
theorem d_LC_610 : decode code 610 = .ok (.iaload, 1) := by decide +kernel
theorem d_LC_611 : decode code 611 = .ok (.aload_n 3, 1) := by decide +kernel
theorem d_LC_612 : decode code 612 = .ok (.invokestatic 109, 3) := by decide +kernel
theorem d_LC_615 : decode code 615 = .ok (.istore 5, 2) := by decide +kernel
theorem d_LC_617 : decode code 617 = .ok (.aload_n 2, 1) := by decide +kernel
theorem d_LC_618 : decode code 618 = .ok (.aload_n 0, 1) := by decide +kernel
theorem d_LC_619 : decode code 619 = .ok (.iload 4, 2) := by decide +kernel
theorem d_LC_621 : decode code 621 = .ok (.iconst 1, 1) := by decide +kernel
theorem d_LC_622 : decode code 622 = .ok (.iadd, 1) := by decide +kernel
theorem d_LC_623 : decode code 623 = .ok (.iaload, 1) := by decide +kernel
theorem d_LC_624 : decode code 624 = .ok (.invokevirtual 111, 3) := by decide +kernel
theorem d_LC_627 : decode code 627 = .ok (.istore 6, 2) := by decide +kernel
theorem d_LC_629 : decode code 629 = .ok (.aload_n 2, 1) := by decide +kernel
theorem d_LC_630 : decode code 630 = .ok (.invokevirtual 84, 3) := by decide +kernel
theorem d_LC_633 : decode code 633 = .ok (.iload 5, 2) := by decide +kernel
theorem d_LC_635 : decode code 635 = .ok (.if_icmp .eq 5, 3) := by decide +kernel
theorem d_LC_638 : decode code 638 = .ok (.iconst 0, 1) := by decide +kernel
theorem d_LC_639 : decode code 639 = .ok (.ireturn, 1) := by decide +kernel
theorem d_LC_640 : decode code 640 = .ok (.iload 5, 2) := by decide +kernel
theorem d_LC_642 : decode code 642 = .ok (.ifCond .ne 15, 3) := by decide +kernel
theorem d_LC_645 : decode code 645 = .ok (.aload_n 3, 1) := by decide +kernel
theorem d_LC_646 : decode code 646 = .ok (.iconst 0, 1) := by decide +kernel
theorem d_LC_647 : decode code 647 = .ok (.laload, 1) := by decide +kernel
theorem d_LC_648 : decode code 648 = .ok (.iload 6, 2) := by decide +kernel
theorem d_LC_650 : decode code 650 = .ok (.i2l, 1) := by decide +kernel
theorem d_LC_651 : decode code 651 = .ok (.lcmp, 1) := by decide +kernel
theorem d_LC_652 : decode code 652 = .ok (.ifCond .eq 5, 3) := by decide +kernel
theorem d_LC_655 : decode code 655 = .ok (.iconst 0, 1) := by decide +kernel
theorem d_LC_656 : decode code 656 = .ok (.ireturn, 1) := by decide +kernel
theorem d_LC_657 : decode code 657 = .ok (.goto 487, 3) := by decide +kernel
theorem d_LC_660 : decode code 660 = .ok (.aload_n 1, 1) := by decide +kernel
theorem d_LC_661 : decode code 661 = .ok (.aload_n 0, 1) := by decide +kernel
theorem d_LC_662 : decode code 662 = .ok (.iload 4, 2) := by decide +kernel
theorem d_LC_664 : decode code 664 = .ok (.iconst 1, 1) := by decide +kernel
theorem d_LC_665 : decode code 665 = .ok (.iadd, 1) := by decide +kernel
theorem d_LC_666 : decode code 666 = .ok (.iaload, 1) := by decide +kernel
theorem d_LC_667 : decode code 667 = .ok (.aload_n 3, 1) := by decide +kernel
theorem d_LC_668 : decode code 668 = .ok (.invokestatic 112, 3) := by decide +kernel
theorem d_LC_671 : decode code 671 = .ok (.istore 5, 2) := by decide +kernel
theorem d_LC_673 : decode code 673 = .ok (.aload_n 2, 1) := by decide +kernel
theorem d_LC_674 : decode code 674 = .ok (.aload_n 0, 1) := by decide +kernel
theorem d_LC_675 : decode code 675 = .ok (.iload 4, 2) := by decide +kernel
theorem d_LC_677 : decode code 677 = .ok (.iconst 1, 1) := by decide +kernel
theorem d_LC_678 : decode code 678 = .ok (.iadd, 1) := by decide +kernel
theorem d_LC_679 : decode code 679 = .ok (.iaload, 1) := by decide +kernel
theorem d_LC_680 : decode code 680 = .ok (.invokevirtual 114, 3) := by decide +kernel
theorem d_LC_683 : decode code 683 = .ok (.istore 6, 2) := by decide +kernel
theorem d_LC_685 : decode code 685 = .ok (.aload_n 2, 1) := by decide +kernel
theorem d_LC_686 : decode code 686 = .ok (.invokevirtual 84, 3) := by decide +kernel
theorem d_LC_689 : decode code 689 = .ok (.iload 5, 2) := by decide +kernel
theorem d_LC_691 : decode code 691 = .ok (.if_icmp .eq 5, 3) := by decide +kernel
theorem d_LC_694 : decode code 694 = .ok (.iconst 0, 1) := by decide +kernel
theorem d_LC_695 : decode code 695 = .ok (.ireturn, 1) := by decide +kernel
theorem d_LC_696 : decode code 696 = .ok (.iload 5, 2) := by decide +kernel
theorem d_LC_698 : decode code 698 = .ok (.ifCond .ne 15, 3) := by decide +kernel
theorem d_LC_701 : decode code 701 = .ok (.aload_n 3, 1) := by decide +kernel
theorem d_LC_702 : decode code 702 = .ok (.iconst 0, 1) := by decide +kernel
theorem d_LC_703 : decode code 703 = .ok (.laload, 1) := by decide +kernel
theorem d_LC_704 : decode code 704 = .ok (.iload 6, 2) := by decide +kernel
theorem d_LC_706 : decode code 706 = .ok (.i2l, 1) := by decide +kernel
theorem d_LC_707 : decode code 707 = .ok (.lcmp, 1) := by decide +kernel
theorem d_LC_708 : decode code 708 = .ok (.ifCond .eq 5, 3) := by decide +kernel
theorem d_LC_711 : decode code 711 = .ok (.iconst 0, 1) := by decide +kernel
theorem d_LC_712 : decode code 712 = .ok (.ireturn, 1) := by decide +kernel
theorem d_LC_713 : decode code 713 = .ok (.goto 431, 3) := by decide +kernel
theorem d_LC_716 : decode code 716 = .ok (.aload_n 1, 1) := by decide +kernel
theorem d_LC_717 : decode code 717 = .ok (.aload_n 0, 1) := by decide +kernel
theorem d_LC_718 : decode code 718 = .ok (.iload 4, 2) := by decide +kernel
theorem d_LC_720 : decode code 720 = .ok (.iconst 1, 1) := by decide +kernel
theorem d_LC_721 : decode code 721 = .ok (.iadd, 1) := by decide +kernel
theorem d_LC_722 : decode code 722 = .ok (.iaload, 1) := by decide +kernel
theorem d_LC_723 : decode code 723 = .ok (.aload_n 0, 1) := by decide +kernel
theorem d_LC_724 : decode code 724 = .ok (.iload 4, 2) := by decide +kernel
theorem d_LC_726 : decode code 726 = .ok (.iconst 2, 1) := by decide +kernel
theorem d_LC_727 : decode code 727 = .ok (.iadd, 1) := by decide +kernel
theorem d_LC_728 : decode code 728 = .ok (.iaload, 1) := by decide +kernel
theorem d_LC_729 : decode code 729 = .ok (.aload_n 3, 1) := by decide +kernel
theorem d_LC_730 : decode code 730 = .ok (.invokestatic 115, 3) := by decide +kernel
theorem d_LC_733 : decode code 733 = .ok (.istore 5, 2) := by decide +kernel
theorem d_LC_735 : decode code 735 = .ok (.aload_n 2, 1) := by decide +kernel
theorem d_LC_736 : decode code 736 = .ok (.aload_n 0, 1) := by decide +kernel
theorem d_LC_737 : decode code 737 = .ok (.iload 4, 2) := by decide +kernel
theorem d_LC_739 : decode code 739 = .ok (.iconst 1, 1) := by decide +kernel
theorem d_LC_740 : decode code 740 = .ok (.iadd, 1) := by decide +kernel
theorem d_LC_741 : decode code 741 = .ok (.iaload, 1) := by decide +kernel
theorem d_LC_742 : decode code 742 = .ok (.aload_n 0, 1) := by decide +kernel
theorem d_LC_743 : decode code 743 = .ok (.iload 4, 2) := by decide +kernel
theorem d_LC_745 : decode code 745 = .ok (.iconst 2, 1) := by decide +kernel
theorem d_LC_746 : decode code 746 = .ok (.iadd, 1) := by decide +kernel
theorem d_LC_747 : decode code 747 = .ok (.iaload, 1) := by decide +kernel
theorem d_LC_748 : decode code 748 = .ok (.invokevirtual 117, 3) := by decide +kernel
theorem d_LC_751 : decode code 751 = .ok (.istore 6, 2) := by decide +kernel
theorem d_LC_753 : decode code 753 = .ok (.aload_n 2, 1) := by decide +kernel
theorem d_LC_754 : decode code 754 = .ok (.invokevirtual 84, 3) := by decide +kernel
theorem d_LC_757 : decode code 757 = .ok (.iload 5, 2) := by decide +kernel
theorem d_LC_759 : decode code 759 = .ok (.if_icmp .eq 5, 3) := by decide +kernel
theorem d_LC_762 : decode code 762 = .ok (.iconst 0, 1) := by decide +kernel
theorem d_LC_763 : decode code 763 = .ok (.ireturn, 1) := by decide +kernel
theorem d_LC_764 : decode code 764 = .ok (.iload 5, 2) := by decide +kernel
theorem d_LC_766 : decode code 766 = .ok (.ifCond .ne 15, 3) := by decide +kernel
theorem d_LC_769 : decode code 769 = .ok (.aload_n 3, 1) := by decide +kernel
theorem d_LC_770 : decode code 770 = .ok (.iconst 0, 1) := by decide +kernel
theorem d_LC_771 : decode code 771 = .ok (.laload, 1) := by decide +kernel
theorem d_LC_772 : decode code 772 = .ok (.iload 6, 2) := by decide +kernel
theorem d_LC_774 : decode code 774 = .ok (.i2l, 1) := by decide +kernel
theorem d_LC_775 : decode code 775 = .ok (.lcmp, 1) := by decide +kernel
theorem d_LC_776 : decode code 776 = .ok (.ifCond .eq 5, 3) := by decide +kernel
theorem d_LC_779 : decode code 779 = .ok (.iconst 0, 1) := by decide +kernel
theorem d_LC_780 : decode code 780 = .ok (.ireturn, 1) := by decide +kernel
theorem d_LC_781 : decode code 781 = .ok (.goto 363, 3) := by decide +kernel
theorem d_LC_784 : decode code 784 = .ok (.aload_n 1, 1) := by decide +kernel
theorem d_LC_785 : decode code 785 = .ok (.aload_n 0, 1) := by decide +kernel
theorem d_LC_786 : decode code 786 = .ok (.iload 4, 2) := by decide +kernel
theorem d_LC_788 : decode code 788 = .ok (.iconst 1, 1) := by decide +kernel
theorem d_LC_789 : decode code 789 = .ok (.iadd, 1) := by decide +kernel
theorem d_LC_790 : decode code 790 = .ok (.iaload, 1) := by decide +kernel
theorem d_LC_791 : decode code 791 = .ok (.aload_n 0, 1) := by decide +kernel
