theorem d_Law_law_441 : decode b_Law_law 441 = .ok (.istore 6, 2) := by decide +kernel
theorem d_Law_law_443 : decode b_Law_law 443 = .ok (.aload_n 2, 1) := by decide +kernel
theorem d_Law_law_444 : decode b_Law_law 444 = .ok (.invokevirtual 60, 3) := by decide +kernel
theorem d_Law_law_447 : decode b_Law_law 447 = .ok (.iload 5, 2) := by decide +kernel
theorem d_Law_law_449 : decode b_Law_law 449 = .ok (.if_icmp .eq (5), 3) := by decide +kernel
theorem d_Law_law_452 : decode b_Law_law 452 = .ok (.iconst (0), 1) := by decide +kernel
theorem d_Law_law_453 : decode b_Law_law 453 = .ok (.ireturn, 1) := by decide +kernel
theorem d_Law_law_454 : decode b_Law_law 454 = .ok (.iload 5, 2) := by decide +kernel
theorem d_Law_law_456 : decode b_Law_law 456 = .ok (.ifCond .ne (15), 3) := by decide +kernel
theorem d_Law_law_459 : decode b_Law_law 459 = .ok (.aload_n 3, 1) := by decide +kernel
theorem d_Law_law_460 : decode b_Law_law 460 = .ok (.iconst (0), 1) := by decide +kernel
theorem d_Law_law_461 : decode b_Law_law 461 = .ok (.laload, 1) := by decide +kernel
theorem d_Law_law_462 : decode b_Law_law 462 = .ok (.iload 6, 2) := by decide +kernel
theorem d_Law_law_464 : decode b_Law_law 464 = .ok (.i2l, 1) := by decide +kernel
theorem d_Law_law_465 : decode b_Law_law 465 = .ok (.lcmp, 1) := by decide +kernel
theorem d_Law_law_466 : decode b_Law_law 466 = .ok (.ifCond .eq (5), 3) := by decide +kernel
theorem d_Law_law_469 : decode b_Law_law 469 = .ok (.iconst (0), 1) := by decide +kernel
theorem d_Law_law_470 : decode b_Law_law 470 = .ok (.ireturn, 1) := by decide +kernel
theorem d_Law_law_471 : decode b_Law_law 471 = .ok (.goto (312), 3) := by decide +kernel
theorem d_Law_law_474 : decode b_Law_law 474 = .ok (.aload_n 1, 1) := by decide +kernel
theorem d_Law_law_475 : decode b_Law_law 475 = .ok (.aload_n 0, 1) := by decide +kernel
theorem d_Law_law_476 : decode b_Law_law 476 = .ok (.iload 4, 2) := by decide +kernel
theorem d_Law_law_478 : decode b_Law_law 478 = .ok (.iconst (1), 1) := by decide +kernel
theorem d_Law_law_479 : decode b_Law_law 479 = .ok (.iadd, 1) := by decide +kernel
theorem d_Law_law_480 : decode b_Law_law 480 = .ok (.iaload, 1) := by decide +kernel
theorem d_Law_law_481 : decode b_Law_law 481 = .ok (.aload_n 3, 1) := by decide +kernel
theorem d_Law_law_482 : decode b_Law_law 482 = .ok (.invokestatic 95, 3) := by decide +kernel
theorem d_Law_law_485 : decode b_Law_law 485 = .ok (.istore 5, 2) := by decide +kernel
theorem d_Law_law_487 : decode b_Law_law 487 = .ok (.aload_n 2, 1) := by decide +kernel
theorem d_Law_law_488 : decode b_Law_law 488 = .ok (.aload_n 0, 1) := by decide +kernel
theorem d_Law_law_489 : decode b_Law_law 489 = .ok (.iload 4, 2) := by decide +kernel
theorem d_Law_law_491 : decode b_Law_law 491 = .ok (.iconst (1), 1) := by decide +kernel
theorem d_Law_law_492 : decode b_Law_law 492 = .ok (.iadd, 1) := by decide +kernel
theorem d_Law_law_493 : decode b_Law_law 493 = .ok (.iaload, 1) := by decide +kernel
theorem d_Law_law_494 : decode b_Law_law 494 = .ok (.invokevirtual 97, 3) := by decide +kernel
theorem d_Law_law_497 : decode b_Law_law 497 = .ok (.istore 6, 2) := by decide +kernel
theorem d_Law_law_499 : decode b_Law_law 499 = .ok (.aload_n 2, 1) := by decide +kernel
theorem d_Law_law_500 : decode b_Law_law 500 = .ok (.invokevirtual 60, 3) := by decide +kernel
theorem d_Law_law_503 : decode b_Law_law 503 = .ok (.iload 5, 2) := by decide +kernel
theorem d_Law_law_505 : decode b_Law_law 505 = .ok (.if_icmp .eq (5), 3) := by decide +kernel
theorem d_Law_law_508 : decode b_Law_law 508 = .ok (.iconst (0), 1) := by decide +kernel
theorem d_Law_law_509 : decode b_Law_law 509 = .ok (.ireturn, 1) := by decide +kernel
theorem d_Law_law_510 : decode b_Law_law 510 = .ok (.iload 5, 2) := by decide +kernel
theorem d_Law_law_512 : decode b_Law_law 512 = .ok (.ifCond .ne (15), 3) := by decide +kernel
theorem d_Law_law_515 : decode b_Law_law 515 = .ok (.aload_n 3, 1) := by decide +kernel
theorem d_Law_law_516 : decode b_Law_law 516 = .ok (.iconst (0), 1) := by decide +kernel
theorem d_Law_law_517 : decode b_Law_law 517 = .ok (.laload, 1) := by decide +kernel
theorem d_Law_law_518 : decode b_Law_law 518 = .ok (.iload 6, 2) := by decide +kernel
theorem d_Law_law_520 : decode b_Law_law 520 = .ok (.i2l, 1) := by decide +kernel
theorem d_Law_law_521 : decode b_Law_law 521 = .ok (.lcmp, 1) := by decide +kernel
theorem d_Law_law_522 : decode b_Law_law 522 = .ok (.ifCond .eq (5), 3) := by decide +kernel
theorem d_Law_law_525 : decode b_Law_law 525 = .ok (.iconst (0), 1) := by decide +kernel
theorem d_Law_law_526 : decode b_Law_law 526 = .ok (.ireturn, 1) := by decide +kernel
theorem d_Law_law_527 : decode b_Law_law 527 = .ok (.goto (256), 3) := by decide +kernel
theorem d_Law_law_530 : decode b_Law_law 530 = .ok (.aload_n 1, 1) := by decide +kernel
theorem d_Law_law_531 : decode b_Law_law 531 = .ok (.invokevirtual 98, 3) := by decide +kernel
theorem d_Law_law_534 : decode b_Law_law 534 = .ok (.aload_n 2, 1) := by decide +kernel
theorem d_Law_law_535 : decode b_Law_law 535 = .ok (.invokevirtual 101, 3) := by decide +kernel
theorem d_Law_law_538 : decode b_Law_law 538 = .ok (.if_icmp .eq (245), 3) := by decide +kernel
theorem d_Law_law_541 : decode b_Law_law 541 = .ok (.iconst (0), 1) := by decide +kernel
theorem d_Law_law_542 : decode b_Law_law 542 = .ok (.ireturn, 1) := by decide +kernel
theorem d_Law_law_543 : decode b_Law_law 543 = .ok (.aload_n 1, 1) := by decide +kernel
theorem d_Law_law_544 : decode b_Law_law 544 = .ok (.aload_n 0, 1) := by decide +kernel
theorem d_Law_law_545 : decode b_Law_law 545 = .ok (.iload 4, 2) := by decide +kernel
theorem d_Law_law_547 : decode b_Law_law 547 = .ok (.iconst (1), 1) := by decide +kernel
theorem d_Law_law_548 : decode b_Law_law 548 = .ok (.iadd, 1) := by decide +kernel
theorem d_Law_law_549 : decode b_Law_law 549 = .ok (.iaload, 1) := by decide +kernel
theorem d_Law_law_550 : decode b_Law_law 550 = .ok (.aload_n 3, 1) := by decide +kernel
theorem d_Law_law_551 : decode b_Law_law 551 = .ok (.invokestatic 102, 3) := by decide +kernel
theorem d_Law_law_554 : decode b_Law_law 554 = .ok (.istore 5, 2) := by decide +kernel
theorem d_Law_law_556 : decode b_Law_law 556 = .ok (.aload_n 2, 1) := by decide +kernel
theorem d_Law_law_557 : decode b_Law_law 557 = .ok (.aload_n 0, 1) := by decide +kernel
theorem d_Law_law_558 : decode b_Law_law 558 = .ok (.iload 4, 2) := by decide +kernel
theorem d_Law_law_560 : decode b_Law_law 560 = .ok (.iconst (1), 1) := by decide +kernel
theorem d_Law_law_561 : decode b_Law_law 561 = .ok (.iadd, 1) := by decide +kernel
theorem d_Law_law_562 : decode b_Law_law 562 = .ok (.iaload, 1) := by decide +kernel
theorem d_Law_law_563 : decode b_Law_law 563 = .ok (.invokevirtual 104, 3) := by decide +kernel
theorem d_Law_law_566 : decode b_Law_law 566 = .ok (.istore 6, 2) := by decide +kernel
theorem d_Law_law_568 : decode b_Law_law 568 = .ok (.aload_n 2, 1) := by decide +kernel
theorem d_Law_law_569 : decode b_Law_law 569 = .ok (.invokevirtual 60, 3) := by decide +kernel
theorem d_Law_law_572 : decode b_Law_law 572 = .ok (.iload 5, 2) := by decide +kernel
theorem d_Law_law_574 : decode b_Law_law 574 = .ok (.if_icmp .eq (5), 3) := by decide +kernel
theorem d_Law_law_577 : decode b_Law_law 577 = .ok (.iconst (0), 1) := by decide +kernel
theorem d_Law_law_578 : decode b_Law_law 578 = .ok (.ireturn, 1) := by decide +kernel
theorem d_Law_law_579 : decode b_Law_law 579 = .ok (.iload 5, 2) := by decide +kernel
theorem d_Law_law_581 : decode b_Law_law 581 = .ok (.ifCond .ne (15), 3) := by decide +kernel
theorem d_Law_law_584 : decode b_Law_law 584 = .ok (.aload_n 3, 1) := by decide +kernel
theorem d_Law_law_585 : decode b_Law_law 585 = .ok (.iconst (0), 1) := by decide +kernel
theorem d_Law_law_586 : decode b_Law_law 586 = .ok (.laload, 1) := by decide +kernel
theorem d_Law_law_587 : decode b_Law_law 587 = .ok (.iload 6, 2) := by decide +kernel
theorem d_Law_law_589 : decode b_Law_law 589 = .ok (.i2l, 1) := by decide +kernel
theorem d_Law_law_590 : decode b_Law_law 590 = .ok (.lcmp, 1) := by decide +kernel
theorem d_Law_law_591 : decode b_Law_law 591 = .ok (.ifCond .eq (5), 3) := by decide +kernel
theorem d_Law_law_594 : decode b_Law_law 594 = .ok (.iconst (0), 1) := by decide +kernel
theorem d_Law_law_595 : decode b_Law_law 595 = .ok (.ireturn, 1) := by decide +kernel
theorem d_Law_law_596 : decode b_Law_law 596 = .ok (.goto (187), 3) := by decide +kernel
theorem d_Law_law_599 : decode b_Law_law 599 = .ok (.aload_n 1, 1) := by decide +kernel
theorem d_Law_law_600 : decode b_Law_law 600 = .ok (.aload_n 0, 1) := by decide +kernel
theorem d_Law_law_601 : decode b_Law_law 601 = .ok (.iload 4, 2) := by decide +kernel
theorem d_Law_law_603 : decode b_Law_law 603 = .ok (.iconst (1), 1) := by decide +kernel
theorem d_Law_law_604 : decode b_Law_law 604 = .ok (.iadd, 1) := by decide +kernel
theorem d_Law_law_605 : decode b_Law_law 605 = .ok (.iaload, 1) := by decide +kernel
theorem d_Law_law_606 : decode b_Law_law 606 = .ok (.aload_n 0, 1) := by decide +kernel
theorem d_Law_law_607 : decode b_Law_law 607 = .ok (.iload 4, 2) := by decide +kernel
theorem d_Law_law_609 : decode b_Law_law 609 = .ok (.iconst (2), 1) := by decide +kernel
theorem d_Law_law_610 : decode b_Law_law 610 = .ok (.iadd, 1) := by decide +kernel
theorem d_Law_law_611 : decode b_Law_law 611 = .ok (.iaload, 1) := by decide +kernel
theorem d_Law_law_612 : decode b_Law_law 612 = .ok (.invokestatic 105, 3) := by decide +kernel
theorem d_Law_law_615 : decode b_Law_law 615 = .ok (.istore 5, 2) := by decide +kernel
theorem d_Law_law_617 : decode b_Law_law 617 = .ok (.aload_n 2, 1) := by decide +kernel
theorem d_Law_law_618 : decode b_Law_law 618 = .ok (.aload_n 0, 1) := by decide +kernel
theorem d_Law_law_619 : decode b_Law_law 619 = .ok (.iload 4, 2) := by decide +kernel
theorem d_Law_law_621 : decode b_Law_law 621 = .ok (.iconst (1), 1) := by decide +kernel
theorem d_Law_law_622 : decode b_Law_law 622 = .ok (.iadd, 1) := by decide +kernel
theorem d_Law_law_623 : decode b_Law_law 623 = .ok (.iaload, 1) := by decide +kernel
theorem d_Law_law_624 : decode b_Law_law 624 = .ok (.aload_n 0, 1) := by decide +kernel
theorem d_Law_law_625 : decode b_Law_law 625 = .ok (.iload 4, 2) := by decide +kernel
theorem d_Law_law_627 : decode b_Law_law 627 = .ok (.iconst (2), 1) := by decide +kernel
theorem d_Law_law_628 : decode b_Law_law 628 = .ok (.iadd, 1) := by decide +kernel
theorem d_Law_law_629 : decode b_Law_law 629 = .ok (.iaload, 1) := by decide +kernel
theorem d_Law_law_630 : decode b_Law_law 630 = .ok (.invokevirtual 107, 3) := by decide +kernel
theorem d_Law_law_633 : decode b_Law_law 633 = .ok (.aload_n 2, 1) := by decide +kernel
theorem d_Law_law_634 : decode b_Law_law 634 = .ok (.invokevirtual 60, 3) := by decide +kernel
theorem d_Law_law_637 : decode b_Law_law 637 = .ok (.iload 5, 2) := by decide +kernel
theorem d_Law_law_639 : decode b_Law_law 639 = .ok (.if_icmp .eq (5), 3) := by decide +kernel
theorem d_Law_law_642 : decode b_Law_law 642 = .ok (.iconst (0), 1) := by decide +kernel
theorem d_Law_law_643 : decode b_Law_law 643 = .ok (.ireturn, 1) := by decide +kernel
theorem d_Law_law_644 : decode b_Law_law 644 = .ok (.goto (139), 3) := by decide +kernel
theorem d_Law_law_647 : decode b_Law_law 647 = .ok (.aload_n 1, 1) := by decide +kernel
theorem d_Law_law_648 : decode b_Law_law 648 = .ok (.aload_n 0, 1) := by decide +kernel
theorem d_Law_law_649 : decode b_Law_law 649 = .ok (.iload 4, 2) := by decide +kernel
theorem d_Law_law_651 : decode b_Law_law 651 = .ok (.iconst (1), 1) := by decide +kernel
theorem d_Law_law_652 : decode b_Law_law 652 = .ok (.iadd, 1) := by decide +kernel
theorem d_Law_law_653 : decode b_Law_law 653 = .ok (.iaload, 1) := by decide +kernel
theorem d_Law_law_654 : decode b_Law_law 654 = .ok (.i2l, 1) := by decide +kernel
theorem d_Law_law_655 : decode b_Law_law 655 = .ok (.bipush (32), 2) := by decide +kernel
theorem d_Law_law_657 : decode b_Law_law 657 = .ok (.lshl, 1) := by decide +kernel
theorem d_Law_law_658 : decode b_Law_law 658 = .ok (.aload_n 0, 1) := by decide +kernel
theorem d_Law_law_659 : decode b_Law_law 659 = .ok (.iload 4, 2) := by decide +kernel
theorem d_Law_law_661 : decode b_Law_law 661 = .ok (.iconst (2), 1) := by decide +kernel
theorem d_Law_law_662 : decode b_Law_law 662 = .ok (.iadd, 1) := by decide +kernel
theorem d_Law_law_663 : decode b_Law_law 663 = .ok (.iaload, 1) := by decide +kernel
theorem d_Law_law_664 : decode b_Law_law 664 = .ok (.i2l, 1) := by decide +kernel
theorem d_Law_law_665 : decode b_Law_law 665 = .ok (.ldc2_w 108, 3) := by decide +kernel
theorem d_Law_law_668 : decode b_Law_law 668 = .ok (.land, 1) := by decide +kernel
theorem d_Law_law_669 : decode b_Law_law 669 = .ok (.lor, 1) := by decide +kernel
theorem d_Law_law_670 : decode b_Law_law 670 = .ok (.aload_n 0, 1) := by decide +kernel
theorem d_Law_law_671 : decode b_Law_law 671 = .ok (.iload 4, 2) := by decide +kernel
theorem d_Law_law_673 : decode b_Law_law 673 = .ok (.iconst (3), 1) := by decide +kernel
theorem d_Law_law_674 : decode b_Law_law 674 = .ok (.iadd, 1) := by decide +kernel
theorem d_Law_law_675 : decode b_Law_law 675 = .ok (.iaload, 1) := by decide +kernel
theorem d_Law_law_676 : decode b_Law_law 676 = .ok (.aload_n 3, 1) := by decide +kernel
theorem d_Law_law_677 : decode b_Law_law 677 = .ok (.invokestatic 110, 3) := by decide +kernel
theorem d_Law_law_680 : decode b_Law_law 680 = .ok (.istore 5, 2) := by decide +kernel
theorem d_Law_law_682 : decode b_Law_law 682 = .ok (.aload_n 2, 1) := by decide +kernel
theorem d_Law_law_683 : decode b_Law_law 683 = .ok (.aload_n 0, 1) := by decide +kernel
theorem d_Law_law_684 : decode b_Law_law 684 = .ok (.iload 4, 2) := by decide +kernel
theorem d_Law_law_686 : decode b_Law_law 686 = .ok (.iconst (1), 1) := by decide +kernel
theorem d_Law_law_687 : decode b_Law_law 687 = .ok (.iadd, 1) := by decide +kernel
theorem d_Law_law_688 : decode b_Law_law 688 = .ok (.iaload, 1) := by decide +kernel
theorem d_Law_law_689 : decode b_Law_law 689 = .ok (.i2l, 1) := by decide +kernel
theorem d_Law_law_690 : decode b_Law_law 690 = .ok (.bipush (32), 2) := by decide +kernel
theorem d_Law_law_692 : decode b_Law_law 692 = .ok (.lshl, 1) := by decide +kernel
theorem d_Law_law_693 : decode b_Law_law 693 = .ok (.aload_n 0, 1) := by decide +kernel
theorem d_Law_law_694 : decode b_Law_law 694 = .ok (.iload 4, 2) := by decide +kernel
theorem d_Law_law_696 : decode b_Law_law 696 = .ok (.iconst (2), 1) := by decide +kernel
theorem d_Law_law_697 : decode b_Law_law 697 = .ok (.iadd, 1) := by decide +kernel
theorem d_Law_law_698 : decode b_Law_law 698 = .ok (.iaload, 1) := by decide +kernel
theorem d_Law_law_699 : decode b_Law_law 699 = .ok (.i2l, 1) := by decide +kernel
theorem d_Law_law_700 : decode b_Law_law 700 = .ok (.ldc2_w 108, 3) := by decide +kernel
theorem d_Law_law_703 : decode b_Law_law 703 = .ok (.land, 1) := by decide +kernel
theorem d_Law_law_704 : decode b_Law_law 704 = .ok (.lor, 1) := by decide +kernel
theorem d_Law_law_705 : decode b_Law_law 705 = .ok (.aload_n 0, 1) := by decide +kernel
theorem d_Law_law_706 : decode b_Law_law 706 = .ok (.iload 4, 2) := by decide +kernel
theorem d_Law_law_708 : decode b_Law_law 708 = .ok (.iconst (3), 1) := by decide +kernel
theorem d_Law_law_709 : decode b_Law_law 709 = .ok (.iadd, 1) := by decide +kernel
theorem d_Law_law_710 : decode b_Law_law 710 = .ok (.iaload, 1) := by decide +kernel
theorem d_Law_law_711 : decode b_Law_law 711 = .ok (.invokevirtual 113, 3) := by decide +kernel
theorem d_Law_law_714 : decode b_Law_law 714 = .ok (.istore 6, 2) := by decide +kernel
theorem d_Law_law_716 : decode b_Law_law 716 = .ok (.aload_n 2, 1) := by decide +kernel
theorem d_Law_law_717 : decode b_Law_law 717 = .ok (.invokevirtual 60, 3) := by decide +kernel
theorem d_Law_law_720 : decode b_Law_law 720 = .ok (.iload 5, 2) := by decide +kernel
theorem d_Law_law_722 : decode b_Law_law 722 = .ok (.if_icmp .eq (5), 3) := by decide +kernel
theorem d_Law_law_725 : decode b_Law_law 725 = .ok (.iconst (0), 1) := by decide +kernel
theorem d_Law_law_726 : decode b_Law_law 726 = .ok (.ireturn, 1) := by decide +kernel
theorem d_Law_law_727 : decode b_Law_law 727 = .ok (.iload 5, 2) := by decide +kernel
theorem d_Law_law_729 : decode b_Law_law 729 = .ok (.ifCond .ne (15), 3) := by decide +kernel
theorem d_Law_law_732 : decode b_Law_law 732 = .ok (.aload_n 3, 1) := by decide +kernel
theorem d_Law_law_733 : decode b_Law_law 733 = .ok (.iconst (0), 1) := by decide +kernel
theorem d_Law_law_734 : decode b_Law_law 734 = .ok (.laload, 1) := by decide +kernel
theorem d_Law_law_735 : decode b_Law_law 735 = .ok (.iload 6, 2) := by decide +kernel
theorem d_Law_law_737 : decode b_Law_law 737 = .ok (.i2l, 1) := by decide +kernel
theorem d_Law_law_738 : decode b_Law_law 738 = .ok (.lcmp, 1) := by decide +kernel
theorem d_Law_law_739 : decode b_Law_law 739 = .ok (.ifCond .eq (5), 3) := by decide +kernel
theorem d_Law_law_742 : decode b_Law_law 742 = .ok (.iconst (0), 1) := by decide +kernel
theorem d_Law_law_743 : decode b_Law_law 743 = .ok (.ireturn, 1) := by decide +kernel
theorem d_Law_law_744 : decode b_Law_law 744 = .ok (.goto (39), 3) := by decide +kernel
theorem d_Law_law_747 : decode b_Law_law 747 = .ok (.aload_n 1, 1) := by decide +kernel
theorem d_Law_law_748 : decode b_Law_law 748 = .ok (.aload_n 0, 1) := by decide +kernel
theorem d_Law_law_749 : decode b_Law_law 749 = .ok (.iload 4, 2) := by decide +kernel
theorem d_Law_law_751 : decode b_Law_law 751 = .ok (.iconst (1), 1) := by decide +kernel
theorem d_Law_law_752 : decode b_Law_law 752 = .ok (.iadd, 1) := by decide +kernel
theorem d_Law_law_753 : decode b_Law_law 753 = .ok (.iaload, 1) := by decide +kernel
theorem d_Law_law_754 : decode b_Law_law 754 = .ok (.invokestatic 114, 3) := by decide +kernel
theorem d_Law_law_757 : decode b_Law_law 757 = .ok (.istore 5, 2) := by decide +kernel
theorem d_Law_law_759 : decode b_Law_law 759 = .ok (.aload_n 2, 1) := by decide +kernel
theorem d_Law_law_760 : decode b_Law_law 760 = .ok (.aload_n 0, 1) := by decide +kernel
theorem d_Law_law_761 : decode b_Law_law 761 = .ok (.iload 4, 2) := by decide +kernel
theorem d_Law_law_763 : decode b_Law_law 763 = .ok (.iconst (1), 1) := by decide +kernel
theorem d_Law_law_764 : decode b_Law_law 764 = .ok (.iadd, 1) := by decide +kernel
theorem d_Law_law_765 : decode b_Law_law 765 = .ok (.iaload, 1) := by decide +kernel
theorem d_Law_law_766 : decode b_Law_law 766 = .ok (.invokevirtual 117, 3) := by decide +kernel
theorem d_Law_law_769 : decode b_Law_law 769 = .ok (.aload_n 2, 1) := by decide +kernel
theorem d_Law_law_770 : decode b_Law_law 770 = .ok (.invokevirtual 60, 3) := by decide +kernel
theorem d_Law_law_773 : decode b_Law_law 773 = .ok (.iload 5, 2) := by decide +kernel
theorem d_Law_law_775 : decode b_Law_law 775 = .ok (.if_icmp .eq (5), 3) := by decide +kernel
theorem d_Law_law_778 : decode b_Law_law 778 = .ok (.iconst (0), 1) := by decide +kernel
theorem d_Law_law_779 : decode b_Law_law 779 = .ok (.ireturn, 1) := by decide +kernel
theorem d_Law_law_780 : decode b_Law_law 780 = .ok (.goto (3), 3) := by decide +kernel
theorem d_Law_law_783 : decode b_Law_law 783 = .ok (.iinc 4 (4), 3) := by decide +kernel
theorem d_Law_law_786 : decode b_Law_law 786 = .ok (.goto (-763), 3) := by decide +kernel
theorem d_Law_law_789 : decode b_Law_law 789 = .ok (.iconst (1), 1) := by decide +kernel
theorem d_Law_law_790 : decode b_Law_law 790 = .ok (.ireturn, 1) := by decide +kernel
theorem d_Law_law_39 : decode b_Law_law 39 = .ok (.tableswitch 744 0 14 #[73, 121, 201, 249, 286, 299, 312, 323, 379, 435, 491, 504, 560, 608, 708], 73) := by decide +kernel
