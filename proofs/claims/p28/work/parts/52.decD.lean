theorem dL_toldReel_462 : decode cL_toldReel 462 = .ok (.iload 14, 2) := by decide +kernel
theorem dL_toldReel_464 : decode cL_toldReel 464 = .ok (.aload_n 3, 1) := by decide +kernel
theorem dL_toldReel_465 : decode cL_toldReel 465 = .ok (.iconst 0, 1) := by decide +kernel
theorem dL_toldReel_466 : decode cL_toldReel 466 = .ok (.iaload, 1) := by decide +kernel
theorem dL_toldReel_467 : decode cL_toldReel 467 = .ok (.if_icmp .ge 38, 3) := by decide +kernel
theorem dL_toldReel_470 : decode cL_toldReel 470 = .ok (.aload_n 3, 1) := by decide +kernel
theorem dL_toldReel_471 : decode cL_toldReel 471 = .ok (.iconst 2, 1) := by decide +kernel
theorem dL_toldReel_472 : decode cL_toldReel 472 = .ok (.iconst 4, 1) := by decide +kernel
theorem dL_toldReel_473 : decode cL_toldReel 473 = .ok (.iload 14, 2) := by decide +kernel
theorem dL_toldReel_475 : decode cL_toldReel 475 = .ok (.imul, 1) := by decide +kernel
theorem dL_toldReel_476 : decode cL_toldReel 476 = .ok (.iadd, 1) := by decide +kernel
theorem dL_toldReel_477 : decode cL_toldReel 477 = .ok (.iaload, 1) := by decide +kernel
theorem dL_toldReel_478 : decode cL_toldReel 478 = .ok (.ldc 21, 2) := by decide +kernel
theorem dL_toldReel_480 : decode cL_toldReel 480 = .ok (.if_icmp .eq 15, 3) := by decide +kernel
theorem dL_toldReel_483 : decode cL_toldReel 483 = .ok (.aload 6, 2) := by decide +kernel
theorem dL_toldReel_485 : decode cL_toldReel 485 = .ok (.iconst 2, 1) := by decide +kernel
theorem dL_toldReel_486 : decode cL_toldReel 486 = .ok (.iload 14, 2) := by decide +kernel
theorem dL_toldReel_488 : decode cL_toldReel 488 = .ok (.imul, 1) := by decide +kernel
theorem dL_toldReel_489 : decode cL_toldReel 489 = .ok (.iconst 1, 1) := by decide +kernel
theorem dL_toldReel_490 : decode cL_toldReel 490 = .ok (.iadd, 1) := by decide +kernel
theorem dL_toldReel_491 : decode cL_toldReel 491 = .ok (.iaload, 1) := by decide +kernel
theorem dL_toldReel_492 : decode cL_toldReel 492 = .ok (.goto 5, 3) := by decide +kernel
theorem dL_toldReel_495 : decode cL_toldReel 495 = .ok (.iload 13, 2) := by decide +kernel
theorem dL_toldReel_497 : decode cL_toldReel 497 = .ok (.istore 13, 2) := by decide +kernel
theorem dL_toldReel_499 : decode cL_toldReel 499 = .ok (.iinc 14 1, 3) := by decide +kernel
theorem dL_toldReel_502 : decode cL_toldReel 502 = .ok (.goto (-40), 3) := by decide +kernel
theorem dL_toldReel_505 : decode cL_toldReel 505 = .ok (.aload_n 3, 1) := by decide +kernel
theorem dL_toldReel_506 : decode cL_toldReel 506 = .ok (.aload 6, 2) := by decide +kernel
theorem dL_toldReel_508 : decode cL_toldReel 508 = .ok (.aload 7, 2) := by decide +kernel
theorem dL_toldReel_510 : decode cL_toldReel 510 = .ok (.invokestatic 59, 3) := by decide +kernel
theorem dL_toldReel_513 : decode cL_toldReel 513 = .ok (.istore 14, 2) := by decide +kernel
theorem dL_toldReel_515 : decode cL_toldReel 515 = .ok (.aload_n 0, 1) := by decide +kernel
theorem dL_toldReel_516 : decode cL_toldReel 516 = .ok (.iload_n 1, 1) := by decide +kernel
theorem dL_toldReel_517 : decode cL_toldReel 517 = .ok (.iconst 0, 1) := by decide +kernel
theorem dL_toldReel_518 : decode cL_toldReel 518 = .ok (.invokevirtual 63, 3) := by decide +kernel
theorem dL_toldReel_521 : decode cL_toldReel 521 = .ok (.aload_n 3, 1) := by decide +kernel
theorem dL_toldReel_522 : decode cL_toldReel 522 = .ok (.iconst 0, 1) := by decide +kernel
theorem dL_toldReel_523 : decode cL_toldReel 523 = .ok (.iaload, 1) := by decide +kernel
theorem dL_toldReel_524 : decode cL_toldReel 524 = .ok (.if_icmp .ne 135, 3) := by decide +kernel
theorem dL_toldReel_527 : decode cL_toldReel 527 = .ok (.aload_n 0, 1) := by decide +kernel
theorem dL_toldReel_528 : decode cL_toldReel 528 = .ok (.iload_n 1, 1) := by decide +kernel
theorem dL_toldReel_529 : decode cL_toldReel 529 = .ok (.iconst 1, 1) := by decide +kernel
theorem dL_toldReel_530 : decode cL_toldReel 530 = .ok (.invokevirtual 63, 3) := by decide +kernel
theorem dL_toldReel_533 : decode cL_toldReel 533 = .ok (.aload_n 3, 1) := by decide +kernel
theorem dL_toldReel_534 : decode cL_toldReel 534 = .ok (.iconst 0, 1) := by decide +kernel
theorem dL_toldReel_535 : decode cL_toldReel 535 = .ok (.iaload, 1) := by decide +kernel
theorem dL_toldReel_536 : decode cL_toldReel 536 = .ok (.aload_n 3, 1) := by decide +kernel
theorem dL_toldReel_537 : decode cL_toldReel 537 = .ok (.invokestatic 26, 3) := by decide +kernel
theorem dL_toldReel_540 : decode cL_toldReel 540 = .ok (.if_icmp .ne 119, 3) := by decide +kernel
theorem dL_toldReel_543 : decode cL_toldReel 543 = .ok (.aload_n 0, 1) := by decide +kernel
theorem dL_toldReel_544 : decode cL_toldReel 544 = .ok (.iload_n 1, 1) := by decide +kernel
theorem dL_toldReel_545 : decode cL_toldReel 545 = .ok (.iconst 2, 1) := by decide +kernel
theorem dL_toldReel_546 : decode cL_toldReel 546 = .ok (.invokevirtual 63, 3) := by decide +kernel
theorem dL_toldReel_549 : decode cL_toldReel 549 = .ok (.iload 8, 2) := by decide +kernel
theorem dL_toldReel_551 : decode cL_toldReel 551 = .ok (.if_icmp .ne 108, 3) := by decide +kernel
theorem dL_toldReel_554 : decode cL_toldReel 554 = .ok (.aload_n 0, 1) := by decide +kernel
theorem dL_toldReel_555 : decode cL_toldReel 555 = .ok (.iload_n 1, 1) := by decide +kernel
theorem dL_toldReel_556 : decode cL_toldReel 556 = .ok (.iconst 3, 1) := by decide +kernel
theorem dL_toldReel_557 : decode cL_toldReel 557 = .ok (.invokevirtual 63, 3) := by decide +kernel
theorem dL_toldReel_560 : decode cL_toldReel 560 = .ok (.iload 11, 2) := by decide +kernel
theorem dL_toldReel_562 : decode cL_toldReel 562 = .ok (.if_icmp .ne 97, 3) := by decide +kernel
theorem dL_toldReel_565 : decode cL_toldReel 565 = .ok (.aload_n 0, 1) := by decide +kernel
theorem dL_toldReel_566 : decode cL_toldReel 566 = .ok (.iload_n 1, 1) := by decide +kernel
theorem dL_toldReel_567 : decode cL_toldReel 567 = .ok (.iconst 4, 1) := by decide +kernel
theorem dL_toldReel_568 : decode cL_toldReel 568 = .ok (.invokevirtual 63, 3) := by decide +kernel
theorem dL_toldReel_571 : decode cL_toldReel 571 = .ok (.aload_n 3, 1) := by decide +kernel
theorem dL_toldReel_572 : decode cL_toldReel 572 = .ok (.bipush 30, 2) := by decide +kernel
theorem dL_toldReel_574 : decode cL_toldReel 574 = .ok (.iaload, 1) := by decide +kernel
theorem dL_toldReel_575 : decode cL_toldReel 575 = .ok (.if_icmp .ne 84, 3) := by decide +kernel
theorem dL_toldReel_578 : decode cL_toldReel 578 = .ok (.aload_n 0, 1) := by decide +kernel
theorem dL_toldReel_579 : decode cL_toldReel 579 = .ok (.iload_n 1, 1) := by decide +kernel
theorem dL_toldReel_580 : decode cL_toldReel 580 = .ok (.iconst 5, 1) := by decide +kernel
theorem dL_toldReel_581 : decode cL_toldReel 581 = .ok (.invokevirtual 63, 3) := by decide +kernel
theorem dL_toldReel_584 : decode cL_toldReel 584 = .ok (.aload_n 3, 1) := by decide +kernel
theorem dL_toldReel_585 : decode cL_toldReel 585 = .ok (.bipush 45, 2) := by decide +kernel
theorem dL_toldReel_587 : decode cL_toldReel 587 = .ok (.iaload, 1) := by decide +kernel
theorem dL_toldReel_588 : decode cL_toldReel 588 = .ok (.if_icmp .ne 71, 3) := by decide +kernel
theorem dL_toldReel_591 : decode cL_toldReel 591 = .ok (.aload_n 0, 1) := by decide +kernel
theorem dL_toldReel_592 : decode cL_toldReel 592 = .ok (.iload_n 1, 1) := by decide +kernel
theorem dL_toldReel_593 : decode cL_toldReel 593 = .ok (.bipush 6, 2) := by decide +kernel
theorem dL_toldReel_595 : decode cL_toldReel 595 = .ok (.invokevirtual 63, 3) := by decide +kernel
theorem dL_toldReel_598 : decode cL_toldReel 598 = .ok (.iload 9, 2) := by decide +kernel
theorem dL_toldReel_600 : decode cL_toldReel 600 = .ok (.if_icmp .ne 59, 3) := by decide +kernel
theorem dL_toldReel_603 : decode cL_toldReel 603 = .ok (.aload_n 0, 1) := by decide +kernel
theorem dL_toldReel_604 : decode cL_toldReel 604 = .ok (.iload_n 1, 1) := by decide +kernel
theorem dL_toldReel_605 : decode cL_toldReel 605 = .ok (.bipush 7, 2) := by decide +kernel
theorem dL_toldReel_607 : decode cL_toldReel 607 = .ok (.invokevirtual 63, 3) := by decide +kernel
theorem dL_toldReel_610 : decode cL_toldReel 610 = .ok (.aload_n 3, 1) := by decide +kernel
theorem dL_toldReel_611 : decode cL_toldReel 611 = .ok (.aload 6, 2) := by decide +kernel
theorem dL_toldReel_613 : decode cL_toldReel 613 = .ok (.aload 7, 2) := by decide +kernel
theorem dL_toldReel_615 : decode cL_toldReel 615 = .ok (.aload 5, 2) := by decide +kernel
theorem dL_toldReel_617 : decode cL_toldReel 617 = .ok (.invokestatic 67, 3) := by decide +kernel
theorem dL_toldReel_620 : decode cL_toldReel 620 = .ok (.if_icmp .ne 39, 3) := by decide +kernel
theorem dL_toldReel_623 : decode cL_toldReel 623 = .ok (.aload_n 0, 1) := by decide +kernel
theorem dL_toldReel_624 : decode cL_toldReel 624 = .ok (.iload_n 1, 1) := by decide +kernel
theorem dL_toldReel_625 : decode cL_toldReel 625 = .ok (.bipush 8, 2) := by decide +kernel
theorem dL_toldReel_627 : decode cL_toldReel 627 = .ok (.invokevirtual 63, 3) := by decide +kernel
theorem dL_toldReel_630 : decode cL_toldReel 630 = .ok (.iload 14, 2) := by decide +kernel
theorem dL_toldReel_632 : decode cL_toldReel 632 = .ok (.if_icmp .ne 27, 3) := by decide +kernel
theorem dL_toldReel_635 : decode cL_toldReel 635 = .ok (.aload_n 0, 1) := by decide +kernel
theorem dL_toldReel_636 : decode cL_toldReel 636 = .ok (.iload_n 1, 1) := by decide +kernel
theorem dL_toldReel_637 : decode cL_toldReel 637 = .ok (.bipush 9, 2) := by decide +kernel
theorem dL_toldReel_639 : decode cL_toldReel 639 = .ok (.invokevirtual 63, 3) := by decide +kernel
theorem dL_toldReel_642 : decode cL_toldReel 642 = .ok (.iload 10, 2) := by decide +kernel
theorem dL_toldReel_644 : decode cL_toldReel 644 = .ok (.if_icmp .ne 15, 3) := by decide +kernel
theorem dL_toldReel_647 : decode cL_toldReel 647 = .ok (.aload_n 0, 1) := by decide +kernel
theorem dL_toldReel_648 : decode cL_toldReel 648 = .ok (.iload_n 1, 1) := by decide +kernel
theorem dL_toldReel_649 : decode cL_toldReel 649 = .ok (.bipush 10, 2) := by decide +kernel
theorem dL_toldReel_651 : decode cL_toldReel 651 = .ok (.invokevirtual 63, 3) := by decide +kernel
theorem dL_toldReel_654 : decode cL_toldReel 654 = .ok (.iload 13, 2) := by decide +kernel
theorem dL_toldReel_656 : decode cL_toldReel 656 = .ok (.if_icmp .eq 5, 3) := by decide +kernel
theorem dL_toldReel_659 : decode cL_toldReel 659 = .ok (.iconst 0, 1) := by decide +kernel
theorem dL_toldReel_660 : decode cL_toldReel 660 = .ok (.ireturn, 1) := by decide +kernel
theorem dL_toldReel_661 : decode cL_toldReel 661 = .ok (.iload_n 2, 1) := by decide +kernel
theorem dL_toldReel_662 : decode cL_toldReel 662 = .ok (.sipush 400, 3) := by decide +kernel
theorem dL_toldReel_665 : decode cL_toldReel 665 = .ok (.invokestatic 71, 3) := by decide +kernel
theorem dL_toldReel_668 : decode cL_toldReel 668 = .ok (.istore 15, 2) := by decide +kernel
theorem dL_toldReel_670 : decode cL_toldReel 670 = .ok (.aload_n 0, 1) := by decide +kernel
theorem dL_toldReel_671 : decode cL_toldReel 671 = .ok (.iload_n 1, 1) := by decide +kernel
theorem dL_toldReel_672 : decode cL_toldReel 672 = .ok (.iload 15, 2) := by decide +kernel
theorem dL_toldReel_674 : decode cL_toldReel 674 = .ok (.invokevirtual 74, 3) := by decide +kernel
theorem dL_toldReel_677 : decode cL_toldReel 677 = .ok (.iload 15, 2) := by decide +kernel
theorem dL_toldReel_679 : decode cL_toldReel 679 = .ok (.aload_n 3, 1) := by decide +kernel
theorem dL_toldReel_680 : decode cL_toldReel 680 = .ok (.invokestatic 14, 3) := by decide +kernel
theorem dL_toldReel_683 : decode cL_toldReel 683 = .ok (.if_icmp .eq 5, 3) := by decide +kernel
theorem dL_toldReel_686 : decode cL_toldReel 686 = .ok (.iconst 0, 1) := by decide +kernel
theorem dL_toldReel_687 : decode cL_toldReel 687 = .ok (.ireturn, 1) := by decide +kernel
theorem dL_toldReel_688 : decode cL_toldReel 688 = .ok (.aload_n 0, 1) := by decide +kernel
theorem dL_toldReel_689 : decode cL_toldReel 689 = .ok (.iload_n 1, 1) := by decide +kernel
theorem dL_toldReel_690 : decode cL_toldReel 690 = .ok (.invokevirtual 77, 3) := by decide +kernel
theorem dL_toldReel_693 : decode cL_toldReel 693 = .ok (.iload 11, 2) := by decide +kernel
theorem dL_toldReel_695 : decode cL_toldReel 695 = .ok (.ifCond .ne 7, 3) := by decide +kernel
theorem dL_toldReel_698 : decode cL_toldReel 698 = .ok (.fconst 0, 1) := by decide +kernel
theorem dL_toldReel_699 : decode cL_toldReel 699 = .ok (.goto 12, 3) := by decide +kernel
theorem dL_toldReel_702 : decode cL_toldReel 702 = .ok (.fconst 1, 1) := by decide +kernel
theorem dL_toldReel_703 : decode cL_toldReel 703 = .ok (.iload 14, 2) := by decide +kernel
theorem dL_toldReel_705 : decode cL_toldReel 705 = .ok (.i2f, 1) := by decide +kernel
theorem dL_toldReel_706 : decode cL_toldReel 706 = .ok (.fmul, 1) := by decide +kernel
theorem dL_toldReel_707 : decode cL_toldReel 707 = .ok (.iload 11, 2) := by decide +kernel
theorem dL_toldReel_709 : decode cL_toldReel 709 = .ok (.i2f, 1) := by decide +kernel
theorem dL_toldReel_710 : decode cL_toldReel 710 = .ok (.fdiv, 1) := by decide +kernel
theorem dL_toldReel_711 : decode cL_toldReel 711 = .ok (.fcmp .l, 1) := by decide +kernel
theorem dL_toldReel_712 : decode cL_toldReel 712 = .ok (.ifCond .eq 5, 3) := by decide +kernel
theorem dL_toldReel_715 : decode cL_toldReel 715 = .ok (.iconst 0, 1) := by decide +kernel
theorem dL_toldReel_716 : decode cL_toldReel 716 = .ok (.ireturn, 1) := by decide +kernel
theorem dL_toldReel_717 : decode cL_toldReel 717 = .ok (.aload_n 0, 1) := by decide +kernel
theorem dL_toldReel_718 : decode cL_toldReel 718 = .ok (.iload_n 1, 1) := by decide +kernel
theorem dL_toldReel_719 : decode cL_toldReel 719 = .ok (.invokevirtual 81, 3) := by decide +kernel
theorem dL_toldReel_722 : decode cL_toldReel 722 = .ok (.iload 11, 2) := by decide +kernel
theorem dL_toldReel_724 : decode cL_toldReel 724 = .ok (.ifCond .ne 7, 3) := by decide +kernel
theorem dL_toldReel_727 : decode cL_toldReel 727 = .ok (.dconst 0, 1) := by decide +kernel
theorem dL_toldReel_728 : decode cL_toldReel 728 = .ok (.goto 26, 3) := by decide +kernel
theorem dL_toldReel_731 : decode cL_toldReel 731 = .ok (.ldc2_w 85, 3) := by decide +kernel
theorem dL_toldReel_734 : decode cL_toldReel 734 = .ok (.aload_n 3, 1) := by decide +kernel
theorem dL_toldReel_735 : decode cL_toldReel 735 = .ok (.iconst 0, 1) := by decide +kernel
theorem dL_toldReel_736 : decode cL_toldReel 736 = .ok (.iaload, 1) := by decide +kernel
theorem dL_toldReel_737 : decode cL_toldReel 737 = .ok (.aload_n 3, 1) := by decide +kernel
theorem dL_toldReel_738 : decode cL_toldReel 738 = .ok (.invokestatic 26, 3) := by decide +kernel
theorem dL_toldReel_741 : decode cL_toldReel 741 = .ok (.iload 8, 2) := by decide +kernel
theorem dL_toldReel_743 : decode cL_toldReel 743 = .ok (.isub, 1) := by decide +kernel
theorem dL_toldReel_744 : decode cL_toldReel 744 = .ok (.i2d, 1) := by decide +kernel
theorem dL_toldReel_745 : decode cL_toldReel 745 = .ok (.dmul, 1) := by decide +kernel
theorem dL_toldReel_746 : decode cL_toldReel 746 = .ok (.iload 11, 2) := by decide +kernel
theorem dL_toldReel_748 : decode cL_toldReel 748 = .ok (.i2d, 1) := by decide +kernel
theorem dL_toldReel_749 : decode cL_toldReel 749 = .ok (.ldc2_w 87, 3) := by decide +kernel
theorem dL_toldReel_752 : decode cL_toldReel 752 = .ok (.ddiv, 1) := by decide +kernel
theorem dL_toldReel_753 : decode cL_toldReel 753 = .ok (.ddiv, 1) := by decide +kernel
theorem dL_toldReel_754 : decode cL_toldReel 754 = .ok (.dcmp .l, 1) := by decide +kernel
theorem dL_toldReel_755 : decode cL_toldReel 755 = .ok (.ifCond .ne 7, 3) := by decide +kernel
theorem dL_toldReel_758 : decode cL_toldReel 758 = .ok (.iconst 1, 1) := by decide +kernel
theorem dL_toldReel_759 : decode cL_toldReel 759 = .ok (.goto 4, 3) := by decide +kernel
theorem dL_toldReel_762 : decode cL_toldReel 762 = .ok (.iconst 0, 1) := by decide +kernel
theorem dL_toldReel_763 : decode cL_toldReel 763 = .ok (.ireturn, 1) := by decide +kernel
theorem dL_told_0 : decode cL_told 0 = .ok (.aload_n 0, 1) := by decide +kernel
theorem dL_told_1 : decode cL_told 1 = .ok (.iconst 0, 1) := by decide +kernel
theorem dL_told_2 : decode cL_told 2 = .ok (.iload_n 1, 1) := by decide +kernel
theorem dL_told_3 : decode cL_told 3 = .ok (.aload_n 2, 1) := by decide +kernel
theorem dL_told_4 : decode cL_told 4 = .ok (.aload 5, 2) := by decide +kernel
theorem dL_told_6 : decode cL_told 6 = .ok (.aload 6, 2) := by decide +kernel
theorem dL_told_8 : decode cL_told 8 = .ok (.invokestatic 89, 3) := by decide +kernel
theorem dL_told_11 : decode cL_told 11 = .ok (.ifCond .eq 37, 3) := by decide +kernel
theorem dL_told_14 : decode cL_told 14 = .ok (.aload_n 0, 1) := by decide +kernel
theorem dL_told_15 : decode cL_told 15 = .ok (.iconst 1, 1) := by decide +kernel
theorem dL_told_16 : decode cL_told 16 = .ok (.iload_n 1, 1) := by decide +kernel
theorem dL_told_17 : decode cL_told 17 = .ok (.iconst 3, 1) := by decide +kernel
theorem dL_told_18 : decode cL_told 18 = .ok (.ishr, 1) := by decide +kernel
theorem dL_told_19 : decode cL_told 19 = .ok (.aload_n 3, 1) := by decide +kernel
theorem dL_told_20 : decode cL_told 20 = .ok (.aload 5, 2) := by decide +kernel
theorem dL_told_22 : decode cL_told 22 = .ok (.aload 6, 2) := by decide +kernel
theorem dL_told_24 : decode cL_told 24 = .ok (.invokestatic 89, 3) := by decide +kernel
theorem dL_told_27 : decode cL_told 27 = .ok (.ifCond .eq 21, 3) := by decide +kernel
theorem dL_told_30 : decode cL_told 30 = .ok (.aload_n 0, 1) := by decide +kernel
theorem dL_told_31 : decode cL_told 31 = .ok (.iconst 2, 1) := by decide +kernel
theorem dL_told_32 : decode cL_told 32 = .ok (.iload_n 1, 1) := by decide +kernel
theorem dL_told_33 : decode cL_told 33 = .ok (.bipush 6, 2) := by decide +kernel
theorem dL_told_35 : decode cL_told 35 = .ok (.ishr, 1) := by decide +kernel
theorem dL_told_36 : decode cL_told 36 = .ok (.aload 4, 2) := by decide +kernel
theorem dL_told_38 : decode cL_told 38 = .ok (.aload 5, 2) := by decide +kernel
theorem dL_told_40 : decode cL_told 40 = .ok (.aload 6, 2) := by decide +kernel
theorem dL_told_42 : decode cL_told 42 = .ok (.invokestatic 89, 3) := by decide +kernel
theorem dL_told_45 : decode cL_told 45 = .ok (.ifCond .ne 5, 3) := by decide +kernel
theorem dL_told_48 : decode cL_told 48 = .ok (.iconst 0, 1) := by decide +kernel
theorem dL_told_49 : decode cL_told 49 = .ok (.ireturn, 1) := by decide +kernel
theorem dL_told_50 : decode cL_told 50 = .ok (.bipush 10, 2) := by decide +kernel
theorem dL_told_52 : decode cL_told 52 = .ok (.newarray .int, 2) := by decide +kernel
theorem dL_told_54 : decode cL_told 54 = .ok (.astore 7, 2) := by decide +kernel
theorem dL_told_56 : decode cL_told 56 = .ok (.iconst 5, 1) := by decide +kernel
theorem dL_told_57 : decode cL_told 57 = .ok (.newarray .int, 2) := by decide +kernel
theorem dL_told_59 : decode cL_told 59 = .ok (.astore 8, 2) := by decide +kernel
theorem dL_told_61 : decode cL_told 61 = .ok (.iconst 0, 1) := by decide +kernel
theorem dL_told_62 : decode cL_told 62 = .ok (.istore 9, 2) := by decide +kernel
theorem dL_told_64 : decode cL_told 64 = .ok (.iconst 0, 1) := by decide +kernel
theorem dL_told_65 : decode cL_told 65 = .ok (.istore 10, 2) := by decide +kernel
theorem dL_told_67 : decode cL_told 67 = .ok (.iconst 0, 1) := by decide +kernel
theorem dL_told_68 : decode cL_told 68 = .ok (.istore 11, 2) := by decide +kernel
theorem dL_told_70 : decode cL_told 70 = .ok (.iconst 0, 1) := by decide +kernel
theorem dL_told_71 : decode cL_told 71 = .ok (.istore 12, 2) := by decide +kernel
theorem dL_told_73 : decode cL_told 73 = .ok (.iload 12, 2) := by decide +kernel
theorem dL_told_75 : decode cL_told 75 = .ok (.iconst 3, 1) := by decide +kernel
theorem dL_told_76 : decode cL_told 76 = .ok (.if_icmp .ge 127, 3) := by decide +kernel
theorem dL_told_79 : decode cL_told 79 = .ok (.iload 12, 2) := by decide +kernel
theorem dL_told_81 : decode cL_told 81 = .ok (.ifCond .ne 7, 3) := by decide +kernel
theorem dL_told_84 : decode cL_told 84 = .ok (.aload_n 2, 1) := by decide +kernel
theorem dL_told_85 : decode cL_told 85 = .ok (.goto 15, 3) := by decide +kernel
theorem dL_told_88 : decode cL_told 88 = .ok (.iload 12, 2) := by decide +kernel
theorem dL_told_90 : decode cL_told 90 = .ok (.iconst 1, 1) := by decide +kernel
theorem dL_told_91 : decode cL_told 91 = .ok (.if_icmp .ne 7, 3) := by decide +kernel
theorem dL_told_94 : decode cL_told 94 = .ok (.aload_n 3, 1) := by decide +kernel
theorem dL_told_95 : decode cL_told 95 = .ok (.goto 5, 3) := by decide +kernel
theorem dL_told_98 : decode cL_told 98 = .ok (.aload 4, 2) := by decide +kernel
theorem dL_told_100 : decode cL_told 100 = .ok (.astore 13, 2) := by decide +kernel
theorem dL_told_102 : decode cL_told 102 = .ok (.iconst 0, 1) := by decide +kernel
theorem dL_told_103 : decode cL_told 103 = .ok (.aload 13, 2) := by decide +kernel
theorem dL_told_105 : decode cL_told 105 = .ok (.aload 5, 2) := by decide +kernel
theorem dL_told_107 : decode cL_told 107 = .ok (.aload 7, 2) := by decide +kernel
theorem dL_told_109 : decode cL_told 109 = .ok (.aload 8, 2) := by decide +kernel
theorem dL_told_111 : decode cL_told 111 = .ok (.invokestatic 49, 3) := by decide +kernel
theorem dL_told_114 : decode cL_told 114 = .ok (.iload 9, 2) := by decide +kernel
theorem dL_told_116 : decode cL_told 116 = .ok (.aload 13, 2) := by decide +kernel
theorem dL_told_118 : decode cL_told 118 = .ok (.aload 7, 2) := by decide +kernel
theorem dL_told_120 : decode cL_told 120 = .ok (.aload 8, 2) := by decide +kernel
theorem dL_told_122 : decode cL_told 122 = .ok (.aload 6, 2) := by decide +kernel
theorem dL_told_124 : decode cL_told 124 = .ok (.invokestatic 67, 3) := by decide +kernel
theorem dL_told_127 : decode cL_told 127 = .ok (.iadd, 1) := by decide +kernel
theorem dL_told_128 : decode cL_told 128 = .ok (.istore 9, 2) := by decide +kernel
theorem dL_told_130 : decode cL_told 130 = .ok (.iload 10, 2) := by decide +kernel
theorem dL_told_132 : decode cL_told 132 = .ok (.aload 13, 2) := by decide +kernel
theorem dL_told_134 : decode cL_told 134 = .ok (.iconst 0, 1) := by decide +kernel
theorem dL_told_135 : decode cL_told 135 = .ok (.iaload, 1) := by decide +kernel
theorem dL_told_136 : decode cL_told 136 = .ok (.ifCond .ne 7, 3) := by decide +kernel
theorem dL_told_139 : decode cL_told 139 = .ok (.iconst 0, 1) := by decide +kernel
theorem dL_told_140 : decode cL_told 140 = .ok (.goto 12, 3) := by decide +kernel
theorem dL_told_143 : decode cL_told 143 = .ok (.aload 8, 2) := by decide +kernel
theorem dL_told_145 : decode cL_told 145 = .ok (.aload 13, 2) := by decide +kernel
theorem dL_told_147 : decode cL_told 147 = .ok (.iconst 0, 1) := by decide +kernel
theorem dL_told_148 : decode cL_told 148 = .ok (.iaload, 1) := by decide +kernel
theorem dL_told_149 : decode cL_told 149 = .ok (.iconst 1, 1) := by decide +kernel
theorem dL_told_150 : decode cL_told 150 = .ok (.isub, 1) := by decide +kernel
theorem dL_told_151 : decode cL_told 151 = .ok (.iaload, 1) := by decide +kernel
theorem dL_told_152 : decode cL_told 152 = .ok (.iadd, 1) := by decide +kernel
theorem dL_told_153 : decode cL_told 153 = .ok (.istore 10, 2) := by decide +kernel
theorem dL_told_155 : decode cL_told 155 = .ok (.iconst 0, 1) := by decide +kernel
theorem dL_told_156 : decode cL_told 156 = .ok (.istore 14, 2) := by decide +kernel
theorem dL_told_158 : decode cL_told 158 = .ok (.iload 14, 2) := by decide +kernel
theorem dL_told_160 : decode cL_told 160 = .ok (.aload 13, 2) := by decide +kernel
theorem dL_told_162 : decode cL_told 162 = .ok (.iconst 0, 1) := by decide +kernel
theorem dL_told_163 : decode cL_told 163 = .ok (.iaload, 1) := by decide +kernel
theorem dL_told_164 : decode cL_told 164 = .ok (.if_icmp .ge 33, 3) := by decide +kernel
theorem dL_told_167 : decode cL_told 167 = .ok (.iload 11, 2) := by decide +kernel
theorem dL_told_169 : decode cL_told 169 = .ok (.aload 13, 2) := by decide +kernel
theorem dL_told_171 : decode cL_told 171 = .ok (.iconst 2, 1) := by decide +kernel
theorem dL_told_172 : decode cL_told 172 = .ok (.iconst 4, 1) := by decide +kernel
theorem dL_told_173 : decode cL_told 173 = .ok (.iload 14, 2) := by decide +kernel
theorem dL_told_175 : decode cL_told 175 = .ok (.imul, 1) := by decide +kernel
theorem dL_told_176 : decode cL_told 176 = .ok (.iadd, 1) := by decide +kernel
theorem dL_told_177 : decode cL_told 177 = .ok (.iaload, 1) := by decide +kernel
theorem dL_told_178 : decode cL_told 178 = .ok (.ldc 21, 2) := by decide +kernel
theorem dL_told_180 : decode cL_told 180 = .ok (.if_icmp .eq 7, 3) := by decide +kernel
theorem dL_told_183 : decode cL_told 183 = .ok (.iconst 1, 1) := by decide +kernel
theorem dL_told_184 : decode cL_told 184 = .ok (.goto 4, 3) := by decide +kernel
theorem dL_told_187 : decode cL_told 187 = .ok (.iconst 0, 1) := by decide +kernel
theorem dL_told_188 : decode cL_told 188 = .ok (.iadd, 1) := by decide +kernel
theorem dL_told_189 : decode cL_told 189 = .ok (.istore 11, 2) := by decide +kernel
theorem dL_told_191 : decode cL_told 191 = .ok (.iinc 14 1, 3) := by decide +kernel
theorem dL_told_194 : decode cL_told 194 = .ok (.goto (-36), 3) := by decide +kernel
theorem dL_told_197 : decode cL_told 197 = .ok (.iinc 12 1, 3) := by decide +kernel
theorem dL_told_200 : decode cL_told 200 = .ok (.goto (-127), 3) := by decide +kernel
theorem dL_told_203 : decode cL_told 203 = .ok (.iconst 0, 1) := by decide +kernel
theorem dL_told_204 : decode cL_told 204 = .ok (.istore 12, 2) := by decide +kernel
theorem dL_told_206 : decode cL_told 206 = .ok (.iload 12, 2) := by decide +kernel
theorem dL_told_208 : decode cL_told 208 = .ok (.aload 6, 2) := by decide +kernel
theorem dL_told_210 : decode cL_told 210 = .ok (.iconst 0, 1) := by decide +kernel
theorem dL_told_211 : decode cL_told 211 = .ok (.iaload, 1) := by decide +kernel
theorem dL_told_212 : decode cL_told 212 = .ok (.if_icmp .ge 142, 3) := by decide +kernel
theorem dL_told_215 : decode cL_told 215 = .ok (.iconst 0, 1) := by decide +kernel
theorem dL_told_216 : decode cL_told 216 = .ok (.istore 13, 2) := by decide +kernel
theorem dL_told_218 : decode cL_told 218 = .ok (.iconst 0, 1) := by decide +kernel
theorem dL_told_219 : decode cL_told 219 = .ok (.istore 14, 2) := by decide +kernel
theorem dL_told_221 : decode cL_told 221 = .ok (.iload 14, 2) := by decide +kernel
theorem dL_told_223 : decode cL_told 223 = .ok (.bipush 15, 2) := by decide +kernel
theorem dL_told_225 : decode cL_told 225 = .ok (.if_icmp .ge 71, 3) := by decide +kernel
theorem dL_told_228 : decode cL_told 228 = .ok (.iload 14, 2) := by decide +kernel
theorem dL_told_230 : decode cL_told 230 = .ok (.iconst 5, 1) := by decide +kernel
theorem dL_told_231 : decode cL_told 231 = .ok (.if_icmp .ge 7, 3) := by decide +kernel
theorem dL_told_234 : decode cL_told 234 = .ok (.aload_n 2, 1) := by decide +kernel
theorem dL_told_235 : decode cL_told 235 = .ok (.goto 16, 3) := by decide +kernel
theorem dL_told_238 : decode cL_told 238 = .ok (.iload 14, 2) := by decide +kernel
theorem dL_told_240 : decode cL_told 240 = .ok (.bipush 10, 2) := by decide +kernel
theorem dL_told_242 : decode cL_told 242 = .ok (.if_icmp .ge 7, 3) := by decide +kernel
theorem dL_told_245 : decode cL_told 245 = .ok (.aload_n 3, 1) := by decide +kernel
theorem dL_told_246 : decode cL_told 246 = .ok (.goto 5, 3) := by decide +kernel
theorem dL_told_249 : decode cL_told 249 = .ok (.aload 4, 2) := by decide +kernel
theorem dL_told_251 : decode cL_told 251 = .ok (.astore 15, 2) := by decide +kernel
theorem dL_told_253 : decode cL_told 253 = .ok (.iload 13, 2) := by decide +kernel
theorem dL_told_255 : decode cL_told 255 = .ok (.iload 14, 2) := by decide +kernel
theorem dL_told_257 : decode cL_told 257 = .ok (.iconst 5, 1) := by decide +kernel
theorem dL_told_258 : decode cL_told 258 = .ok (.irem, 1) := by decide +kernel
theorem dL_told_259 : decode cL_told 259 = .ok (.aload 15, 2) := by decide +kernel
theorem dL_told_261 : decode cL_told 261 = .ok (.iconst 0, 1) := by decide +kernel
theorem dL_told_262 : decode cL_told 262 = .ok (.iaload, 1) := by decide +kernel
theorem dL_told_263 : decode cL_told 263 = .ok (.if_icmp .ge 23, 3) := by decide +kernel
theorem dL_told_266 : decode cL_told 266 = .ok (.aload 15, 2) := by decide +kernel
theorem dL_told_268 : decode cL_told 268 = .ok (.iconst 2, 1) := by decide +kernel
theorem dL_told_269 : decode cL_told 269 = .ok (.iconst 4, 1) := by decide +kernel
theorem dL_told_270 : decode cL_told 270 = .ok (.iload 14, 2) := by decide +kernel
theorem dL_told_272 : decode cL_told 272 = .ok (.iconst 5, 1) := by decide +kernel
theorem dL_told_273 : decode cL_told 273 = .ok (.irem, 1) := by decide +kernel
theorem dL_told_274 : decode cL_told 274 = .ok (.imul, 1) := by decide +kernel
theorem dL_told_275 : decode cL_told 275 = .ok (.iadd, 1) := by decide +kernel
theorem dL_told_276 : decode cL_told 276 = .ok (.iaload, 1) := by decide +kernel
theorem dL_told_277 : decode cL_told 277 = .ok (.iload 12, 2) := by decide +kernel
theorem dL_told_279 : decode cL_told 279 = .ok (.if_icmp .ne 7, 3) := by decide +kernel
theorem dL_told_282 : decode cL_told 282 = .ok (.iconst 1, 1) := by decide +kernel
theorem dL_told_283 : decode cL_told 283 = .ok (.goto 4, 3) := by decide +kernel
theorem dL_told_286 : decode cL_told 286 = .ok (.iconst 0, 1) := by decide +kernel
theorem dL_told_287 : decode cL_told 287 = .ok (.iadd, 1) := by decide +kernel
theorem dL_told_288 : decode cL_told 288 = .ok (.istore 13, 2) := by decide +kernel
theorem dL_told_290 : decode cL_told 290 = .ok (.iinc 14 1, 3) := by decide +kernel
theorem dL_told_293 : decode cL_told 293 = .ok (.goto (-72), 3) := by decide +kernel
theorem dL_told_296 : decode cL_told 296 = .ok (.iconst 0, 1) := by decide +kernel
theorem dL_told_297 : decode cL_told 297 = .ok (.istore 14, 2) := by decide +kernel
theorem dL_told_299 : decode cL_told 299 = .ok (.iload 14, 2) := by decide +kernel
theorem dL_told_301 : decode cL_told 301 = .ok (.iconst 3, 1) := by decide +kernel
theorem dL_told_302 : decode cL_told 302 = .ok (.if_icmp .ge 32, 3) := by decide +kernel
theorem dL_told_305 : decode cL_told 305 = .ok (.aload_n 0, 1) := by decide +kernel
theorem dL_told_306 : decode cL_told 306 = .ok (.iload 12, 2) := by decide +kernel
theorem dL_told_308 : decode cL_told 308 = .ok (.iload 14, 2) := by decide +kernel
theorem dL_told_310 : decode cL_told 310 = .ok (.invokevirtual 93, 3) := by decide +kernel
theorem dL_told_313 : decode cL_told 313 = .ok (.aload 5, 2) := by decide +kernel
theorem dL_told_315 : decode cL_told 315 = .ok (.iconst 3, 1) := by decide +kernel
theorem dL_told_316 : decode cL_told 316 = .ok (.iload 12, 2) := by decide +kernel
theorem dL_told_318 : decode cL_told 318 = .ok (.imul, 1) := by decide +kernel
theorem dL_told_319 : decode cL_told 319 = .ok (.iload 14, 2) := by decide +kernel
theorem dL_told_321 : decode cL_told 321 = .ok (.iadd, 1) := by decide +kernel
theorem dL_told_322 : decode cL_told 322 = .ok (.iaload, 1) := by decide +kernel
theorem dL_told_323 : decode cL_told 323 = .ok (.if_icmp .eq 5, 3) := by decide +kernel
theorem dL_told_326 : decode cL_told 326 = .ok (.iconst 0, 1) := by decide +kernel
theorem dL_told_327 : decode cL_told 327 = .ok (.ireturn, 1) := by decide +kernel
theorem dL_told_328 : decode cL_told 328 = .ok (.iinc 14 1, 3) := by decide +kernel
theorem dL_told_331 : decode cL_told 331 = .ok (.goto (-32), 3) := by decide +kernel
theorem dL_told_334 : decode cL_told 334 = .ok (.aload_n 0, 1) := by decide +kernel
theorem dL_told_335 : decode cL_told 335 = .ok (.iload 12, 2) := by decide +kernel
theorem dL_told_337 : decode cL_told 337 = .ok (.iconst 3, 1) := by decide +kernel
theorem dL_told_338 : decode cL_told 338 = .ok (.invokevirtual 93, 3) := by decide +kernel
theorem dL_told_341 : decode cL_told 341 = .ok (.iload 13, 2) := by decide +kernel
theorem dL_told_343 : decode cL_told 343 = .ok (.if_icmp .eq 5, 3) := by decide +kernel
theorem dL_told_346 : decode cL_told 346 = .ok (.iconst 0, 1) := by decide +kernel
theorem dL_told_347 : decode cL_told 347 = .ok (.ireturn, 1) := by decide +kernel
theorem dL_told_348 : decode cL_told 348 = .ok (.iinc 12 1, 3) := by decide +kernel
theorem dL_told_351 : decode cL_told 351 = .ok (.goto (-145), 3) := by decide +kernel
theorem dL_told_354 : decode cL_told 354 = .ok (.aload_n 0, 1) := by decide +kernel
theorem dL_told_355 : decode cL_told 355 = .ok (.iconst 0, 1) := by decide +kernel
theorem dL_told_356 : decode cL_told 356 = .ok (.invokevirtual 96, 3) := by decide +kernel
theorem dL_told_359 : decode cL_told 359 = .ok (.aload_n 2, 1) := by decide +kernel
theorem dL_told_360 : decode cL_told 360 = .ok (.iconst 0, 1) := by decide +kernel
theorem dL_told_361 : decode cL_told 361 = .ok (.iaload, 1) := by decide +kernel
theorem dL_told_362 : decode cL_told 362 = .ok (.aload_n 3, 1) := by decide +kernel
theorem dL_told_363 : decode cL_told 363 = .ok (.iconst 0, 1) := by decide +kernel
theorem dL_told_364 : decode cL_told 364 = .ok (.iaload, 1) := by decide +kernel
theorem dL_told_365 : decode cL_told 365 = .ok (.iadd, 1) := by decide +kernel
theorem dL_told_366 : decode cL_told 366 = .ok (.aload 4, 2) := by decide +kernel
theorem dL_told_368 : decode cL_told 368 = .ok (.iconst 0, 1) := by decide +kernel
theorem dL_told_369 : decode cL_told 369 = .ok (.iaload, 1) := by decide +kernel
theorem dL_told_370 : decode cL_told 370 = .ok (.iadd, 1) := by decide +kernel
theorem dL_told_371 : decode cL_told 371 = .ok (.if_icmp .ne 74, 3) := by decide +kernel
theorem dL_told_374 : decode cL_told 374 = .ok (.aload_n 0, 1) := by decide +kernel
theorem dL_told_375 : decode cL_told 375 = .ok (.iconst 1, 1) := by decide +kernel
theorem dL_told_376 : decode cL_told 376 = .ok (.invokevirtual 96, 3) := by decide +kernel
theorem dL_told_379 : decode cL_told 379 = .ok (.aload 6, 2) := by decide +kernel
theorem dL_told_381 : decode cL_told 381 = .ok (.iconst 0, 1) := by decide +kernel
theorem dL_told_382 : decode cL_told 382 = .ok (.iaload, 1) := by decide +kernel
theorem dL_told_383 : decode cL_told 383 = .ok (.if_icmp .ne 62, 3) := by decide +kernel
theorem dL_told_386 : decode cL_told 386 = .ok (.aload_n 0, 1) := by decide +kernel
theorem dL_told_387 : decode cL_told 387 = .ok (.iconst 2, 1) := by decide +kernel
theorem dL_told_388 : decode cL_told 388 = .ok (.invokevirtual 96, 3) := by decide +kernel
theorem dL_told_391 : decode cL_told 391 = .ok (.iload 11, 2) := by decide +kernel
theorem dL_told_393 : decode cL_told 393 = .ok (.if_icmp .ne 52, 3) := by decide +kernel
theorem dL_told_396 : decode cL_told 396 = .ok (.aload_n 0, 1) := by decide +kernel
theorem dL_told_397 : decode cL_told 397 = .ok (.iconst 3, 1) := by decide +kernel
theorem dL_told_398 : decode cL_told 398 = .ok (.invokevirtual 96, 3) := by decide +kernel
theorem dL_told_401 : decode cL_told 401 = .ok (.iload 9, 2) := by decide +kernel
theorem dL_told_403 : decode cL_told 403 = .ok (.if_icmp .ne 42, 3) := by decide +kernel
theorem dL_told_406 : decode cL_told 406 = .ok (.aload_n 0, 1) := by decide +kernel
theorem dL_told_407 : decode cL_told 407 = .ok (.iconst 4, 1) := by decide +kernel
theorem dL_told_408 : decode cL_told 408 = .ok (.invokevirtual 96, 3) := by decide +kernel
theorem dL_told_411 : decode cL_told 411 = .ok (.aload 6, 2) := by decide +kernel
theorem dL_told_413 : decode cL_told 413 = .ok (.iconst 1, 1) := by decide +kernel
theorem dL_told_414 : decode cL_told 414 = .ok (.iaload, 1) := by decide +kernel
theorem dL_told_415 : decode cL_told 415 = .ok (.if_icmp .ne 30, 3) := by decide +kernel
theorem dL_told_418 : decode cL_told 418 = .ok (.aload_n 0, 1) := by decide +kernel
theorem dL_told_419 : decode cL_told 419 = .ok (.iconst 5, 1) := by decide +kernel
theorem dL_told_420 : decode cL_told 420 = .ok (.invokevirtual 96, 3) := by decide +kernel
theorem dL_told_423 : decode cL_told 423 = .ok (.aload 6, 2) := by decide +kernel
theorem dL_told_425 : decode cL_told 425 = .ok (.iconst 2, 1) := by decide +kernel
theorem dL_told_426 : decode cL_told 426 = .ok (.iaload, 1) := by decide +kernel
theorem dL_told_427 : decode cL_told 427 = .ok (.if_icmp .ne 18, 3) := by decide +kernel
theorem dL_told_430 : decode cL_told 430 = .ok (.aload_n 0, 1) := by decide +kernel
theorem dL_told_431 : decode cL_told 431 = .ok (.bipush 6, 2) := by decide +kernel
theorem dL_told_433 : decode cL_told 433 = .ok (.invokevirtual 96, 3) := by decide +kernel
theorem dL_told_436 : decode cL_told 436 = .ok (.iload 10, 2) := by decide +kernel
theorem dL_told_438 : decode cL_told 438 = .ok (.if_icmp .ne 7, 3) := by decide +kernel
theorem dL_told_441 : decode cL_told 441 = .ok (.iconst 1, 1) := by decide +kernel
theorem dL_told_442 : decode cL_told 442 = .ok (.goto 4, 3) := by decide +kernel
theorem dL_told_445 : decode cL_told 445 = .ok (.iconst 0, 1) := by decide +kernel
theorem dL_told_446 : decode cL_told 446 = .ok (.ireturn, 1) := by decide +kernel
theorem dL_ahead_0 : decode cL_ahead 0 = .ok (.bipush 10, 2) := by decide +kernel
theorem dL_ahead_2 : decode cL_ahead 2 = .ok (.newarray .int, 2) := by decide +kernel
theorem dL_ahead_4 : decode cL_ahead 4 = .ok (.astore 7, 2) := by decide +kernel
theorem dL_ahead_6 : decode cL_ahead 6 = .ok (.iconst 5, 1) := by decide +kernel
theorem dL_ahead_7 : decode cL_ahead 7 = .ok (.newarray .int, 2) := by decide +kernel
theorem dL_ahead_9 : decode cL_ahead 9 = .ok (.astore 8, 2) := by decide +kernel
theorem dL_ahead_11 : decode cL_ahead 11 = .ok (.bipush 10, 2) := by decide +kernel
theorem dL_ahead_13 : decode cL_ahead 13 = .ok (.iload_n 3, 1) := by decide +kernel
theorem dL_ahead_14 : decode cL_ahead 14 = .ok (.bipush 21, 2) := by decide +kernel
theorem dL_ahead_16 : decode cL_ahead 16 = .ok (.invokestatic 71, 3) := by decide +kernel
theorem dL_ahead_19 : decode cL_ahead 19 = .ok (.iadd, 1) := by decide +kernel
theorem dL_ahead_20 : decode cL_ahead 20 = .ok (.istore 9, 2) := by decide +kernel
theorem dL_ahead_22 : decode cL_ahead 22 = .ok (.iload 9, 2) := by decide +kernel
theorem dL_ahead_24 : decode cL_ahead 24 = .ok (.aload 4, 2) := by decide +kernel
theorem dL_ahead_26 : decode cL_ahead 26 = .ok (.aload 5, 2) := by decide +kernel
theorem dL_ahead_28 : decode cL_ahead 28 = .ok (.aload 7, 2) := by decide +kernel
theorem dL_ahead_30 : decode cL_ahead 30 = .ok (.aload 8, 2) := by decide +kernel
theorem dL_ahead_32 : decode cL_ahead 32 = .ok (.invokestatic 49, 3) := by decide +kernel
theorem dL_ahead_35 : decode cL_ahead 35 = .ok (.aload_n 0, 1) := by decide +kernel
theorem dL_ahead_36 : decode cL_ahead 36 = .ok (.iload_n 1, 1) := by decide +kernel
theorem dL_ahead_37 : decode cL_ahead 37 = .ok (.iload 9, 2) := by decide +kernel
theorem dL_ahead_39 : decode cL_ahead 39 = .ok (.invokevirtual 99, 3) := by decide +kernel
theorem dL_ahead_42 : decode cL_ahead 42 = .ok (.aload 4, 2) := by decide +kernel
theorem dL_ahead_44 : decode cL_ahead 44 = .ok (.aload 7, 2) := by decide +kernel
theorem dL_ahead_46 : decode cL_ahead 46 = .ok (.aload 8, 2) := by decide +kernel
theorem dL_ahead_48 : decode cL_ahead 48 = .ok (.aload 6, 2) := by decide +kernel
theorem dL_ahead_50 : decode cL_ahead 50 = .ok (.invokestatic 67, 3) := by decide +kernel
theorem dL_ahead_53 : decode cL_ahead 53 = .ok (.if_icmp .eq 5, 3) := by decide +kernel
theorem dL_ahead_56 : decode cL_ahead 56 = .ok (.iconst 0, 1) := by decide +kernel
theorem dL_ahead_57 : decode cL_ahead 57 = .ok (.ireturn, 1) := by decide +kernel
theorem dL_ahead_58 : decode cL_ahead 58 = .ok (.iconst (-1), 1) := by decide +kernel
theorem dL_ahead_59 : decode cL_ahead 59 = .ok (.istore 10, 2) := by decide +kernel
theorem dL_ahead_61 : decode cL_ahead 61 = .ok (.iconst 0, 1) := by decide +kernel
theorem dL_ahead_62 : decode cL_ahead 62 = .ok (.istore 11, 2) := by decide +kernel
theorem dL_ahead_64 : decode cL_ahead 64 = .ok (.bipush 30, 2) := by decide +kernel
theorem dL_ahead_66 : decode cL_ahead 66 = .ok (.istore 12, 2) := by decide +kernel
theorem dL_ahead_68 : decode cL_ahead 68 = .ok (.iload 12, 2) := by decide +kernel
theorem dL_ahead_70 : decode cL_ahead 70 = .ok (.bipush 9, 2) := by decide +kernel
theorem dL_ahead_72 : decode cL_ahead 72 = .ok (.if_icmp .le 56, 3) := by decide +kernel
theorem dL_ahead_75 : decode cL_ahead 75 = .ok (.iload 12, 2) := by decide +kernel
theorem dL_ahead_77 : decode cL_ahead 77 = .ok (.aload 4, 2) := by decide +kernel
theorem dL_ahead_79 : decode cL_ahead 79 = .ok (.aload 5, 2) := by decide +kernel
theorem dL_ahead_81 : decode cL_ahead 81 = .ok (.aload 7, 2) := by decide +kernel
theorem dL_ahead_83 : decode cL_ahead 83 = .ok (.aload 8, 2) := by decide +kernel
theorem dL_ahead_85 : decode cL_ahead 85 = .ok (.invokestatic 49, 3) := by decide +kernel
theorem dL_ahead_88 : decode cL_ahead 88 = .ok (.aload 4, 2) := by decide +kernel
theorem dL_ahead_90 : decode cL_ahead 90 = .ok (.aload 7, 2) := by decide +kernel
theorem dL_ahead_92 : decode cL_ahead 92 = .ok (.aload 8, 2) := by decide +kernel
theorem dL_ahead_94 : decode cL_ahead 94 = .ok (.invokestatic 59, 3) := by decide +kernel
theorem dL_ahead_97 : decode cL_ahead 97 = .ok (.istore 13, 2) := by decide +kernel
theorem dL_ahead_99 : decode cL_ahead 99 = .ok (.iload 10, 2) := by decide +kernel
theorem dL_ahead_101 : decode cL_ahead 101 = .ok (.ifCond .lt 13, 3) := by decide +kernel
theorem dL_ahead_104 : decode cL_ahead 104 = .ok (.iload 13, 2) := by decide +kernel
theorem dL_ahead_106 : decode cL_ahead 106 = .ok (.iload 11, 2) := by decide +kernel
theorem dL_ahead_108 : decode cL_ahead 108 = .ok (.if_icmp .le 6, 3) := by decide +kernel
theorem dL_ahead_111 : decode cL_ahead 111 = .ok (.goto 11, 3) := by decide +kernel
theorem dL_ahead_114 : decode cL_ahead 114 = .ok (.iload 12, 2) := by decide +kernel
theorem dL_ahead_116 : decode cL_ahead 116 = .ok (.istore 10, 2) := by decide +kernel
theorem dL_ahead_118 : decode cL_ahead 118 = .ok (.iload 13, 2) := by decide +kernel
theorem dL_ahead_120 : decode cL_ahead 120 = .ok (.istore 11, 2) := by decide +kernel
theorem dL_ahead_122 : decode cL_ahead 122 = .ok (.iinc 12 (-1), 3) := by decide +kernel
theorem dL_ahead_125 : decode cL_ahead 125 = .ok (.goto (-57), 3) := by decide +kernel
theorem dL_ahead_128 : decode cL_ahead 128 = .ok (.aload_n 0, 1) := by decide +kernel
theorem dL_ahead_129 : decode cL_ahead 129 = .ok (.iload_n 1, 1) := by decide +kernel
theorem dL_ahead_130 : decode cL_ahead 130 = .ok (.invokevirtual 102, 3) := by decide +kernel
theorem dL_ahead_133 : decode cL_ahead 133 = .ok (.iload 10, 2) := by decide +kernel
theorem dL_ahead_135 : decode cL_ahead 135 = .ok (.if_icmp .eq 5, 3) := by decide +kernel
theorem dL_ahead_138 : decode cL_ahead 138 = .ok (.iconst 0, 1) := by decide +kernel
theorem dL_ahead_139 : decode cL_ahead 139 = .ok (.ireturn, 1) := by decide +kernel
theorem dL_ahead_140 : decode cL_ahead 140 = .ok (.aload 4, 2) := by decide +kernel
theorem dL_ahead_142 : decode cL_ahead 142 = .ok (.iconst 0, 1) := by decide +kernel
theorem dL_ahead_143 : decode cL_ahead 143 = .ok (.iaload, 1) := by decide +kernel
theorem dL_ahead_144 : decode cL_ahead 144 = .ok (.ifCond .ne 5, 3) := by decide +kernel
theorem dL_ahead_147 : decode cL_ahead 147 = .ok (.iconst 1, 1) := by decide +kernel
theorem dL_ahead_148 : decode cL_ahead 148 = .ok (.ireturn, 1) := by decide +kernel
theorem dL_ahead_149 : decode cL_ahead 149 = .ok (.iconst 0, 1) := by decide +kernel
theorem dL_ahead_150 : decode cL_ahead 150 = .ok (.aload 4, 2) := by decide +kernel
theorem dL_ahead_152 : decode cL_ahead 152 = .ok (.aload 5, 2) := by decide +kernel
theorem dL_ahead_154 : decode cL_ahead 154 = .ok (.aload 7, 2) := by decide +kernel
theorem dL_ahead_156 : decode cL_ahead 156 = .ok (.aload 8, 2) := by decide +kernel
theorem dL_ahead_158 : decode cL_ahead 158 = .ok (.invokestatic 49, 3) := by decide +kernel
theorem dL_ahead_161 : decode cL_ahead 161 = .ok (.iload_n 2, 1) := by decide +kernel
theorem dL_ahead_162 : decode cL_ahead 162 = .ok (.aload 4, 2) := by decide +kernel
theorem dL_ahead_164 : decode cL_ahead 164 = .ok (.iconst 0, 1) := by decide +kernel
theorem dL_ahead_165 : decode cL_ahead 165 = .ok (.iaload, 1) := by decide +kernel
theorem dL_ahead_166 : decode cL_ahead 166 = .ok (.invokestatic 71, 3) := by decide +kernel
theorem dL_ahead_169 : decode cL_ahead 169 = .ok (.istore 12, 2) := by decide +kernel
theorem dL_ahead_171 : decode cL_ahead 171 = .ok (.ldc 21, 2) := by decide +kernel
theorem dL_ahead_173 : decode cL_ahead 173 = .ok (.istore 13, 2) := by decide +kernel
theorem dL_ahead_175 : decode cL_ahead 175 = .ok (.iconst 0, 1) := by decide +kernel
theorem dL_ahead_176 : decode cL_ahead 176 = .ok (.istore 14, 2) := by decide +kernel
theorem dL_ahead_178 : decode cL_ahead 178 = .ok (.iconst 0, 1) := by decide +kernel
theorem dL_ahead_179 : decode cL_ahead 179 = .ok (.istore 15, 2) := by decide +kernel
theorem dL_ahead_181 : decode cL_ahead 181 = .ok (.iload 15, 2) := by decide +kernel
theorem dL_ahead_183 : decode cL_ahead 183 = .ok (.aload 6, 2) := by decide +kernel
theorem dL_ahead_185 : decode cL_ahead 185 = .ok (.iconst 0, 1) := by decide +kernel
theorem dL_ahead_186 : decode cL_ahead 186 = .ok (.iaload, 1) := by decide +kernel
theorem dL_ahead_187 : decode cL_ahead 187 = .ok (.if_icmp .ge 107, 3) := by decide +kernel
theorem dL_ahead_190 : decode cL_ahead 190 = .ok (.iload 12, 2) := by decide +kernel
theorem dL_ahead_192 : decode cL_ahead 192 = .ok (.iload 15, 2) := by decide +kernel
theorem dL_ahead_194 : decode cL_ahead 194 = .ok (.aload 4, 2) := by decide +kernel
theorem dL_ahead_196 : decode cL_ahead 196 = .ok (.aload 5, 2) := by decide +kernel
theorem dL_ahead_198 : decode cL_ahead 198 = .ok (.aload 7, 2) := by decide +kernel
theorem dL_ahead_200 : decode cL_ahead 200 = .ok (.aload 8, 2) := by decide +kernel
theorem dL_ahead_202 : decode cL_ahead 202 = .ok (.aload 6, 2) := by decide +kernel
theorem dL_ahead_204 : decode cL_ahead 204 = .ok (.invokestatic 105, 3) := by decide +kernel
theorem dL_ahead_207 : decode cL_ahead 207 = .ok (.istore 16, 2) := by decide +kernel
theorem dL_ahead_209 : decode cL_ahead 209 = .ok (.aload_n 0, 1) := by decide +kernel
theorem dL_ahead_210 : decode cL_ahead 210 = .ok (.iload_n 1, 1) := by decide +kernel
theorem dL_ahead_211 : decode cL_ahead 211 = .ok (.iload 12, 2) := by decide +kernel
theorem dL_ahead_213 : decode cL_ahead 213 = .ok (.iload 15, 2) := by decide +kernel
theorem dL_ahead_215 : decode cL_ahead 215 = .ok (.invokevirtual 109, 3) := by decide +kernel
theorem dL_ahead_218 : decode cL_ahead 218 = .ok (.iload 16, 2) := by decide +kernel
theorem dL_ahead_220 : decode cL_ahead 220 = .ok (.if_icmp .eq 5, 3) := by decide +kernel
theorem dL_ahead_223 : decode cL_ahead 223 = .ok (.iconst 0, 1) := by decide +kernel
theorem dL_ahead_224 : decode cL_ahead 224 = .ok (.ireturn, 1) := by decide +kernel
theorem dL_ahead_225 : decode cL_ahead 225 = .ok (.aload 7, 2) := by decide +kernel
theorem dL_ahead_227 : decode cL_ahead 227 = .ok (.iconst 2, 1) := by decide +kernel
theorem dL_ahead_228 : decode cL_ahead 228 = .ok (.iload 12, 2) := by decide +kernel
theorem dL_ahead_230 : decode cL_ahead 230 = .ok (.imul, 1) := by decide +kernel
theorem dL_ahead_231 : decode cL_ahead 231 = .ok (.iaload, 1) := by decide +kernel
theorem dL_ahead_232 : decode cL_ahead 232 = .ok (.iload 15, 2) := by decide +kernel
theorem dL_ahead_234 : decode cL_ahead 234 = .ok (.iload 16, 2) := by decide +kernel
theorem dL_ahead_236 : decode cL_ahead 236 = .ok (.sipush 1000, 3) := by decide +kernel
theorem dL_ahead_239 : decode cL_ahead 239 = .ok (.idiv, 1) := by decide +kernel
theorem dL_ahead_240 : decode cL_ahead 240 = .ok (.iload 16, 2) := by decide +kernel
theorem dL_ahead_242 : decode cL_ahead 242 = .ok (.sipush 1000, 3) := by decide +kernel
theorem dL_ahead_245 : decode cL_ahead 245 = .ok (.irem, 1) := by decide +kernel
theorem dL_ahead_246 : decode cL_ahead 246 = .ok (.aload 5, 2) := by decide +kernel
theorem dL_ahead_248 : decode cL_ahead 248 = .ok (.invokestatic 22, 3) := by decide +kernel
theorem dL_ahead_251 : decode cL_ahead 251 = .ok (.iadd, 1) := by decide +kernel
theorem dL_ahead_252 : decode cL_ahead 252 = .ok (.aload 8, 2) := by decide +kernel
theorem dL_ahead_254 : decode cL_ahead 254 = .ok (.iload 12, 2) := by decide +kernel
theorem dL_ahead_256 : decode cL_ahead 256 = .ok (.iaload, 1) := by decide +kernel
theorem dL_ahead_257 : decode cL_ahead 257 = .ok (.isub, 1) := by decide +kernel
theorem dL_ahead_258 : decode cL_ahead 258 = .ok (.invokestatic 37, 3) := by decide +kernel
theorem dL_ahead_261 : decode cL_ahead 261 = .ok (.istore 17, 2) := by decide +kernel
theorem dL_ahead_263 : decode cL_ahead 263 = .ok (.iload 13, 2) := by decide +kernel
theorem dL_ahead_265 : decode cL_ahead 265 = .ok (.ldc 21, 2) := by decide +kernel
theorem dL_ahead_267 : decode cL_ahead 267 = .ok (.if_icmp .eq 13, 3) := by decide +kernel
theorem dL_ahead_270 : decode cL_ahead 270 = .ok (.iload 17, 2) := by decide +kernel
theorem dL_ahead_272 : decode cL_ahead 272 = .ok (.iload 14, 2) := by decide +kernel
theorem dL_ahead_274 : decode cL_ahead 274 = .ok (.if_icmp .lt 6, 3) := by decide +kernel
theorem dL_ahead_277 : decode cL_ahead 277 = .ok (.goto 11, 3) := by decide +kernel
theorem dL_ahead_280 : decode cL_ahead 280 = .ok (.iload 15, 2) := by decide +kernel
theorem dL_ahead_282 : decode cL_ahead 282 = .ok (.istore 13, 2) := by decide +kernel
theorem dL_ahead_284 : decode cL_ahead 284 = .ok (.iload 17, 2) := by decide +kernel
theorem dL_ahead_286 : decode cL_ahead 286 = .ok (.istore 14, 2) := by decide +kernel
theorem dL_ahead_288 : decode cL_ahead 288 = .ok (.iinc 15 1, 3) := by decide +kernel
theorem dL_ahead_291 : decode cL_ahead 291 = .ok (.goto (-110), 3) := by decide +kernel
theorem dL_ahead_294 : decode cL_ahead 294 = .ok (.aload_n 0, 1) := by decide +kernel
theorem dL_ahead_295 : decode cL_ahead 295 = .ok (.iload_n 1, 1) := by decide +kernel
theorem dL_ahead_296 : decode cL_ahead 296 = .ok (.iload 12, 2) := by decide +kernel
theorem dL_ahead_298 : decode cL_ahead 298 = .ok (.invokevirtual 112, 3) := by decide +kernel
theorem dL_ahead_301 : decode cL_ahead 301 = .ok (.iload 13, 2) := by decide +kernel
theorem dL_ahead_303 : decode cL_ahead 303 = .ok (.if_icmp .ne 7, 3) := by decide +kernel
theorem dL_ahead_306 : decode cL_ahead 306 = .ok (.iconst 1, 1) := by decide +kernel
theorem dL_ahead_307 : decode cL_ahead 307 = .ok (.goto 4, 3) := by decide +kernel
theorem dL_ahead_310 : decode cL_ahead 310 = .ok (.iconst 0, 1) := by decide +kernel
theorem dL_ahead_311 : decode cL_ahead 311 = .ok (.ireturn, 1) := by decide +kernel
theorem dL_hold_0 : decode cL_hold 0 = .ok (.iconst 0, 1) := by decide +kernel
theorem dL_hold_1 : decode cL_hold 1 = .ok (.istore 4, 2) := by decide +kernel
theorem dL_hold_3 : decode cL_hold 3 = .ok (.iload 4, 2) := by decide +kernel
theorem dL_hold_5 : decode cL_hold 5 = .ok (.aload_n 3, 1) := by decide +kernel
theorem dL_hold_6 : decode cL_hold 6 = .ok (.iload_n 0, 1) := by decide +kernel
theorem dL_hold_7 : decode cL_hold 7 = .ok (.iaload, 1) := by decide +kernel
theorem dL_hold_8 : decode cL_hold 8 = .ok (.if_icmp .ge 23, 3) := by decide +kernel
theorem dL_hold_11 : decode cL_hold 11 = .ok (.aload_n 3, 1) := by decide +kernel
theorem dL_hold_12 : decode cL_hold 12 = .ok (.iload_n 0, 1) := by decide +kernel
theorem dL_hold_13 : decode cL_hold 13 = .ok (.iconst 1, 1) := by decide +kernel
theorem dL_hold_14 : decode cL_hold 14 = .ok (.iadd, 1) := by decide +kernel
theorem dL_hold_15 : decode cL_hold 15 = .ok (.iconst 2, 1) := by decide +kernel
theorem dL_hold_16 : decode cL_hold 16 = .ok (.iload 4, 2) := by decide +kernel
theorem dL_hold_18 : decode cL_hold 18 = .ok (.imul, 1) := by decide +kernel
theorem dL_hold_19 : decode cL_hold 19 = .ok (.iadd, 1) := by decide +kernel
theorem dL_hold_20 : decode cL_hold 20 = .ok (.iaload, 1) := by decide +kernel
theorem dL_hold_21 : decode cL_hold 21 = .ok (.iload_n 1, 1) := by decide +kernel
theorem dL_hold_22 : decode cL_hold 22 = .ok (.if_icmp .eq 9, 3) := by decide +kernel
theorem dL_hold_25 : decode cL_hold 25 = .ok (.iinc 4 1, 3) := by decide +kernel
theorem dL_hold_28 : decode cL_hold 28 = .ok (.goto (-25), 3) := by decide +kernel
theorem dL_hold_31 : decode cL_hold 31 = .ok (.aload_n 3, 1) := by decide +kernel
theorem dL_hold_32 : decode cL_hold 32 = .ok (.iload_n 0, 1) := by decide +kernel
theorem dL_hold_33 : decode cL_hold 33 = .ok (.iload 4, 2) := by decide +kernel
theorem dL_hold_35 : decode cL_hold 35 = .ok (.aload_n 3, 1) := by decide +kernel
theorem dL_hold_36 : decode cL_hold 36 = .ok (.iload_n 0, 1) := by decide +kernel
theorem dL_hold_37 : decode cL_hold 37 = .ok (.iaload, 1) := by decide +kernel
theorem dL_hold_38 : decode cL_hold 38 = .ok (.if_icmp .ne 10, 3) := by decide +kernel
theorem dL_hold_41 : decode cL_hold 41 = .ok (.iload 4, 2) := by decide +kernel
theorem dL_hold_43 : decode cL_hold 43 = .ok (.iconst 1, 1) := by decide +kernel
theorem dL_hold_44 : decode cL_hold 44 = .ok (.iadd, 1) := by decide +kernel
theorem dL_hold_45 : decode cL_hold 45 = .ok (.goto 6, 3) := by decide +kernel
theorem dL_hold_48 : decode cL_hold 48 = .ok (.aload_n 3, 1) := by decide +kernel
theorem dL_hold_49 : decode cL_hold 49 = .ok (.iload_n 0, 1) := by decide +kernel
theorem dL_hold_50 : decode cL_hold 50 = .ok (.iaload, 1) := by decide +kernel
theorem dL_hold_51 : decode cL_hold 51 = .ok (.iastore, 1) := by decide +kernel
theorem dL_hold_52 : decode cL_hold 52 = .ok (.aload_n 3, 1) := by decide +kernel
theorem dL_hold_53 : decode cL_hold 53 = .ok (.iload_n 0, 1) := by decide +kernel
theorem dL_hold_54 : decode cL_hold 54 = .ok (.iconst 1, 1) := by decide +kernel
theorem dL_hold_55 : decode cL_hold 55 = .ok (.iadd, 1) := by decide +kernel
theorem dL_hold_56 : decode cL_hold 56 = .ok (.iconst 2, 1) := by decide +kernel
theorem dL_hold_57 : decode cL_hold 57 = .ok (.iload 4, 2) := by decide +kernel
theorem dL_hold_59 : decode cL_hold 59 = .ok (.imul, 1) := by decide +kernel
theorem dL_hold_60 : decode cL_hold 60 = .ok (.iadd, 1) := by decide +kernel
theorem dL_hold_61 : decode cL_hold 61 = .ok (.iload_n 1, 1) := by decide +kernel
theorem dL_hold_62 : decode cL_hold 62 = .ok (.iastore, 1) := by decide +kernel
theorem dL_hold_63 : decode cL_hold 63 = .ok (.aload_n 3, 1) := by decide +kernel
theorem dL_hold_64 : decode cL_hold 64 = .ok (.iload_n 0, 1) := by decide +kernel
theorem dL_hold_65 : decode cL_hold 65 = .ok (.iconst 2, 1) := by decide +kernel
theorem dL_hold_66 : decode cL_hold 66 = .ok (.iadd, 1) := by decide +kernel
theorem dL_hold_67 : decode cL_hold 67 = .ok (.iconst 2, 1) := by decide +kernel
theorem dL_hold_68 : decode cL_hold 68 = .ok (.iload 4, 2) := by decide +kernel
theorem dL_hold_70 : decode cL_hold 70 = .ok (.imul, 1) := by decide +kernel
theorem dL_hold_71 : decode cL_hold 71 = .ok (.iadd, 1) := by decide +kernel
theorem dL_hold_72 : decode cL_hold 72 = .ok (.iload_n 2, 1) := by decide +kernel
theorem dL_hold_73 : decode cL_hold 73 = .ok (.iastore, 1) := by decide +kernel
theorem dL_hold_74 : decode cL_hold 74 = .ok (.aload_n 3, 1) := by decide +kernel
theorem dL_hold_75 : decode cL_hold 75 = .ok (.iload_n 0, 1) := by decide +kernel
theorem dL_hold_76 : decode cL_hold 76 = .ok (.iaload, 1) := by decide +kernel
theorem dL_hold_77 : decode cL_hold 77 = .ok (.ireturn, 1) := by decide +kernel
theorem dL_isFull_0 : decode cL_isFull 0 = .ok (.iconst 0, 1) := by decide +kernel
theorem dL_isFull_1 : decode cL_isFull 1 = .ok (.istore_n 3, 1) := by decide +kernel
theorem dL_isFull_2 : decode cL_isFull 2 = .ok (.iload_n 3, 1) := by decide +kernel
theorem dL_isFull_3 : decode cL_isFull 3 = .ok (.aload_n 2, 1) := by decide +kernel
theorem dL_isFull_4 : decode cL_isFull 4 = .ok (.iload_n 0, 1) := by decide +kernel
theorem dL_isFull_5 : decode cL_isFull 5 = .ok (.iaload, 1) := by decide +kernel
theorem dL_isFull_6 : decode cL_isFull 6 = .ok (.if_icmp .ge 24, 3) := by decide +kernel
theorem dL_isFull_9 : decode cL_isFull 9 = .ok (.aload_n 2, 1) := by decide +kernel
theorem dL_isFull_10 : decode cL_isFull 10 = .ok (.iload_n 0, 1) := by decide +kernel
theorem dL_isFull_11 : decode cL_isFull 11 = .ok (.iconst 1, 1) := by decide +kernel
theorem dL_isFull_12 : decode cL_isFull 12 = .ok (.iadd, 1) := by decide +kernel
theorem dL_isFull_13 : decode cL_isFull 13 = .ok (.iconst 2, 1) := by decide +kernel
theorem dL_isFull_14 : decode cL_isFull 14 = .ok (.iload_n 3, 1) := by decide +kernel
theorem dL_isFull_15 : decode cL_isFull 15 = .ok (.imul, 1) := by decide +kernel
theorem dL_isFull_16 : decode cL_isFull 16 = .ok (.iadd, 1) := by decide +kernel
theorem dL_isFull_17 : decode cL_isFull 17 = .ok (.iaload, 1) := by decide +kernel
theorem dL_isFull_18 : decode cL_isFull 18 = .ok (.iload_n 1, 1) := by decide +kernel
theorem dL_isFull_19 : decode cL_isFull 19 = .ok (.if_icmp .ne 5, 3) := by decide +kernel
theorem dL_isFull_22 : decode cL_isFull 22 = .ok (.iconst 0, 1) := by decide +kernel
theorem dL_isFull_23 : decode cL_isFull 23 = .ok (.ireturn, 1) := by decide +kernel
theorem dL_isFull_24 : decode cL_isFull 24 = .ok (.iinc 3 1, 3) := by decide +kernel
theorem dL_isFull_27 : decode cL_isFull 27 = .ok (.goto (-25), 3) := by decide +kernel
theorem dL_isFull_30 : decode cL_isFull 30 = .ok (.aload_n 2, 1) := by decide +kernel
theorem dL_isFull_31 : decode cL_isFull 31 = .ok (.iload_n 0, 1) := by decide +kernel
theorem dL_isFull_32 : decode cL_isFull 32 = .ok (.iaload, 1) := by decide +kernel
theorem dL_isFull_33 : decode cL_isFull 33 = .ok (.bipush 6, 2) := by decide +kernel
theorem dL_isFull_35 : decode cL_isFull 35 = .ok (.if_icmp .ne 7, 3) := by decide +kernel
theorem dL_isFull_38 : decode cL_isFull 38 = .ok (.iconst 1, 1) := by decide +kernel
theorem dL_isFull_39 : decode cL_isFull 39 = .ok (.goto 4, 3) := by decide +kernel
theorem dL_isFull_42 : decode cL_isFull 42 = .ok (.iconst 0, 1) := by decide +kernel
theorem dL_isFull_43 : decode cL_isFull 43 = .ok (.ireturn, 1) := by decide +kernel
theorem dL_act_0 : decode cL_act 0 = .ok (.iload_n 2, 1) := by decide +kernel
theorem dL_act_1 : decode cL_act 1 = .ok (.iconst 3, 1) := by decide +kernel
theorem dL_act_2 : decode cL_act 2 = .ok (.invokestatic 71, 3) := by decide +kernel
theorem dL_act_5 : decode cL_act 5 = .ok (.istore 9, 2) := by decide +kernel
theorem dL_act_7 : decode cL_act 7 = .ok (.iload 9, 2) := by decide +kernel
theorem dL_act_9 : decode cL_act 9 = .ok (.ifCond .ne 8, 3) := by decide +kernel
theorem dL_act_12 : decode cL_act 12 = .ok (.aload 4, 2) := by decide +kernel
theorem dL_act_14 : decode cL_act 14 = .ok (.goto 16, 3) := by decide +kernel
theorem dL_act_17 : decode cL_act 17 = .ok (.iload 9, 2) := by decide +kernel
theorem dL_act_19 : decode cL_act 19 = .ok (.iconst 1, 1) := by decide +kernel
theorem dL_act_20 : decode cL_act 20 = .ok (.if_icmp .ne 8, 3) := by decide +kernel
theorem dL_act_23 : decode cL_act 23 = .ok (.aload 5, 2) := by decide +kernel
theorem dL_act_25 : decode cL_act 25 = .ok (.goto 5, 3) := by decide +kernel
theorem dL_act_28 : decode cL_act 28 = .ok (.aload 6, 2) := by decide +kernel
theorem dL_act_30 : decode cL_act 30 = .ok (.astore 10, 2) := by decide +kernel
theorem dL_act_32 : decode cL_act 32 = .ok (.iload_n 3, 1) := by decide +kernel
theorem dL_act_33 : decode cL_act 33 = .ok (.iconst 4, 1) := by decide +kernel
theorem dL_act_34 : decode cL_act 34 = .ok (.ishr, 1) := by decide +kernel
theorem dL_act_35 : decode cL_act 35 = .ok (.iload_n 2, 1) := by decide +kernel
theorem dL_act_36 : decode cL_act 36 = .ok (.bipush 9, 2) := by decide +kernel
theorem dL_act_38 : decode cL_act 38 = .ok (.ishr, 1) := by decide +kernel
theorem dL_act_39 : decode cL_act 39 = .ok (.iconst 3, 1) := by decide +kernel
theorem dL_act_40 : decode cL_act 40 = .ok (.invokestatic 71, 3) := by decide +kernel
theorem dL_act_43 : decode cL_act 43 = .ok (.ifCond .ne 9, 3) := by decide +kernel
theorem dL_act_46 : decode cL_act 46 = .ok (.sipush 300, 3) := by decide +kernel
theorem dL_act_49 : decode cL_act 49 = .ok (.goto 5, 3) := by decide +kernel
theorem dL_act_52 : decode cL_act 52 = .ok (.bipush 60, 2) := by decide +kernel
theorem dL_act_54 : decode cL_act 54 = .ok (.invokestatic 71, 3) := by decide +kernel
theorem dL_act_57 : decode cL_act 57 = .ok (.istore 11, 2) := by decide +kernel
theorem dL_act_59 : decode cL_act 59 = .ok (.iload_n 1, 1) := by decide +kernel
theorem dL_act_60 : decode cL_act 60 = .ok (.iconst 4, 1) := by decide +kernel
theorem dL_act_61 : decode cL_act 61 = .ok (.if_icmp .lt 22, 3) := by decide +kernel
theorem dL_act_64 : decode cL_act 64 = .ok (.iload_n 1, 1) := by decide +kernel
theorem dL_act_65 : decode cL_act 65 = .ok (.bipush 12, 2) := by decide +kernel
theorem dL_act_67 : decode cL_act 67 = .ok (.if_icmp .ge 92, 3) := by decide +kernel
theorem dL_act_70 : decode cL_act 70 = .ok (.iload_n 1, 1) := by decide +kernel
theorem dL_act_71 : decode cL_act 71 = .ok (.bipush 6, 2) := by decide +kernel
theorem dL_act_73 : decode cL_act 73 = .ok (.if_icmp .le 86, 3) := by decide +kernel
theorem dL_act_76 : decode cL_act 76 = .ok (.aload 10, 2) := by decide +kernel
theorem dL_act_78 : decode cL_act 78 = .ok (.iconst 0, 1) := by decide +kernel
theorem dL_act_79 : decode cL_act 79 = .ok (.iaload, 1) := by decide +kernel
theorem dL_act_80 : decode cL_act 80 = .ok (.ifCond .ne 79, 3) := by decide +kernel
theorem dL_act_83 : decode cL_act 83 = .ok (.aload 10, 2) := by decide +kernel
theorem dL_act_85 : decode cL_act 85 = .ok (.iconst 0, 1) := by decide +kernel
theorem dL_act_86 : decode cL_act 86 = .ok (.iaload, 1) := by decide +kernel
theorem dL_act_87 : decode cL_act 87 = .ok (.iconst 5, 1) := by decide +kernel
theorem dL_act_88 : decode cL_act 88 = .ok (.if_icmp .ne 5, 3) := by decide +kernel
