theorem dL_act_413 : decode cL_act 413 = .ok (.iconst 5, 1) := by decide +kernel
theorem dL_act_414 : decode cL_act 414 = .ok (.ishr, 1) := by decide +kernel
theorem dL_act_415 : decode cL_act 415 = .ok (.bipush 12, 2) := by decide +kernel
theorem dL_act_417 : decode cL_act 417 = .ok (.invokestatic 125, 3) := by decide +kernel
theorem dL_act_420 : decode cL_act 420 = .ok (.iload 4, 2) := by decide +kernel
theorem dL_act_422 : decode cL_act 422 = .ok (.bipush 7, 2) := by decide +kernel
theorem dL_act_424 : decode cL_act 424 = .ok (.ishr, 1) := by decide +kernel
theorem dL_act_425 : decode cL_act 425 = .ok (.bipush 9, 2) := by decide +kernel
theorem dL_act_427 : decode cL_act 427 = .ok (.invokestatic 125, 3) := by decide +kernel
theorem dL_act_430 : decode cL_act 430 = .ok (.iadd, 1) := by decide +kernel
theorem dL_act_431 : decode cL_act 431 = .ok (.iload_n 2, 1) := by decide +kernel
theorem dL_act_432 : decode cL_act 432 = .ok (.ifCond .eq 8, 3) := by decide +kernel
theorem dL_act_435 : decode cL_act 435 = .ok (.iload 4, 2) := by decide +kernel
theorem dL_act_437 : decode cL_act 437 = .ok (.goto 10, 3) := by decide +kernel
theorem dL_act_440 : decode cL_act 440 = .ok (.iload 4, 2) := by decide +kernel
theorem dL_act_442 : decode cL_act 442 = .ok (.iconst 4, 1) := by decide +kernel
theorem dL_act_443 : decode cL_act 443 = .ok (.ishr, 1) := by decide +kernel
theorem dL_act_444 : decode cL_act 444 = .ok (.invokestatic 131, 3) := by decide +kernel
theorem dL_act_447 : decode cL_act 447 = .ok (.invokestatic 138, 3) := by decide +kernel
theorem dL_act_450 : decode cL_act 450 = .ok (.ireturn, 1) := by decide +kernel
theorem dL_act_451 : decode cL_act 451 = .ok (.iload_n 3, 1) := by decide +kernel
theorem dL_act_452 : decode cL_act 452 = .ok (.bipush 26, 2) := by decide +kernel
theorem dL_act_454 : decode cL_act 454 = .ok (.if_icmp .ge 157, 3) := by decide +kernel
theorem dL_act_457 : decode cL_act 457 = .ok (.iload_n 2, 1) := by decide +kernel
theorem dL_act_458 : decode cL_act 458 = .ok (.ifCond .eq 15, 3) := by decide +kernel
theorem dL_act_461 : decode cL_act 461 = .ok (.iload 4, 2) := by decide +kernel
theorem dL_act_463 : decode cL_act 463 = .ok (.bipush 34, 2) := by decide +kernel
theorem dL_act_465 : decode cL_act 465 = .ok (.invokestatic 125, 3) := by decide +kernel
theorem dL_act_468 : decode cL_act 468 = .ok (.iconst 1, 1) := by decide +kernel
theorem dL_act_469 : decode cL_act 469 = .ok (.isub, 1) := by decide +kernel
theorem dL_act_470 : decode cL_act 470 = .ok (.goto 10, 3) := by decide +kernel
theorem dL_act_473 : decode cL_act 473 = .ok (.iload 4, 2) := by decide +kernel
theorem dL_act_475 : decode cL_act 475 = .ok (.bipush 10, 2) := by decide +kernel
theorem dL_act_477 : decode cL_act 477 = .ok (.invokestatic 125, 3) := by decide +kernel
theorem dL_act_480 : decode cL_act 480 = .ok (.istore 6, 2) := by decide +kernel
theorem dL_act_482 : decode cL_act 482 = .ok (.iload 4, 2) := by decide +kernel
theorem dL_act_484 : decode cL_act 484 = .ok (.iconst 3, 1) := by decide +kernel
theorem dL_act_485 : decode cL_act 485 = .ok (.ishr, 1) := by decide +kernel
theorem dL_act_486 : decode cL_act 486 = .ok (.iload_n 2, 1) := by decide +kernel
theorem dL_act_487 : decode cL_act 487 = .ok (.ifCond .eq 8, 3) := by decide +kernel
theorem dL_act_490 : decode cL_act 490 = .ok (.bipush 8, 2) := by decide +kernel
theorem dL_act_492 : decode cL_act 492 = .ok (.goto 5, 3) := by decide +kernel
theorem dL_act_495 : decode cL_act 495 = .ok (.bipush 6, 2) := by decide +kernel
theorem dL_act_497 : decode cL_act 497 = .ok (.invokestatic 125, 3) := by decide +kernel
theorem dL_act_500 : decode cL_act 500 = .ok (.istore 7, 2) := by decide +kernel
theorem dL_act_502 : decode cL_act 502 = .ok (.iload_n 3, 1) := by decide +kernel
theorem dL_act_503 : decode cL_act 503 = .ok (.bipush 17, 2) := by decide +kernel
theorem dL_act_505 : decode cL_act 505 = .ok (.if_icmp .ge 30, 3) := by decide +kernel
theorem dL_act_508 : decode cL_act 508 = .ok (.aload_n 0, 1) := by decide +kernel
theorem dL_act_509 : decode cL_act 509 = .ok (.iconst 5, 1) := by decide +kernel
theorem dL_act_510 : decode cL_act 510 = .ok (.iload 6, 2) := by decide +kernel
theorem dL_act_512 : decode cL_act 512 = .ok (.iload_n 2, 1) := by decide +kernel
theorem dL_act_513 : decode cL_act 513 = .ok (.ifCond .eq 8, 3) := by decide +kernel
theorem dL_act_516 : decode cL_act 516 = .ok (.iload 4, 2) := by decide +kernel
theorem dL_act_518 : decode cL_act 518 = .ok (.goto 10, 3) := by decide +kernel
theorem dL_act_521 : decode cL_act 521 = .ok (.iload 4, 2) := by decide +kernel
theorem dL_act_523 : decode cL_act 523 = .ok (.iconst 4, 1) := by decide +kernel
theorem dL_act_524 : decode cL_act 524 = .ok (.ishr, 1) := by decide +kernel
theorem dL_act_525 : decode cL_act 525 = .ok (.invokestatic 131, 3) := by decide +kernel
theorem dL_act_528 : decode cL_act 528 = .ok (.iconst 0, 1) := by decide +kernel
theorem dL_act_529 : decode cL_act 529 = .ok (.invokestatic 128, 3) := by decide +kernel
theorem dL_act_532 : decode cL_act 532 = .ok (.goto 78, 3) := by decide +kernel
theorem dL_act_535 : decode cL_act 535 = .ok (.iload_n 3, 1) := by decide +kernel
theorem dL_act_536 : decode cL_act 536 = .ok (.bipush 20, 2) := by decide +kernel
theorem dL_act_538 : decode cL_act 538 = .ok (.if_icmp .ge 17, 3) := by decide +kernel
theorem dL_act_541 : decode cL_act 541 = .ok (.aload_n 0, 1) := by decide +kernel
theorem dL_act_542 : decode cL_act 542 = .ok (.bipush 6, 2) := by decide +kernel
theorem dL_act_544 : decode cL_act 544 = .ok (.iload 6, 2) := by decide +kernel
theorem dL_act_546 : decode cL_act 546 = .ok (.iload 7, 2) := by decide +kernel
theorem dL_act_548 : decode cL_act 548 = .ok (.iconst 0, 1) := by decide +kernel
theorem dL_act_549 : decode cL_act 549 = .ok (.invokestatic 128, 3) := by decide +kernel
theorem dL_act_552 : decode cL_act 552 = .ok (.goto 58, 3) := by decide +kernel
theorem dL_act_555 : decode cL_act 555 = .ok (.iload_n 3, 1) := by decide +kernel
theorem dL_act_556 : decode cL_act 556 = .ok (.bipush 22, 2) := by decide +kernel
theorem dL_act_558 : decode cL_act 558 = .ok (.if_icmp .ge 16, 3) := by decide +kernel
theorem dL_act_561 : decode cL_act 561 = .ok (.aload_n 0, 1) := by decide +kernel
theorem dL_act_562 : decode cL_act 562 = .ok (.bipush 7, 2) := by decide +kernel
theorem dL_act_564 : decode cL_act 564 = .ok (.iload 7, 2) := by decide +kernel
theorem dL_act_566 : decode cL_act 566 = .ok (.iconst 0, 1) := by decide +kernel
theorem dL_act_567 : decode cL_act 567 = .ok (.iconst 0, 1) := by decide +kernel
theorem dL_act_568 : decode cL_act 568 = .ok (.invokestatic 128, 3) := by decide +kernel
theorem dL_act_571 : decode cL_act 571 = .ok (.goto 39, 3) := by decide +kernel
theorem dL_act_574 : decode cL_act 574 = .ok (.iload_n 3, 1) := by decide +kernel
theorem dL_act_575 : decode cL_act 575 = .ok (.bipush 24, 2) := by decide +kernel
theorem dL_act_577 : decode cL_act 577 = .ok (.if_icmp .ge 17, 3) := by decide +kernel
theorem dL_act_580 : decode cL_act 580 = .ok (.aload_n 0, 1) := by decide +kernel
theorem dL_act_581 : decode cL_act 581 = .ok (.bipush 8, 2) := by decide +kernel
theorem dL_act_583 : decode cL_act 583 = .ok (.iload 6, 2) := by decide +kernel
theorem dL_act_585 : decode cL_act 585 = .ok (.iload 7, 2) := by decide +kernel
theorem dL_act_587 : decode cL_act 587 = .ok (.iconst 0, 1) := by decide +kernel
theorem dL_act_588 : decode cL_act 588 = .ok (.invokestatic 128, 3) := by decide +kernel
theorem dL_act_591 : decode cL_act 591 = .ok (.goto 19, 3) := by decide +kernel
theorem dL_act_594 : decode cL_act 594 = .ok (.aload_n 0, 1) := by decide +kernel
theorem dL_act_595 : decode cL_act 595 = .ok (.bipush 9, 2) := by decide +kernel
theorem dL_act_597 : decode cL_act 597 = .ok (.iload 6, 2) := by decide +kernel
theorem dL_act_599 : decode cL_act 599 = .ok (.iload 4, 2) := by decide +kernel
theorem dL_act_601 : decode cL_act 601 = .ok (.bipush 6, 2) := by decide +kernel
theorem dL_act_603 : decode cL_act 603 = .ok (.ishr, 1) := by decide +kernel
theorem dL_act_604 : decode cL_act 604 = .ok (.iconst 1, 1) := by decide +kernel
theorem dL_act_605 : decode cL_act 605 = .ok (.iand, 1) := by decide +kernel
theorem dL_act_606 : decode cL_act 606 = .ok (.iconst 0, 1) := by decide +kernel
theorem dL_act_607 : decode cL_act 607 = .ok (.invokestatic 128, 3) := by decide +kernel
theorem dL_act_610 : decode cL_act 610 = .ok (.ireturn, 1) := by decide +kernel
theorem dL_act_611 : decode cL_act 611 = .ok (.iload_n 3, 1) := by decide +kernel
theorem dL_act_612 : decode cL_act 612 = .ok (.bipush 45, 2) := by decide +kernel
theorem dL_act_614 : decode cL_act 614 = .ok (.if_icmp .ge 274, 3) := by decide +kernel
theorem dL_act_617 : decode cL_act 617 = .ok (.iload_n 2, 1) := by decide +kernel
theorem dL_act_618 : decode cL_act 618 = .ok (.ifCond .eq 15, 3) := by decide +kernel
theorem dL_act_621 : decode cL_act 621 = .ok (.iload 4, 2) := by decide +kernel
theorem dL_act_623 : decode cL_act 623 = .ok (.bipush 34, 2) := by decide +kernel
theorem dL_act_625 : decode cL_act 625 = .ok (.invokestatic 125, 3) := by decide +kernel
theorem dL_act_628 : decode cL_act 628 = .ok (.iconst 1, 1) := by decide +kernel
theorem dL_act_629 : decode cL_act 629 = .ok (.isub, 1) := by decide +kernel
theorem dL_act_630 : decode cL_act 630 = .ok (.goto 10, 3) := by decide +kernel
theorem dL_act_633 : decode cL_act 633 = .ok (.iload 4, 2) := by decide +kernel
theorem dL_act_635 : decode cL_act 635 = .ok (.bipush 10, 2) := by decide +kernel
theorem dL_act_637 : decode cL_act 637 = .ok (.invokestatic 125, 3) := by decide +kernel
theorem dL_act_640 : decode cL_act 640 = .ok (.istore 6, 2) := by decide +kernel
theorem dL_act_642 : decode cL_act 642 = .ok (.iload_n 2, 1) := by decide +kernel
theorem dL_act_643 : decode cL_act 643 = .ok (.ifCond .eq 17, 3) := by decide +kernel
theorem dL_act_646 : decode cL_act 646 = .ok (.iload 4, 2) := by decide +kernel
theorem dL_act_648 : decode cL_act 648 = .ok (.iconst 4, 1) := by decide +kernel
theorem dL_act_649 : decode cL_act 649 = .ok (.ishr, 1) := by decide +kernel
theorem dL_act_650 : decode cL_act 650 = .ok (.bipush 23, 2) := by decide +kernel
theorem dL_act_652 : decode cL_act 652 = .ok (.invokestatic 125, 3) := by decide +kernel
theorem dL_act_655 : decode cL_act 655 = .ok (.iconst 1, 1) := by decide +kernel
theorem dL_act_656 : decode cL_act 656 = .ok (.isub, 1) := by decide +kernel
theorem dL_act_657 : decode cL_act 657 = .ok (.goto 12, 3) := by decide +kernel
theorem dL_act_660 : decode cL_act 660 = .ok (.iload 4, 2) := by decide +kernel
theorem dL_act_662 : decode cL_act 662 = .ok (.iconst 4, 1) := by decide +kernel
theorem dL_act_663 : decode cL_act 663 = .ok (.ishr, 1) := by decide +kernel
theorem dL_act_664 : decode cL_act 664 = .ok (.bipush 8, 2) := by decide +kernel
theorem dL_act_666 : decode cL_act 666 = .ok (.invokestatic 125, 3) := by decide +kernel
theorem dL_act_669 : decode cL_act 669 = .ok (.istore 7, 2) := by decide +kernel
theorem dL_act_671 : decode cL_act 671 = .ok (.iload_n 3, 1) := by decide +kernel
theorem dL_act_672 : decode cL_act 672 = .ok (.bipush 28, 2) := by decide +kernel
theorem dL_act_674 : decode cL_act 674 = .ok (.if_icmp .ge 32, 3) := by decide +kernel
theorem dL_act_677 : decode cL_act 677 = .ok (.aload_n 0, 1) := by decide +kernel
theorem dL_act_678 : decode cL_act 678 = .ok (.bipush 10, 2) := by decide +kernel
theorem dL_act_680 : decode cL_act 680 = .ok (.iload 7, 2) := by decide +kernel
theorem dL_act_682 : decode cL_act 682 = .ok (.iload_n 2, 1) := by decide +kernel
theorem dL_act_683 : decode cL_act 683 = .ok (.ifCond .eq 8, 3) := by decide +kernel
theorem dL_act_686 : decode cL_act 686 = .ok (.iload 4, 2) := by decide +kernel
theorem dL_act_688 : decode cL_act 688 = .ok (.goto 11, 3) := by decide +kernel
theorem dL_act_691 : decode cL_act 691 = .ok (.iload 4, 2) := by decide +kernel
theorem dL_act_693 : decode cL_act 693 = .ok (.bipush 6, 2) := by decide +kernel
theorem dL_act_695 : decode cL_act 695 = .ok (.ishr, 1) := by decide +kernel
theorem dL_act_696 : decode cL_act 696 = .ok (.invokestatic 131, 3) := by decide +kernel
theorem dL_act_699 : decode cL_act 699 = .ok (.iconst 0, 1) := by decide +kernel
theorem dL_act_700 : decode cL_act 700 = .ok (.invokestatic 128, 3) := by decide +kernel
theorem dL_act_703 : decode cL_act 703 = .ok (.goto 184, 3) := by decide +kernel
theorem dL_act_706 : decode cL_act 706 = .ok (.iload_n 3, 1) := by decide +kernel
theorem dL_act_707 : decode cL_act 707 = .ok (.bipush 33, 2) := by decide +kernel
theorem dL_act_709 : decode cL_act 709 = .ok (.if_icmp .ge 23, 3) := by decide +kernel
theorem dL_act_712 : decode cL_act 712 = .ok (.aload_n 0, 1) := by decide +kernel
theorem dL_act_713 : decode cL_act 713 = .ok (.bipush 11, 2) := by decide +kernel
theorem dL_act_715 : decode cL_act 715 = .ok (.iload 7, 2) := by decide +kernel
theorem dL_act_717 : decode cL_act 717 = .ok (.iload 4, 2) := by decide +kernel
theorem dL_act_719 : decode cL_act 719 = .ok (.bipush 6, 2) := by decide +kernel
theorem dL_act_721 : decode cL_act 721 = .ok (.ishr, 1) := by decide +kernel
theorem dL_act_722 : decode cL_act 722 = .ok (.invokestatic 131, 3) := by decide +kernel
theorem dL_act_725 : decode cL_act 725 = .ok (.iconst 0, 1) := by decide +kernel
theorem dL_act_726 : decode cL_act 726 = .ok (.invokestatic 128, 3) := by decide +kernel
theorem dL_act_729 : decode cL_act 729 = .ok (.goto 158, 3) := by decide +kernel
theorem dL_act_732 : decode cL_act 732 = .ok (.iload_n 3, 1) := by decide +kernel
theorem dL_act_733 : decode cL_act 733 = .ok (.bipush 33, 2) := by decide +kernel
theorem dL_act_735 : decode cL_act 735 = .ok (.if_icmp .ne 16, 3) := by decide +kernel
theorem dL_act_738 : decode cL_act 738 = .ok (.aload_n 0, 1) := by decide +kernel
theorem dL_act_739 : decode cL_act 739 = .ok (.bipush 12, 2) := by decide +kernel
theorem dL_act_741 : decode cL_act 741 = .ok (.iload 7, 2) := by decide +kernel
theorem dL_act_743 : decode cL_act 743 = .ok (.iconst 0, 1) := by decide +kernel
theorem dL_act_744 : decode cL_act 744 = .ok (.iconst 0, 1) := by decide +kernel
theorem dL_act_745 : decode cL_act 745 = .ok (.invokestatic 128, 3) := by decide +kernel
theorem dL_act_748 : decode cL_act 748 = .ok (.goto 139, 3) := by decide +kernel
theorem dL_act_751 : decode cL_act 751 = .ok (.iload_n 3, 1) := by decide +kernel
theorem dL_act_752 : decode cL_act 752 = .ok (.bipush 38, 2) := by decide +kernel
theorem dL_act_754 : decode cL_act 754 = .ok (.if_icmp .ge 17, 3) := by decide +kernel
theorem dL_act_757 : decode cL_act 757 = .ok (.aload_n 0, 1) := by decide +kernel
theorem dL_act_758 : decode cL_act 758 = .ok (.bipush 13, 2) := by decide +kernel
theorem dL_act_760 : decode cL_act 760 = .ok (.iload 6, 2) := by decide +kernel
theorem dL_act_762 : decode cL_act 762 = .ok (.iload 7, 2) := by decide +kernel
theorem dL_act_764 : decode cL_act 764 = .ok (.iconst 0, 1) := by decide +kernel
theorem dL_act_765 : decode cL_act 765 = .ok (.invokestatic 128, 3) := by decide +kernel
theorem dL_act_768 : decode cL_act 768 = .ok (.goto 119, 3) := by decide +kernel
theorem dL_act_771 : decode cL_act 771 = .ok (.iload_n 3, 1) := by decide +kernel
theorem dL_act_772 : decode cL_act 772 = .ok (.bipush 38, 2) := by decide +kernel
theorem dL_act_774 : decode cL_act 774 = .ok (.if_icmp .ne 44, 3) := by decide +kernel
theorem dL_act_777 : decode cL_act 777 = .ok (.aload_n 0, 1) := by decide +kernel
theorem dL_act_778 : decode cL_act 778 = .ok (.bipush 14, 2) := by decide +kernel
theorem dL_act_780 : decode cL_act 780 = .ok (.iload 6, 2) := by decide +kernel
theorem dL_act_782 : decode cL_act 782 = .ok (.iload_n 2, 1) := by decide +kernel
theorem dL_act_783 : decode cL_act 783 = .ok (.ifCond .eq 7, 3) := by decide +kernel
theorem dL_act_786 : decode cL_act 786 = .ok (.iconst 0, 1) := by decide +kernel
theorem dL_act_787 : decode cL_act 787 = .ok (.goto 4, 3) := by decide +kernel
theorem dL_act_790 : decode cL_act 790 = .ok (.iconst 1, 1) := by decide +kernel
theorem dL_act_791 : decode cL_act 791 = .ok (.iload 4, 2) := by decide +kernel
theorem dL_act_793 : decode cL_act 793 = .ok (.iconst 2, 1) := by decide +kernel
theorem dL_act_794 : decode cL_act 794 = .ok (.ishr, 1) := by decide +kernel
theorem dL_act_795 : decode cL_act 795 = .ok (.iload_n 2, 1) := by decide +kernel
theorem dL_act_796 : decode cL_act 796 = .ok (.ifCond .eq 9, 3) := by decide +kernel
theorem dL_act_799 : decode cL_act 799 = .ok (.sipush 500, 3) := by decide +kernel
theorem dL_act_802 : decode cL_act 802 = .ok (.goto 5, 3) := by decide +kernel
theorem dL_act_805 : decode cL_act 805 = .ok (.bipush 30, 2) := by decide +kernel
theorem dL_act_807 : decode cL_act 807 = .ok (.invokestatic 125, 3) := by decide +kernel
theorem dL_act_810 : decode cL_act 810 = .ok (.iadd, 1) := by decide +kernel
theorem dL_act_811 : decode cL_act 811 = .ok (.iconst 0, 1) := by decide +kernel
theorem dL_act_812 : decode cL_act 812 = .ok (.invokestatic 128, 3) := by decide +kernel
theorem dL_act_815 : decode cL_act 815 = .ok (.goto 72, 3) := by decide +kernel
theorem dL_act_818 : decode cL_act 818 = .ok (.iload_n 3, 1) := by decide +kernel
theorem dL_act_819 : decode cL_act 819 = .ok (.bipush 41, 2) := by decide +kernel
theorem dL_act_821 : decode cL_act 821 = .ok (.if_icmp .ge 36, 3) := by decide +kernel
theorem dL_act_824 : decode cL_act 824 = .ok (.aload_n 0, 1) := by decide +kernel
theorem dL_act_825 : decode cL_act 825 = .ok (.bipush 15, 2) := by decide +kernel
theorem dL_act_827 : decode cL_act 827 = .ok (.iload 6, 2) := by decide +kernel
theorem dL_act_829 : decode cL_act 829 = .ok (.iload_n 2, 1) := by decide +kernel
theorem dL_act_830 : decode cL_act 830 = .ok (.ifCond .eq 8, 3) := by decide +kernel
theorem dL_act_833 : decode cL_act 833 = .ok (.iload 4, 2) := by decide +kernel
theorem dL_act_835 : decode cL_act 835 = .ok (.goto 15, 3) := by decide +kernel
theorem dL_act_838 : decode cL_act 838 = .ok (.iconst 1, 1) := by decide +kernel
theorem dL_act_839 : decode cL_act 839 = .ok (.iload 4, 2) := by decide +kernel
theorem dL_act_841 : decode cL_act 841 = .ok (.iconst 3, 1) := by decide +kernel
theorem dL_act_842 : decode cL_act 842 = .ok (.ishr, 1) := by decide +kernel
theorem dL_act_843 : decode cL_act 843 = .ok (.sipush 9999, 3) := by decide +kernel
theorem dL_act_846 : decode cL_act 846 = .ok (.invokestatic 125, 3) := by decide +kernel
theorem dL_act_849 : decode cL_act 849 = .ok (.iadd, 1) := by decide +kernel
theorem dL_act_850 : decode cL_act 850 = .ok (.iconst 0, 1) := by decide +kernel
theorem dL_act_851 : decode cL_act 851 = .ok (.invokestatic 128, 3) := by decide +kernel
theorem dL_act_854 : decode cL_act 854 = .ok (.goto 33, 3) := by decide +kernel
theorem dL_act_857 : decode cL_act 857 = .ok (.iload_n 3, 1) := by decide +kernel
theorem dL_act_858 : decode cL_act 858 = .ok (.bipush 43, 2) := by decide +kernel
theorem dL_act_860 : decode cL_act 860 = .ok (.if_icmp .ge 16, 3) := by decide +kernel
theorem dL_act_863 : decode cL_act 863 = .ok (.aload_n 0, 1) := by decide +kernel
theorem dL_act_864 : decode cL_act 864 = .ok (.bipush 16, 2) := by decide +kernel
theorem dL_act_866 : decode cL_act 866 = .ok (.iload 6, 2) := by decide +kernel
theorem dL_act_868 : decode cL_act 868 = .ok (.iconst 0, 1) := by decide +kernel
theorem dL_act_869 : decode cL_act 869 = .ok (.iconst 0, 1) := by decide +kernel
theorem dL_act_870 : decode cL_act 870 = .ok (.invokestatic 128, 3) := by decide +kernel
theorem dL_act_873 : decode cL_act 873 = .ok (.goto 14, 3) := by decide +kernel
theorem dL_act_876 : decode cL_act 876 = .ok (.aload_n 0, 1) := by decide +kernel
theorem dL_act_877 : decode cL_act 877 = .ok (.bipush 17, 2) := by decide +kernel
theorem dL_act_879 : decode cL_act 879 = .ok (.iload 6, 2) := by decide +kernel
theorem dL_act_881 : decode cL_act 881 = .ok (.iload 7, 2) := by decide +kernel
theorem dL_act_883 : decode cL_act 883 = .ok (.iconst 0, 1) := by decide +kernel
theorem dL_act_884 : decode cL_act 884 = .ok (.invokestatic 128, 3) := by decide +kernel
theorem dL_act_887 : decode cL_act 887 = .ok (.ireturn, 1) := by decide +kernel
theorem dL_act_888 : decode cL_act 888 = .ok (.aload_n 0, 1) := by decide +kernel
theorem dL_act_889 : decode cL_act 889 = .ok (.bipush 18, 2) := by decide +kernel
theorem dL_act_891 : decode cL_act 891 = .ok (.iload_n 2, 1) := by decide +kernel
theorem dL_act_892 : decode cL_act 892 = .ok (.ifCond .eq 14, 3) := by decide +kernel
theorem dL_act_895 : decode cL_act 895 = .ok (.iload 4, 2) := by decide +kernel
theorem dL_act_897 : decode cL_act 897 = .ok (.sipush 500, 3) := by decide +kernel
theorem dL_act_900 : decode cL_act 900 = .ok (.invokestatic 125, 3) := by decide +kernel
theorem dL_act_903 : decode cL_act 903 = .ok (.goto 26, 3) := by decide +kernel
theorem dL_act_906 : decode cL_act 906 = .ok (.iconst 1, 1) := by decide +kernel
theorem dL_act_907 : decode cL_act 907 = .ok (.iload 4, 2) := by decide +kernel
theorem dL_act_909 : decode cL_act 909 = .ok (.iload 4, 2) := by decide +kernel
theorem dL_act_911 : decode cL_act 911 = .ok (.bipush 7, 2) := by decide +kernel
theorem dL_act_913 : decode cL_act 913 = .ok (.ishr, 1) := by decide +kernel
theorem dL_act_914 : decode cL_act 914 = .ok (.iconst 3, 1) := by decide +kernel
theorem dL_act_915 : decode cL_act 915 = .ok (.iand, 1) := by decide +kernel
theorem dL_act_916 : decode cL_act 916 = .ok (.ifCond .ne 8, 3) := by decide +kernel
theorem dL_act_919 : decode cL_act 919 = .ok (.bipush 60, 2) := by decide +kernel
theorem dL_act_921 : decode cL_act 921 = .ok (.goto 4, 3) := by decide +kernel
theorem dL_act_924 : decode cL_act 924 = .ok (.iconst 4, 1) := by decide +kernel
theorem dL_act_925 : decode cL_act 925 = .ok (.invokestatic 125, 3) := by decide +kernel
theorem dL_act_928 : decode cL_act 928 = .ok (.iadd, 1) := by decide +kernel
theorem dL_act_929 : decode cL_act 929 = .ok (.iconst 0, 1) := by decide +kernel
theorem dL_act_930 : decode cL_act 930 = .ok (.iconst 0, 1) := by decide +kernel
theorem dL_act_931 : decode cL_act 931 = .ok (.invokestatic 128, 3) := by decide +kernel
theorem dL_act_934 : decode cL_act 934 = .ok (.ireturn, 1) := by decide +kernel
set_option maxRecDepth 20000 in
theorem ggL_areAlike_X2_today : GoodIn wsL_areAlike wsX2_today := goodIn_r _ [5, 6, 330, 331, 332, 333, 334, 335, 336, 337, 338, 339, 340, 341, 342, 343, 344] (by decide +kernel) (by decide +kernel)
set_option maxRecDepth 20000 in
theorem gL_areAlike_X2_today : GoodIn wsL_areAlike (wsV RL 141 RX2 yX2_today wsX2_today) := goodIn_app (goodIn_of _ (by decide +kernel)) ggL_areAlike_X2_today
theorem ggL_areAlike_L_does_wsL_does_r1 : GoodIn wsL_areAlike wsL_does_r1 := goodIn_r _ [11, 12, 13, 14, 15, 16, 9, 17, 18, 19, 20, 4, 21, 22, 23, 24, 25, 26, 27, 28, 29, 30, 31, 32] (by decide +kernel) (by decide +kernel)
theorem ggL_areAlike_L_does_wsL_does_r2 : GoodIn wsL_areAlike wsL_does_r2 := goodIn_r _ [33, 34, 35, 36, 37, 38, 39, 40, 41, 42, 43, 44, 45, 46, 47, 48, 49, 50, 51, 52, 53, 54, 55, 56] (by decide +kernel) (by decide +kernel)
theorem ggL_areAlike_L_does_wsL_does_r3 : GoodIn wsL_areAlike wsL_does_r3 := goodIn_r _ [57, 58, 59, 60, 61, 62, 63, 64, 65, 66, 67, 68, 69, 70, 71, 72, 73, 74, 75, 76, 77, 78, 79, 80] (by decide +kernel) (by decide +kernel)
theorem ggL_areAlike_L_does_wsL_does_r4 : GoodIn wsL_areAlike wsL_does_r4 := goodIn_r _ [81, 82, 83, 84, 85, 86, 87, 88, 89, 90, 91, 92, 93, 94, 6, 95, 96, 97, 98, 99, 100, 101, 102, 103] (by decide +kernel) (by decide +kernel)
theorem ggL_areAlike_L_does_wsL_does_r5 : GoodIn wsL_areAlike wsL_does_r5 := goodIn_r _ [104, 105, 106, 107, 108, 109, 110, 111, 112, 113, 114, 115, 116, 117, 118, 119, 120, 121, 122, 123, 124, 125, 126, 127] (by decide +kernel) (by decide +kernel)
theorem ggL_areAlike_L_does_wsL_does_r6 : GoodIn wsL_areAlike wsL_does_r6 := goodIn_r _ [128, 129, 130, 131, 132, 133, 134, 135, 136, 137, 138, 139, 140, 141, 142, 143, 144, 145, 146, 147, 148, 149, 150, 151] (by decide +kernel) (by decide +kernel)
theorem ggL_areAlike_L_does_wsL_does_r7 : GoodIn wsL_areAlike wsL_does_r7 := goodIn_r _ [152, 153, 154, 155, 156, 157, 158, 159, 160, 161, 162, 163, 164, 165, 166, 167, 168, 169, 170, 171, 172, 173, 174, 175] (by decide +kernel) (by decide +kernel)
theorem ggL_areAlike_L_does_wsL_does_r8 : GoodIn wsL_areAlike wsL_does_r8 := goodIn_r _ [176, 177, 178, 179, 180, 181, 182, 183, 184, 185, 186, 187, 188, 189, 190, 191, 192, 193, 194, 195, 196, 197, 198, 199] (by decide +kernel) (by decide +kernel)
theorem ggL_areAlike_L_does_wsL_does_r9 : GoodIn wsL_areAlike wsL_does_r9 := goodIn_r _ [200, 201, 202, 203, 204, 205, 206, 207, 208, 209, 210, 211, 212, 213, 214, 215, 216, 217, 218, 219, 220, 221, 222, 223] (by decide +kernel) (by decide +kernel)
theorem ggL_areAlike_L_does_wsL_does_r10 : GoodIn wsL_areAlike wsL_does_r10 := goodIn_r _ [224, 225, 226, 227, 228, 229, 230, 231, 232, 233, 234, 235, 236, 237, 238, 239, 240, 241, 242, 243, 244, 245, 246, 247] (by decide +kernel) (by decide +kernel)
theorem ggL_areAlike_L_does_wsL_does_r11 : GoodIn wsL_areAlike wsL_does_r11 := goodIn_r _ [248, 249, 250, 251, 252, 253, 254, 255, 256, 257, 258, 259, 260, 261, 262, 263, 264, 265, 266, 267, 268, 269, 270, 271] (by decide +kernel) (by decide +kernel)
theorem ggL_areAlike_L_does_wsL_does_r12 : GoodIn wsL_areAlike wsL_does_r12 := goodIn_r _ [272, 273, 274, 275, 276, 277, 278, 279, 280, 281, 282, 283, 284, 285, 286, 287, 288, 289, 290, 291, 292, 293, 294, 295] (by decide +kernel) (by decide +kernel)
theorem ggL_areAlike_L_does_wsL_does_r13 : GoodIn wsL_areAlike wsL_does_r13 := goodIn_r _ [296, 297, 298, 299, 300, 301, 302, 303, 304, 305, 306, 307, 308, 309, 310, 311, 312, 313, 314, 315, 316, 317, 318, 319] (by decide +kernel) (by decide +kernel)
theorem ggL_areAlike_L_does_wsL_does_r14 : GoodIn wsL_areAlike wsL_does_r14 := goodIn_r _ [320, 321, 322, 323, 324, 325, 326, 327, 328, 329] (by decide +kernel) (by decide +kernel)
theorem ggL_areAlike_L_does_wsX20 : GoodIn wsL_areAlike wsX20 := goodIn_r _ [330, 331, 332, 333, 334, 335, 336, 337, 338, 339, 340, 341, 342, 343, 344] (by decide +kernel) (by decide +kernel)
theorem ggL_areAlike_L_does_wsX10 : GoodIn wsL_areAlike wsX10 := goodIn_r _ [345, 346, 347, 348, 349, 350, 351, 352, 353, 354, 355, 356, 357, 358, 359] (by decide +kernel) (by decide +kernel)
theorem ggL_areAlike_L_does_wsX00 : GoodIn wsL_areAlike wsX00 := goodIn_r _ [360, 361, 362, 363, 364, 365, 366, 367, 368, 369] (by decide +kernel) (by decide +kernel)
set_option maxRecDepth 100000 in
theorem ggL_areAlike_L_does : GoodIn wsL_areAlike wsL_does := goodIn_ca (goodIn_ca (goodIn_ca (gi_cons (gi_one (List.mem_of_getElem? (i := 10) rfl) (by decide +kernel)) (goodIn_app (goodIn_app (goodIn_app (goodIn_app ggL_areAlike_L_does_wsL_does_r1 (goodIn_app ggL_areAlike_L_does_wsL_does_r2 (goodIn_app ggL_areAlike_L_does_wsL_does_r3 (goodIn_app ggL_areAlike_L_does_wsL_does_r4 (goodIn_app ggL_areAlike_L_does_wsL_does_r5 (goodIn_app ggL_areAlike_L_does_wsL_does_r6 (goodIn_app ggL_areAlike_L_does_wsL_does_r7 (goodIn_app ggL_areAlike_L_does_wsL_does_r8 (goodIn_app ggL_areAlike_L_does_wsL_does_r9 (goodIn_app ggL_areAlike_L_does_wsL_does_r10 (goodIn_app ggL_areAlike_L_does_wsL_does_r11 (goodIn_app ggL_areAlike_L_does_wsL_does_r12 (goodIn_app ggL_areAlike_L_does_wsL_does_r13 ggL_areAlike_L_does_wsL_does_r14))))))))))))) ggL_areAlike_L_does_wsX20) ggL_areAlike_L_does_wsX10) ggL_areAlike_L_does_wsX00)) (goodIn_sub (fun _ h => List.mem_cons_of_mem _ (List.mem_append_left _ (List.mem_append_left _ (List.mem_append_right _ h)))) (by decide +kernel))) (goodIn_sub (fun _ h => List.mem_cons_of_mem _ (List.mem_append_left _ (List.mem_append_right _ h))) (by decide +kernel))) (goodIn_sub (fun _ h => List.mem_cons_of_mem _ (List.mem_append_right _ h)) (by decide +kernel))
set_option maxRecDepth 20000 in
theorem gL_areAlike_L_does : GoodIn wsL_areAlike (va_wsS RL 128 yL_does wsL_does) := goodIn_app (goodIn_of _ (by decide +kernel)) ggL_areAlike_L_does
theorem dL_areAlike_0 : decode cL_areAlike 0 = .ok (.aload_n 0, 1) := by decide +kernel
theorem dL_areAlike_1 : decode cL_areAlike 1 = .ok (.invokevirtual 141, 3) := by decide +kernel
theorem dL_areAlike_4 : decode cL_areAlike 4 = .ok (.aload_n 1, 1) := by decide +kernel
theorem dL_areAlike_5 : decode cL_areAlike 5 = .ok (.invokevirtual 141, 3) := by decide +kernel
theorem dL_areAlike_8 : decode cL_areAlike 8 = .ok (.if_icmp .ne 7, 3) := by decide +kernel
theorem dL_areAlike_11 : decode cL_areAlike 11 = .ok (.iconst 1, 1) := by decide +kernel
theorem dL_areAlike_12 : decode cL_areAlike 12 = .ok (.goto 4, 3) := by decide +kernel
theorem dL_areAlike_15 : decode cL_areAlike 15 = .ok (.iconst 0, 1) := by decide +kernel
theorem dL_areAlike_16 : decode cL_areAlike 16 = .ok (.istore_n 3, 1) := by decide +kernel
theorem dL_areAlike_17 : decode cL_areAlike 17 = .ok (.iconst 0, 1) := by decide +kernel
theorem dL_areAlike_18 : decode cL_areAlike 18 = .ok (.istore 4, 2) := by decide +kernel
theorem dL_areAlike_20 : decode cL_areAlike 20 = .ok (.iload 4, 2) := by decide +kernel
theorem dL_areAlike_22 : decode cL_areAlike 22 = .ok (.bipush 16, 2) := by decide +kernel
theorem dL_areAlike_24 : decode cL_areAlike 24 = .ok (.if_icmp .ge 266, 3) := by decide +kernel
theorem dL_areAlike_27 : decode cL_areAlike 27 = .ok (.iload_n 3, 1) := by decide +kernel
theorem dL_areAlike_28 : decode cL_areAlike 28 = .ok (.ifCond .eq 262, 3) := by decide +kernel
theorem dL_areAlike_31 : decode cL_areAlike 31 = .ok (.aload_n 0, 1) := by decide +kernel
theorem dL_areAlike_32 : decode cL_areAlike 32 = .ok (.bipush 23, 2) := by decide +kernel
theorem dL_areAlike_34 : decode cL_areAlike 34 = .ok (.iload 4, 2) := by decide +kernel
theorem dL_areAlike_36 : decode cL_areAlike 36 = .ok (.iconst 0, 1) := by decide +kernel
theorem dL_areAlike_37 : decode cL_areAlike 37 = .ok (.iconst 0, 1) := by decide +kernel
theorem dL_areAlike_38 : decode cL_areAlike 38 = .ok (.invokestatic 128, 3) := by decide +kernel
theorem dL_areAlike_41 : decode cL_areAlike 41 = .ok (.aload_n 1, 1) := by decide +kernel
theorem dL_areAlike_42 : decode cL_areAlike 42 = .ok (.bipush 23, 2) := by decide +kernel
theorem dL_areAlike_44 : decode cL_areAlike 44 = .ok (.iload 4, 2) := by decide +kernel
theorem dL_areAlike_46 : decode cL_areAlike 46 = .ok (.iconst 0, 1) := by decide +kernel
theorem dL_areAlike_47 : decode cL_areAlike 47 = .ok (.iconst 0, 1) := by decide +kernel
theorem dL_areAlike_48 : decode cL_areAlike 48 = .ok (.invokestatic 128, 3) := by decide +kernel
theorem dL_areAlike_51 : decode cL_areAlike 51 = .ok (.if_icmp .ne 76, 3) := by decide +kernel
theorem dL_areAlike_54 : decode cL_areAlike 54 = .ok (.aload_n 0, 1) := by decide +kernel
theorem dL_areAlike_55 : decode cL_areAlike 55 = .ok (.bipush 21, 2) := by decide +kernel
theorem dL_areAlike_57 : decode cL_areAlike 57 = .ok (.iload 4, 2) := by decide +kernel
theorem dL_areAlike_59 : decode cL_areAlike 59 = .ok (.iconst 0, 1) := by decide +kernel
theorem dL_areAlike_60 : decode cL_areAlike 60 = .ok (.iconst 0, 1) := by decide +kernel
theorem dL_areAlike_61 : decode cL_areAlike 61 = .ok (.invokestatic 128, 3) := by decide +kernel
theorem dL_areAlike_64 : decode cL_areAlike 64 = .ok (.aload_n 1, 1) := by decide +kernel
theorem dL_areAlike_65 : decode cL_areAlike 65 = .ok (.bipush 21, 2) := by decide +kernel
theorem dL_areAlike_67 : decode cL_areAlike 67 = .ok (.iload 4, 2) := by decide +kernel
theorem dL_areAlike_69 : decode cL_areAlike 69 = .ok (.iconst 0, 1) := by decide +kernel
theorem dL_areAlike_70 : decode cL_areAlike 70 = .ok (.iconst 0, 1) := by decide +kernel
theorem dL_areAlike_71 : decode cL_areAlike 71 = .ok (.invokestatic 128, 3) := by decide +kernel
theorem dL_areAlike_74 : decode cL_areAlike 74 = .ok (.if_icmp .ne 53, 3) := by decide +kernel
theorem dL_areAlike_77 : decode cL_areAlike 77 = .ok (.aload_n 0, 1) := by decide +kernel
theorem dL_areAlike_78 : decode cL_areAlike 78 = .ok (.bipush 28, 2) := by decide +kernel
theorem dL_areAlike_80 : decode cL_areAlike 80 = .ok (.iload 4, 2) := by decide +kernel
theorem dL_areAlike_82 : decode cL_areAlike 82 = .ok (.iconst 0, 1) := by decide +kernel
theorem dL_areAlike_83 : decode cL_areAlike 83 = .ok (.iconst 0, 1) := by decide +kernel
theorem dL_areAlike_84 : decode cL_areAlike 84 = .ok (.invokestatic 128, 3) := by decide +kernel
theorem dL_areAlike_87 : decode cL_areAlike 87 = .ok (.aload_n 1, 1) := by decide +kernel
theorem dL_areAlike_88 : decode cL_areAlike 88 = .ok (.bipush 28, 2) := by decide +kernel
theorem dL_areAlike_90 : decode cL_areAlike 90 = .ok (.iload 4, 2) := by decide +kernel
theorem dL_areAlike_92 : decode cL_areAlike 92 = .ok (.iconst 0, 1) := by decide +kernel
theorem dL_areAlike_93 : decode cL_areAlike 93 = .ok (.iconst 0, 1) := by decide +kernel
theorem dL_areAlike_94 : decode cL_areAlike 94 = .ok (.invokestatic 128, 3) := by decide +kernel
theorem dL_areAlike_97 : decode cL_areAlike 97 = .ok (.if_icmp .ne 30, 3) := by decide +kernel
theorem dL_areAlike_100 : decode cL_areAlike 100 = .ok (.aload_n 0, 1) := by decide +kernel
theorem dL_areAlike_101 : decode cL_areAlike 101 = .ok (.bipush 27, 2) := by decide +kernel
theorem dL_areAlike_103 : decode cL_areAlike 103 = .ok (.iload 4, 2) := by decide +kernel
theorem dL_areAlike_105 : decode cL_areAlike 105 = .ok (.iconst 0, 1) := by decide +kernel
theorem dL_areAlike_106 : decode cL_areAlike 106 = .ok (.iconst 0, 1) := by decide +kernel
theorem dL_areAlike_107 : decode cL_areAlike 107 = .ok (.invokestatic 128, 3) := by decide +kernel
theorem dL_areAlike_110 : decode cL_areAlike 110 = .ok (.aload_n 1, 1) := by decide +kernel
theorem dL_areAlike_111 : decode cL_areAlike 111 = .ok (.bipush 27, 2) := by decide +kernel
theorem dL_areAlike_113 : decode cL_areAlike 113 = .ok (.iload 4, 2) := by decide +kernel
theorem dL_areAlike_115 : decode cL_areAlike 115 = .ok (.iconst 0, 1) := by decide +kernel
theorem dL_areAlike_116 : decode cL_areAlike 116 = .ok (.iconst 0, 1) := by decide +kernel
theorem dL_areAlike_117 : decode cL_areAlike 117 = .ok (.invokestatic 128, 3) := by decide +kernel
theorem dL_areAlike_120 : decode cL_areAlike 120 = .ok (.if_icmp .ne 7, 3) := by decide +kernel
theorem dL_areAlike_123 : decode cL_areAlike 123 = .ok (.iconst 1, 1) := by decide +kernel
theorem dL_areAlike_124 : decode cL_areAlike 124 = .ok (.goto 4, 3) := by decide +kernel
theorem dL_areAlike_127 : decode cL_areAlike 127 = .ok (.iconst 0, 1) := by decide +kernel
theorem dL_areAlike_128 : decode cL_areAlike 128 = .ok (.istore_n 3, 1) := by decide +kernel
theorem dL_areAlike_129 : decode cL_areAlike 129 = .ok (.iconst 0, 1) := by decide +kernel
theorem dL_areAlike_130 : decode cL_areAlike 130 = .ok (.istore 5, 2) := by decide +kernel
theorem dL_areAlike_132 : decode cL_areAlike 132 = .ok (.iload 5, 2) := by decide +kernel
theorem dL_areAlike_134 : decode cL_areAlike 134 = .ok (.bipush 8, 2) := by decide +kernel
theorem dL_areAlike_136 : decode cL_areAlike 136 = .ok (.if_icmp .ge 148, 3) := by decide +kernel
theorem dL_areAlike_139 : decode cL_areAlike 139 = .ok (.iload_n 3, 1) := by decide +kernel
theorem dL_areAlike_140 : decode cL_areAlike 140 = .ok (.ifCond .eq 144, 3) := by decide +kernel
theorem dL_areAlike_143 : decode cL_areAlike 143 = .ok (.aload_n 0, 1) := by decide +kernel
theorem dL_areAlike_144 : decode cL_areAlike 144 = .ok (.bipush 19, 2) := by decide +kernel
theorem dL_areAlike_146 : decode cL_areAlike 146 = .ok (.iload 4, 2) := by decide +kernel
theorem dL_areAlike_148 : decode cL_areAlike 148 = .ok (.iload 5, 2) := by decide +kernel
theorem dL_areAlike_150 : decode cL_areAlike 150 = .ok (.iconst 0, 1) := by decide +kernel
theorem dL_areAlike_151 : decode cL_areAlike 151 = .ok (.invokestatic 128, 3) := by decide +kernel
theorem dL_areAlike_154 : decode cL_areAlike 154 = .ok (.aload_n 1, 1) := by decide +kernel
theorem dL_areAlike_155 : decode cL_areAlike 155 = .ok (.bipush 19, 2) := by decide +kernel
theorem dL_areAlike_157 : decode cL_areAlike 157 = .ok (.iload 4, 2) := by decide +kernel
theorem dL_areAlike_159 : decode cL_areAlike 159 = .ok (.iload 5, 2) := by decide +kernel
theorem dL_areAlike_161 : decode cL_areAlike 161 = .ok (.iconst 0, 1) := by decide +kernel
theorem dL_areAlike_162 : decode cL_areAlike 162 = .ok (.invokestatic 128, 3) := by decide +kernel
theorem dL_areAlike_165 : decode cL_areAlike 165 = .ok (.if_icmp .ne 111, 3) := by decide +kernel
theorem dL_areAlike_168 : decode cL_areAlike 168 = .ok (.aload_n 0, 1) := by decide +kernel
theorem dL_areAlike_169 : decode cL_areAlike 169 = .ok (.bipush 20, 2) := by decide +kernel
theorem dL_areAlike_171 : decode cL_areAlike 171 = .ok (.iload 5, 2) := by decide +kernel
theorem dL_areAlike_173 : decode cL_areAlike 173 = .ok (.iload 4, 2) := by decide +kernel
theorem dL_areAlike_175 : decode cL_areAlike 175 = .ok (.iconst 0, 1) := by decide +kernel
theorem dL_areAlike_176 : decode cL_areAlike 176 = .ok (.invokestatic 128, 3) := by decide +kernel
theorem dL_areAlike_179 : decode cL_areAlike 179 = .ok (.aload_n 1, 1) := by decide +kernel
theorem dL_areAlike_180 : decode cL_areAlike 180 = .ok (.bipush 20, 2) := by decide +kernel
theorem dL_areAlike_182 : decode cL_areAlike 182 = .ok (.iload 5, 2) := by decide +kernel
theorem dL_areAlike_184 : decode cL_areAlike 184 = .ok (.iload 4, 2) := by decide +kernel
theorem dL_areAlike_186 : decode cL_areAlike 186 = .ok (.iconst 0, 1) := by decide +kernel
theorem dL_areAlike_187 : decode cL_areAlike 187 = .ok (.invokestatic 128, 3) := by decide +kernel
theorem dL_areAlike_190 : decode cL_areAlike 190 = .ok (.if_icmp .ne 86, 3) := by decide +kernel
theorem dL_areAlike_193 : decode cL_areAlike 193 = .ok (.aload_n 0, 1) := by decide +kernel
theorem dL_areAlike_194 : decode cL_areAlike 194 = .ok (.bipush 24, 2) := by decide +kernel
theorem dL_areAlike_196 : decode cL_areAlike 196 = .ok (.iload 4, 2) := by decide +kernel
theorem dL_areAlike_198 : decode cL_areAlike 198 = .ok (.iload 5, 2) := by decide +kernel
theorem dL_areAlike_200 : decode cL_areAlike 200 = .ok (.iconst 0, 1) := by decide +kernel
theorem dL_areAlike_201 : decode cL_areAlike 201 = .ok (.invokestatic 128, 3) := by decide +kernel
theorem dL_areAlike_204 : decode cL_areAlike 204 = .ok (.aload_n 1, 1) := by decide +kernel
theorem dL_areAlike_205 : decode cL_areAlike 205 = .ok (.bipush 24, 2) := by decide +kernel
theorem dL_areAlike_207 : decode cL_areAlike 207 = .ok (.iload 4, 2) := by decide +kernel
theorem dL_areAlike_209 : decode cL_areAlike 209 = .ok (.iload 5, 2) := by decide +kernel
theorem dL_areAlike_211 : decode cL_areAlike 211 = .ok (.iconst 0, 1) := by decide +kernel
theorem dL_areAlike_212 : decode cL_areAlike 212 = .ok (.invokestatic 128, 3) := by decide +kernel
theorem dL_areAlike_215 : decode cL_areAlike 215 = .ok (.if_icmp .ne 61, 3) := by decide +kernel
theorem dL_areAlike_218 : decode cL_areAlike 218 = .ok (.aload_n 0, 1) := by decide +kernel
theorem dL_areAlike_219 : decode cL_areAlike 219 = .ok (.bipush 26, 2) := by decide +kernel
theorem dL_areAlike_221 : decode cL_areAlike 221 = .ok (.iload 4, 2) := by decide +kernel
theorem dL_areAlike_223 : decode cL_areAlike 223 = .ok (.iload 5, 2) := by decide +kernel
theorem dL_areAlike_225 : decode cL_areAlike 225 = .ok (.iconst 0, 1) := by decide +kernel
theorem dL_areAlike_226 : decode cL_areAlike 226 = .ok (.invokestatic 128, 3) := by decide +kernel
theorem dL_areAlike_229 : decode cL_areAlike 229 = .ok (.aload_n 1, 1) := by decide +kernel
theorem dL_areAlike_230 : decode cL_areAlike 230 = .ok (.bipush 26, 2) := by decide +kernel
theorem dL_areAlike_232 : decode cL_areAlike 232 = .ok (.iload 4, 2) := by decide +kernel
theorem dL_areAlike_234 : decode cL_areAlike 234 = .ok (.iload 5, 2) := by decide +kernel
theorem dL_areAlike_236 : decode cL_areAlike 236 = .ok (.iconst 0, 1) := by decide +kernel
theorem dL_areAlike_237 : decode cL_areAlike 237 = .ok (.invokestatic 128, 3) := by decide +kernel
theorem dL_areAlike_240 : decode cL_areAlike 240 = .ok (.if_icmp .ne 36, 3) := by decide +kernel
theorem dL_areAlike_243 : decode cL_areAlike 243 = .ok (.aload_n 0, 1) := by decide +kernel
theorem dL_areAlike_244 : decode cL_areAlike 244 = .ok (.bipush 25, 2) := by decide +kernel
theorem dL_areAlike_246 : decode cL_areAlike 246 = .ok (.iload 4, 2) := by decide +kernel
theorem dL_areAlike_248 : decode cL_areAlike 248 = .ok (.iload 5, 2) := by decide +kernel
theorem dL_areAlike_250 : decode cL_areAlike 250 = .ok (.iload_n 2, 1) := by decide +kernel
theorem dL_areAlike_251 : decode cL_areAlike 251 = .ok (.iconst 1, 1) := by decide +kernel
theorem dL_areAlike_252 : decode cL_areAlike 252 = .ok (.iand, 1) := by decide +kernel
theorem dL_areAlike_253 : decode cL_areAlike 253 = .ok (.invokestatic 128, 3) := by decide +kernel
theorem dL_areAlike_256 : decode cL_areAlike 256 = .ok (.aload_n 1, 1) := by decide +kernel
theorem dL_areAlike_257 : decode cL_areAlike 257 = .ok (.bipush 25, 2) := by decide +kernel
theorem dL_areAlike_259 : decode cL_areAlike 259 = .ok (.iload 4, 2) := by decide +kernel
theorem dL_areAlike_261 : decode cL_areAlike 261 = .ok (.iload 5, 2) := by decide +kernel
theorem dL_areAlike_263 : decode cL_areAlike 263 = .ok (.iload_n 2, 1) := by decide +kernel
theorem dL_areAlike_264 : decode cL_areAlike 264 = .ok (.iconst 1, 1) := by decide +kernel
theorem dL_areAlike_265 : decode cL_areAlike 265 = .ok (.iand, 1) := by decide +kernel
theorem dL_areAlike_266 : decode cL_areAlike 266 = .ok (.invokestatic 128, 3) := by decide +kernel
theorem dL_areAlike_269 : decode cL_areAlike 269 = .ok (.if_icmp .ne 7, 3) := by decide +kernel
theorem dL_areAlike_272 : decode cL_areAlike 272 = .ok (.iconst 1, 1) := by decide +kernel
theorem dL_areAlike_273 : decode cL_areAlike 273 = .ok (.goto 4, 3) := by decide +kernel
theorem dL_areAlike_276 : decode cL_areAlike 276 = .ok (.iconst 0, 1) := by decide +kernel
theorem dL_areAlike_277 : decode cL_areAlike 277 = .ok (.istore_n 3, 1) := by decide +kernel
theorem dL_areAlike_278 : decode cL_areAlike 278 = .ok (.iinc 5 1, 3) := by decide +kernel
theorem dL_areAlike_281 : decode cL_areAlike 281 = .ok (.goto (-149), 3) := by decide +kernel
theorem dL_areAlike_284 : decode cL_areAlike 284 = .ok (.iinc 4 1, 3) := by decide +kernel
theorem dL_areAlike_287 : decode cL_areAlike 287 = .ok (.goto (-267), 3) := by decide +kernel
theorem dL_areAlike_290 : decode cL_areAlike 290 = .ok (.iload_n 3, 1) := by decide +kernel
theorem dL_areAlike_291 : decode cL_areAlike 291 = .ok (.ireturn, 1) := by decide +kernel
theorem dL_count_0 : decode cL_count 0 = .ok (.iconst 0, 1) := by decide +kernel
theorem dL_count_1 : decode cL_count 1 = .ok (.istore_n 1, 1) := by decide +kernel
theorem dL_count_2 : decode cL_count 2 = .ok (.iconst 0, 1) := by decide +kernel
theorem dL_count_3 : decode cL_count 3 = .ok (.istore_n 2, 1) := by decide +kernel
theorem dL_count_4 : decode cL_count 4 = .ok (.iload_n 2, 1) := by decide +kernel
theorem dL_count_5 : decode cL_count 5 = .ok (.bipush 31, 2) := by decide +kernel
theorem dL_count_7 : decode cL_count 7 = .ok (.if_icmp .ge 17, 3) := by decide +kernel
theorem dL_count_10 : decode cL_count 10 = .ok (.iload_n 1, 1) := by decide +kernel
theorem dL_count_11 : decode cL_count 11 = .ok (.iload_n 0, 1) := by decide +kernel
theorem dL_count_12 : decode cL_count 12 = .ok (.iload_n 2, 1) := by decide +kernel
theorem dL_count_13 : decode cL_count 13 = .ok (.ishr, 1) := by decide +kernel
theorem dL_count_14 : decode cL_count 14 = .ok (.iconst 1, 1) := by decide +kernel
theorem dL_count_15 : decode cL_count 15 = .ok (.iand, 1) := by decide +kernel
theorem dL_count_16 : decode cL_count 16 = .ok (.iadd, 1) := by decide +kernel
theorem dL_count_17 : decode cL_count 17 = .ok (.istore_n 1, 1) := by decide +kernel
theorem dL_count_18 : decode cL_count 18 = .ok (.iinc 2 1, 3) := by decide +kernel
theorem dL_count_21 : decode cL_count 21 = .ok (.goto (-17), 3) := by decide +kernel
theorem dL_count_24 : decode cL_count 24 = .ok (.iload_n 1, 1) := by decide +kernel
theorem dL_count_25 : decode cL_count 25 = .ok (.ireturn, 1) := by decide +kernel
set_option maxRecDepth 20000 in
theorem ggL_areFinds_X2_audit : GoodIn wsL_areFinds wsX2_audit := goodIn_ca (goodIn_r _ [6, 7, 8, 9, 10, 11, 5, 12, 13, 14, 15, 16, 17, 330, 331, 332, 333, 334, 335, 336, 337, 338, 339, 340, 341, 342, 343, 344, 345, 346, 347, 348, 349, 350, 351, 352, 353, 354, 355, 356, 357, 358, 359] (by decide +kernel) (by decide +kernel)) (goodIn_sub (fun _ h => List.mem_cons_of_mem _ (List.mem_append_left _ (List.mem_append_left _ (List.mem_append_right _ h)))) (by decide +kernel))
set_option maxRecDepth 20000 in
theorem gL_areFinds_X2_audit : GoodIn wsL_areFinds (wsV RL 75 RX2 yX2_audit wsX2_audit) := goodIn_app (goodIn_of _ (by decide +kernel)) ggL_areFinds_X2_audit
theorem ggL_areFinds_L_does_wsL_does_r1 : GoodIn wsL_areFinds wsL_does_r1 := goodIn_r _ [22, 23, 24, 1, 25, 26, 20, 27, 28, 29, 30, 5, 31, 32, 33, 34, 35, 13, 14, 36, 37, 38, 39, 40] (by decide +kernel) (by decide +kernel)
theorem ggL_areFinds_L_does_wsL_does_r2 : GoodIn wsL_areFinds wsL_does_r2 := goodIn_r _ [41, 42, 43, 44, 45, 46, 47, 48, 15, 16, 17, 49, 50, 51, 52, 53, 54, 55, 10, 11, 12, 56, 57, 58] (by decide +kernel) (by decide +kernel)
theorem ggL_areFinds_L_does_wsL_does_r3 : GoodIn wsL_areFinds wsL_does_r3 := goodIn_r _ [59, 60, 61, 62, 63, 64, 65, 66, 67, 68, 69, 70, 71, 72, 8, 73, 74, 75, 76, 77, 7, 78, 79, 80] (by decide +kernel) (by decide +kernel)
theorem ggL_areFinds_L_does_wsL_does_r4 : GoodIn wsL_areFinds wsL_does_r4 := goodIn_r _ [81, 82, 83, 84, 85, 9, 86, 87, 88, 89, 90, 91, 92, 93, 94, 95, 96, 97, 98, 99, 100, 101, 102, 103] (by decide +kernel) (by decide +kernel)
theorem ggL_areFinds_L_does_wsL_does_r5 : GoodIn wsL_areFinds wsL_does_r5 := goodIn_r _ [104, 105, 106, 107, 108, 109, 110, 111, 112, 113, 114, 115, 116, 117, 118, 119, 120, 121, 122, 123, 124, 125, 126, 127] (by decide +kernel) (by decide +kernel)
theorem ggL_areFinds_L_does_wsL_does_r6 : GoodIn wsL_areFinds wsL_does_r6 := goodIn_r _ [128, 129, 130, 131, 132, 133, 134, 135, 136, 137, 138, 139, 140, 141, 142, 143, 144, 145, 146, 147, 148, 149, 150, 151] (by decide +kernel) (by decide +kernel)
theorem ggL_areFinds_L_does_wsL_does_r7 : GoodIn wsL_areFinds wsL_does_r7 := goodIn_r _ [152, 153, 154, 155, 156, 157, 158, 159, 160, 161, 162, 163, 164, 165, 166, 167, 168, 169, 170, 171, 172, 173, 174, 175] (by decide +kernel) (by decide +kernel)
theorem ggL_areFinds_L_does_wsL_does_r8 : GoodIn wsL_areFinds wsL_does_r8 := goodIn_r _ [176, 177, 178, 179, 180, 181, 182, 183, 184, 185, 186, 187, 188, 189, 190, 191, 192, 193, 194, 195, 196, 197, 198, 199] (by decide +kernel) (by decide +kernel)
theorem ggL_areFinds_L_does_wsL_does_r9 : GoodIn wsL_areFinds wsL_does_r9 := goodIn_r _ [200, 201, 202, 203, 204, 205, 206, 207, 208, 209, 210, 211, 212, 213, 214, 215, 216, 217, 218, 219, 220, 221, 222, 223] (by decide +kernel) (by decide +kernel)
theorem ggL_areFinds_L_does_wsL_does_r10 : GoodIn wsL_areFinds wsL_does_r10 := goodIn_r _ [224, 225, 226, 227, 228, 229, 230, 231, 232, 233, 234, 235, 236, 237, 238, 239, 240, 241, 242, 243, 244, 245, 246, 247] (by decide +kernel) (by decide +kernel)
theorem ggL_areFinds_L_does_wsL_does_r11 : GoodIn wsL_areFinds wsL_does_r11 := goodIn_r _ [248, 249, 250, 251, 252, 253, 254, 255, 256, 257, 258, 259, 260, 261, 262, 263, 264, 265, 266, 267, 268, 269, 270, 271] (by decide +kernel) (by decide +kernel)
theorem ggL_areFinds_L_does_wsL_does_r12 : GoodIn wsL_areFinds wsL_does_r12 := goodIn_r _ [272, 273, 274, 275, 276, 277, 278, 279, 280, 281, 282, 283, 284, 285, 286, 287, 288, 289, 290, 291, 292, 293, 294, 295] (by decide +kernel) (by decide +kernel)
theorem ggL_areFinds_L_does_wsL_does_r13 : GoodIn wsL_areFinds wsL_does_r13 := goodIn_r _ [296, 297, 298, 299, 300, 301, 302, 303, 304, 305, 306, 307, 308, 309, 310, 311, 312, 313, 314, 315, 316, 317, 318, 319] (by decide +kernel) (by decide +kernel)
theorem ggL_areFinds_L_does_wsL_does_r14 : GoodIn wsL_areFinds wsL_does_r14 := goodIn_r _ [320, 321, 322, 323, 324, 325, 2, 3, 4, 6] (by decide +kernel) (by decide +kernel)
theorem ggL_areFinds_L_does_wsX20 : GoodIn wsL_areFinds wsX20 := goodIn_r _ [330, 331, 332, 333, 334, 335, 336, 337, 338, 339, 340, 341, 342, 343, 344] (by decide +kernel) (by decide +kernel)
theorem ggL_areFinds_L_does_wsX10 : GoodIn wsL_areFinds wsX10 := goodIn_r _ [345, 346, 347, 348, 349, 350, 351, 352, 353, 354, 355, 356, 357, 358, 359] (by decide +kernel) (by decide +kernel)
theorem ggL_areFinds_L_does_wsX00 : GoodIn wsL_areFinds wsX00 := goodIn_r _ [360, 361, 362, 363, 364, 365, 366, 367, 368, 369] (by decide +kernel) (by decide +kernel)
set_option maxRecDepth 100000 in
theorem ggL_areFinds_L_does : GoodIn wsL_areFinds wsL_does := goodIn_ca (goodIn_ca (goodIn_ca (gi_cons (gi_one (List.mem_of_getElem? (i := 21) rfl) (by decide +kernel)) (goodIn_app (goodIn_app (goodIn_app (goodIn_app ggL_areFinds_L_does_wsL_does_r1 (goodIn_app ggL_areFinds_L_does_wsL_does_r2 (goodIn_app ggL_areFinds_L_does_wsL_does_r3 (goodIn_app ggL_areFinds_L_does_wsL_does_r4 (goodIn_app ggL_areFinds_L_does_wsL_does_r5 (goodIn_app ggL_areFinds_L_does_wsL_does_r6 (goodIn_app ggL_areFinds_L_does_wsL_does_r7 (goodIn_app ggL_areFinds_L_does_wsL_does_r8 (goodIn_app ggL_areFinds_L_does_wsL_does_r9 (goodIn_app ggL_areFinds_L_does_wsL_does_r10 (goodIn_app ggL_areFinds_L_does_wsL_does_r11 (goodIn_app ggL_areFinds_L_does_wsL_does_r12 (goodIn_app ggL_areFinds_L_does_wsL_does_r13 ggL_areFinds_L_does_wsL_does_r14))))))))))))) ggL_areFinds_L_does_wsX20) ggL_areFinds_L_does_wsX10) ggL_areFinds_L_does_wsX00)) (goodIn_sub (fun _ h => List.mem_cons_of_mem _ (List.mem_append_left _ (List.mem_append_left _ (List.mem_append_right _ h)))) (by decide +kernel))) (goodIn_sub (fun _ h => List.mem_cons_of_mem _ (List.mem_append_left _ (List.mem_append_right _ h))) (by decide +kernel))) (goodIn_sub (fun _ h => List.mem_cons_of_mem _ (List.mem_append_right _ h)) (by decide +kernel))
set_option maxRecDepth 20000 in
theorem gL_areFinds_L_does : GoodIn wsL_areFinds (va_wsS RL 128 yL_does wsL_does) := goodIn_app (goodIn_of _ (by decide +kernel)) ggL_areFinds_L_does
set_option maxRecDepth 20000 in
theorem ggL_areFinds_X2_ofFind : GoodIn wsL_areFinds wsX2_ofFind := goodIn_ca (goodIn_ca (goodIn_r _ [311, 36, 37, 8, 9, 230, 73, 95, 74, 75, 76, 5, 77, 13, 14, 7, 345, 346, 347, 348, 349, 350, 351, 352, 353, 354, 355, 356, 357, 358, 359, 330, 331, 332, 333, 334, 335, 336, 337, 338, 339, 340, 341, 342, 343, 344] (by decide +kernel) (by decide +kernel)) (goodIn_sub (fun _ h => List.mem_cons_of_mem _ (List.mem_append_left _ (List.mem_append_right _ h))) (by decide +kernel))) (goodIn_sub (fun _ h => List.mem_cons_of_mem _ (List.mem_append_left _ (List.mem_append_left _ (List.mem_append_right _ h)))) (by decide +kernel))
set_option maxRecDepth 20000 in
theorem gL_areFinds_X2_ofFind : GoodIn wsL_areFinds (wsV RL 62 RX2 yX2_ofFind wsX2_ofFind) := goodIn_app (goodIn_of _ (by decide +kernel)) ggL_areFinds_X2_ofFind
set_option maxRecDepth 20000 in
theorem ggL_areFinds_X2_hand : GoodIn wsL_areFinds wsX2_hand := goodIn_ca (goodIn_r _ [315, 13, 14, 95, 316, 317, 74, 75, 76, 5, 77, 7, 345, 346, 347, 348, 349, 350, 351, 352, 353, 354, 355, 356, 357, 358, 359, 330, 331, 332, 333, 334, 335, 336, 337, 338, 339, 340, 341, 342, 343, 344] (by decide +kernel) (by decide +kernel)) (goodIn_sub (fun _ h => List.mem_cons_of_mem _ (List.mem_append_left _ (List.mem_append_left _ (List.mem_append_right _ h)))) (by decide +kernel))
set_option maxRecDepth 20000 in
theorem gL_areFinds_X2_hand : GoodIn wsL_areFinds (wsV RL 65 RX2 yX2_hand wsX2_hand) := goodIn_app (goodIn_of _ (by decide +kernel)) ggL_areFinds_X2_hand
set_option maxRecDepth 20000 in
theorem ggL_areFinds_X2_isDue : GoodIn wsL_areFinds wsX2_isDue := goodIn_ca (goodIn_r _ [307, 74, 75, 76, 5, 77, 13, 14, 7, 238, 239, 240, 241, 8, 94, 230, 114, 242, 243, 244, 245, 128, 162, 163, 164, 165, 132, 67, 166, 167, 168, 169, 154, 170, 171, 172, 173, 174, 175, 176, 177, 178, 179, 180, 181, 182, 183, 184, 185, 186, 187, 42, 188, 189, 190, 191, 192, 193, 194, 195, 55, 196, 197, 198, 199, 200, 201, 202, 73, 72, 137, 123, 203, 204, 205, 206, 32, 56, 57, 58, 59, 60, 61, 62, 330, 331, 332, 333, 334, 335, 336, 337, 338, 339, 340, 341, 342, 343, 344, 345, 346, 347, 348, 349, 350, 351, 352, 353, 354, 355, 356, 357, 358, 359, 360, 361, 362, 363, 364, 365, 366, 367, 368, 369] (by decide +kernel) (by decide +kernel)) (goodIn_sub (fun _ h => List.mem_cons_of_mem _ (List.mem_append_left _ (List.mem_append_left _ (List.mem_append_right _ h)))) (by decide +kernel))
set_option maxRecDepth 20000 in
theorem gL_areFinds_X2_isDue : GoodIn wsL_areFinds (wsV RL 58 RX2 yX2_isDue wsX2_isDue) := goodIn_app (goodIn_of _ (by decide +kernel)) ggL_areFinds_X2_isDue
set_option maxRecDepth 20000 in
theorem ggL_areFinds_X2_today : GoodIn wsL_areFinds wsX2_today := goodIn_r _ [329, 94, 330, 331, 332, 333, 334, 335, 336, 337, 338, 339, 340, 341, 342, 343, 344] (by decide +kernel) (by decide +kernel)
set_option maxRecDepth 20000 in
theorem gL_areFinds_X2_today : GoodIn wsL_areFinds (wsV RL 141 RX2 yX2_today wsX2_today) := goodIn_app (goodIn_of _ (by decide +kernel)) ggL_areFinds_X2_today
set_option maxRecDepth 20000 in
theorem ggL_areFinds_X2_money : GoodIn wsL_areFinds wsX2_money := goodIn_ca (goodIn_r _ [325, 36, 37, 156, 157, 237, 330, 331, 332, 333, 334, 335, 336, 337, 338, 339, 340, 341, 342, 343, 344] (by decide +kernel) (by decide +kernel)) (goodIn_sub (fun _ h => List.mem_cons_of_mem _ (List.mem_append_left _ (List.mem_append_right _ h))) (by decide +kernel))
set_option maxRecDepth 20000 in
theorem gL_areFinds_X2_money : GoodIn wsL_areFinds (wsV RL 72 RX2 yX2_money wsX2_money) := goodIn_app (goodIn_of _ (by decide +kernel)) ggL_areFinds_X2_money
theorem dL_areFinds_0 : decode cL_areFinds 0 = .ok (.iconst 1, 1) := by decide +kernel
theorem dL_areFinds_1 : decode cL_areFinds 1 = .ok (.istore_n 1, 1) := by decide +kernel
theorem dL_areFinds_2 : decode cL_areFinds 2 = .ok (.iconst 0, 1) := by decide +kernel
theorem dL_areFinds_3 : decode cL_areFinds 3 = .ok (.istore_n 2, 1) := by decide +kernel
theorem dL_areFinds_4 : decode cL_areFinds 4 = .ok (.iconst 0, 1) := by decide +kernel
theorem dL_areFinds_5 : decode cL_areFinds 5 = .ok (.istore_n 3, 1) := by decide +kernel
theorem dL_areFinds_6 : decode cL_areFinds 6 = .ok (.iconst 0, 1) := by decide +kernel
theorem dL_areFinds_7 : decode cL_areFinds 7 = .ok (.istore 4, 2) := by decide +kernel
theorem dL_areFinds_9 : decode cL_areFinds 9 = .ok (.iload 4, 2) := by decide +kernel
theorem dL_areFinds_11 : decode cL_areFinds 11 = .ok (.bipush 6, 2) := by decide +kernel
theorem dL_areFinds_13 : decode cL_areFinds 13 = .ok (.if_icmp .ge 39, 3) := by decide +kernel
theorem dL_areFinds_16 : decode cL_areFinds 16 = .ok (.iload_n 1, 1) := by decide +kernel
theorem dL_areFinds_17 : decode cL_areFinds 17 = .ok (.ifCond .eq 18, 3) := by decide +kernel
theorem dL_areFinds_20 : decode cL_areFinds 20 = .ok (.iload_n 2, 1) := by decide +kernel
theorem dL_areFinds_21 : decode cL_areFinds 21 = .ok (.aload_n 0, 1) := by decide +kernel
theorem dL_areFinds_22 : decode cL_areFinds 22 = .ok (.iload 4, 2) := by decide +kernel
theorem dL_areFinds_24 : decode cL_areFinds 24 = .ok (.invokevirtual 75, 3) := by decide +kernel
theorem dL_areFinds_27 : decode cL_areFinds 27 = .ok (.iand, 1) := by decide +kernel
theorem dL_areFinds_28 : decode cL_areFinds 28 = .ok (.ifCond .ne 7, 3) := by decide +kernel
theorem dL_areFinds_31 : decode cL_areFinds 31 = .ok (.iconst 1, 1) := by decide +kernel
theorem dL_areFinds_32 : decode cL_areFinds 32 = .ok (.goto 4, 3) := by decide +kernel
theorem dL_areFinds_35 : decode cL_areFinds 35 = .ok (.iconst 0, 1) := by decide +kernel
theorem dL_areFinds_36 : decode cL_areFinds 36 = .ok (.istore_n 1, 1) := by decide +kernel
theorem dL_areFinds_37 : decode cL_areFinds 37 = .ok (.iload_n 2, 1) := by decide +kernel
theorem dL_areFinds_38 : decode cL_areFinds 38 = .ok (.aload_n 0, 1) := by decide +kernel
theorem dL_areFinds_39 : decode cL_areFinds 39 = .ok (.iload 4, 2) := by decide +kernel
theorem dL_areFinds_41 : decode cL_areFinds 41 = .ok (.invokevirtual 75, 3) := by decide +kernel
theorem dL_areFinds_44 : decode cL_areFinds 44 = .ok (.ior, 1) := by decide +kernel
theorem dL_areFinds_45 : decode cL_areFinds 45 = .ok (.istore_n 2, 1) := by decide +kernel
theorem dL_areFinds_46 : decode cL_areFinds 46 = .ok (.iinc 4 1, 3) := by decide +kernel
theorem dL_areFinds_49 : decode cL_areFinds 49 = .ok (.goto (-40), 3) := by decide +kernel
theorem dL_areFinds_52 : decode cL_areFinds 52 = .ok (.iconst 0, 1) := by decide +kernel
theorem dL_areFinds_53 : decode cL_areFinds 53 = .ok (.istore 4, 2) := by decide +kernel
theorem dL_areFinds_55 : decode cL_areFinds 55 = .ok (.aload_n 0, 1) := by decide +kernel
theorem dL_areFinds_56 : decode cL_areFinds 56 = .ok (.bipush 24, 2) := by decide +kernel
theorem dL_areFinds_58 : decode cL_areFinds 58 = .ok (.iload 4, 2) := by decide +kernel
theorem dL_areFinds_60 : decode cL_areFinds 60 = .ok (.iconst 0, 1) := by decide +kernel
theorem dL_areFinds_61 : decode cL_areFinds 61 = .ok (.iconst 0, 1) := by decide +kernel
theorem dL_areFinds_62 : decode cL_areFinds 62 = .ok (.invokestatic 128, 3) := by decide +kernel
theorem dL_areFinds_65 : decode cL_areFinds 65 = .ok (.ifCond .lt 200, 3) := by decide +kernel
theorem dL_areFinds_68 : decode cL_areFinds 68 = .ok (.iload_n 1, 1) := by decide +kernel
theorem dL_areFinds_69 : decode cL_areFinds 69 = .ok (.ifCond .eq 196, 3) := by decide +kernel
theorem dL_areFinds_72 : decode cL_areFinds 72 = .ok (.aload_n 0, 1) := by decide +kernel
theorem dL_areFinds_73 : decode cL_areFinds 73 = .ok (.iload 4, 2) := by decide +kernel
theorem dL_areFinds_75 : decode cL_areFinds 75 = .ok (.iconst 0, 1) := by decide +kernel
theorem dL_areFinds_76 : decode cL_areFinds 76 = .ok (.invokevirtual 62, 3) := by decide +kernel
theorem dL_areFinds_79 : decode cL_areFinds 79 = .ok (.istore 5, 2) := by decide +kernel
theorem dL_areFinds_81 : decode cL_areFinds 81 = .ok (.aload_n 0, 1) := by decide +kernel
theorem dL_areFinds_82 : decode cL_areFinds 82 = .ok (.iload 4, 2) := by decide +kernel
theorem dL_areFinds_84 : decode cL_areFinds 84 = .ok (.iconst 4, 1) := by decide +kernel
theorem dL_areFinds_85 : decode cL_areFinds 85 = .ok (.invokevirtual 62, 3) := by decide +kernel
theorem dL_areFinds_88 : decode cL_areFinds 88 = .ok (.istore 6, 2) := by decide +kernel
theorem dL_areFinds_90 : decode cL_areFinds 90 = .ok (.iload_n 3, 1) := by decide +kernel
theorem dL_areFinds_91 : decode cL_areFinds 91 = .ok (.iload 5, 2) := by decide +kernel
theorem dL_areFinds_93 : decode cL_areFinds 93 = .ok (.ifCond .ne 10, 3) := by decide +kernel
theorem dL_areFinds_96 : decode cL_areFinds 96 = .ok (.iconst 1, 1) := by decide +kernel
theorem dL_areFinds_97 : decode cL_areFinds 97 = .ok (.iload 4, 2) := by decide +kernel
theorem dL_areFinds_99 : decode cL_areFinds 99 = .ok (.ishl, 1) := by decide +kernel
theorem dL_areFinds_100 : decode cL_areFinds 100 = .ok (.goto 4, 3) := by decide +kernel
theorem dL_areFinds_103 : decode cL_areFinds 103 = .ok (.iconst 0, 1) := by decide +kernel
theorem dL_areFinds_104 : decode cL_areFinds 104 = .ok (.ior, 1) := by decide +kernel
theorem dL_areFinds_105 : decode cL_areFinds 105 = .ok (.istore_n 3, 1) := by decide +kernel
theorem dL_areFinds_106 : decode cL_areFinds 106 = .ok (.iload 6, 2) := by decide +kernel
theorem dL_areFinds_108 : decode cL_areFinds 108 = .ok (.ifCond .le 84, 3) := by decide +kernel
theorem dL_areFinds_111 : decode cL_areFinds 111 = .ok (.iload 6, 2) := by decide +kernel
theorem dL_areFinds_113 : decode cL_areFinds 113 = .ok (.bipush 13, 2) := by decide +kernel
theorem dL_areFinds_115 : decode cL_areFinds 115 = .ok (.if_icmp .ge 77, 3) := by decide +kernel
theorem dL_areFinds_118 : decode cL_areFinds 118 = .ok (.aload_n 0, 1) := by decide +kernel
theorem dL_areFinds_119 : decode cL_areFinds 119 = .ok (.bipush 25, 2) := by decide +kernel
theorem dL_areFinds_121 : decode cL_areFinds 121 = .ok (.iload 4, 2) := by decide +kernel
theorem dL_areFinds_123 : decode cL_areFinds 123 = .ok (.iload 6, 2) := by decide +kernel
theorem dL_areFinds_125 : decode cL_areFinds 125 = .ok (.iconst 0, 1) := by decide +kernel
theorem dL_areFinds_126 : decode cL_areFinds 126 = .ok (.invokestatic 128, 3) := by decide +kernel
theorem dL_areFinds_129 : decode cL_areFinds 129 = .ok (.ldc 80, 2) := by decide +kernel
theorem dL_areFinds_131 : decode cL_areFinds 131 = .ok (.if_icmp .ne 61, 3) := by decide +kernel
theorem dL_areFinds_134 : decode cL_areFinds 134 = .ok (.iload 5, 2) := by decide +kernel
theorem dL_areFinds_136 : decode cL_areFinds 136 = .ok (.ifCond .ne 24, 3) := by decide +kernel
theorem dL_areFinds_139 : decode cL_areFinds 139 = .ok (.aload_n 0, 1) := by decide +kernel
theorem dL_areFinds_140 : decode cL_areFinds 140 = .ok (.iload 4, 2) := by decide +kernel
theorem dL_areFinds_142 : decode cL_areFinds 142 = .ok (.iload 6, 2) := by decide +kernel
theorem dL_areFinds_144 : decode cL_areFinds 144 = .ok (.iconst 1, 1) := by decide +kernel
theorem dL_areFinds_145 : decode cL_areFinds 145 = .ok (.isub, 1) := by decide +kernel
theorem dL_areFinds_146 : decode cL_areFinds 146 = .ok (.iconst 0, 1) := by decide +kernel
theorem dL_areFinds_147 : decode cL_areFinds 147 = .ok (.invokevirtual 65, 3) := by decide +kernel
theorem dL_areFinds_150 : decode cL_areFinds 150 = .ok (.aload_n 0, 1) := by decide +kernel
theorem dL_areFinds_151 : decode cL_areFinds 151 = .ok (.iload 4, 2) := by decide +kernel
theorem dL_areFinds_153 : decode cL_areFinds 153 = .ok (.iconst 1, 1) := by decide +kernel
theorem dL_areFinds_154 : decode cL_areFinds 154 = .ok (.invokevirtual 62, 3) := by decide +kernel
theorem dL_areFinds_157 : decode cL_areFinds 157 = .ok (.if_icmp .ne 35, 3) := by decide +kernel
theorem dL_areFinds_160 : decode cL_areFinds 160 = .ok (.aload_n 0, 1) := by decide +kernel
theorem dL_areFinds_161 : decode cL_areFinds 161 = .ok (.iload 4, 2) := by decide +kernel
theorem dL_areFinds_163 : decode cL_areFinds 163 = .ok (.invokevirtual 58, 3) := by decide +kernel
theorem dL_areFinds_166 : decode cL_areFinds 166 = .ok (.ifCond .eq 22, 3) := by decide +kernel
theorem dL_areFinds_169 : decode cL_areFinds 169 = .ok (.iload 5, 2) := by decide +kernel
theorem dL_areFinds_171 : decode cL_areFinds 171 = .ok (.ifCond .ne 21, 3) := by decide +kernel
theorem dL_areFinds_174 : decode cL_areFinds 174 = .ok (.aload_n 0, 1) := by decide +kernel
theorem dL_areFinds_175 : decode cL_areFinds 175 = .ok (.iload 4, 2) := by decide +kernel
theorem dL_areFinds_177 : decode cL_areFinds 177 = .ok (.iconst 2, 1) := by decide +kernel
theorem dL_areFinds_178 : decode cL_areFinds 178 = .ok (.invokevirtual 62, 3) := by decide +kernel
theorem dL_areFinds_181 : decode cL_areFinds 181 = .ok (.aload_n 0, 1) := by decide +kernel
theorem dL_areFinds_182 : decode cL_areFinds 182 = .ok (.invokevirtual 141, 3) := by decide +kernel
theorem dL_areFinds_185 : decode cL_areFinds 185 = .ok (.if_icmp .ge 7, 3) := by decide +kernel
theorem dL_areFinds_188 : decode cL_areFinds 188 = .ok (.iconst 1, 1) := by decide +kernel
theorem dL_areFinds_189 : decode cL_areFinds 189 = .ok (.goto 4, 3) := by decide +kernel
theorem dL_areFinds_192 : decode cL_areFinds 192 = .ok (.iconst 0, 1) := by decide +kernel
theorem dL_areFinds_193 : decode cL_areFinds 193 = .ok (.istore_n 1, 1) := by decide +kernel
theorem dL_areFinds_194 : decode cL_areFinds 194 = .ok (.iconst 1, 1) := by decide +kernel
theorem dL_areFinds_195 : decode cL_areFinds 195 = .ok (.istore 7, 2) := by decide +kernel
theorem dL_areFinds_197 : decode cL_areFinds 197 = .ok (.iload 7, 2) := by decide +kernel
theorem dL_areFinds_199 : decode cL_areFinds 199 = .ok (.iload 6, 2) := by decide +kernel
theorem dL_areFinds_201 : decode cL_areFinds 201 = .ok (.if_icmp .ge 58, 3) := by decide +kernel
theorem dL_areFinds_204 : decode cL_areFinds 204 = .ok (.iload_n 1, 1) := by decide +kernel
theorem dL_areFinds_205 : decode cL_areFinds 205 = .ok (.ifCond .eq 54, 3) := by decide +kernel
theorem dL_areFinds_208 : decode cL_areFinds 208 = .ok (.aload_n 0, 1) := by decide +kernel
theorem dL_areFinds_209 : decode cL_areFinds 209 = .ok (.iload 4, 2) := by decide +kernel
theorem dL_areFinds_211 : decode cL_areFinds 211 = .ok (.iload 7, 2) := by decide +kernel
theorem dL_areFinds_213 : decode cL_areFinds 213 = .ok (.iconst 1, 1) := by decide +kernel
theorem dL_areFinds_214 : decode cL_areFinds 214 = .ok (.invokevirtual 65, 3) := by decide +kernel
theorem dL_areFinds_217 : decode cL_areFinds 217 = .ok (.aload_n 0, 1) := by decide +kernel
theorem dL_areFinds_218 : decode cL_areFinds 218 = .ok (.iload 4, 2) := by decide +kernel
theorem dL_areFinds_220 : decode cL_areFinds 220 = .ok (.iload 7, 2) := by decide +kernel
theorem dL_areFinds_222 : decode cL_areFinds 222 = .ok (.iconst 1, 1) := by decide +kernel
theorem dL_areFinds_223 : decode cL_areFinds 223 = .ok (.isub, 1) := by decide +kernel
theorem dL_areFinds_224 : decode cL_areFinds 224 = .ok (.iconst 1, 1) := by decide +kernel
theorem dL_areFinds_225 : decode cL_areFinds 225 = .ok (.invokevirtual 65, 3) := by decide +kernel
theorem dL_areFinds_228 : decode cL_areFinds 228 = .ok (.if_icmp .lt 23, 3) := by decide +kernel
theorem dL_areFinds_231 : decode cL_areFinds 231 = .ok (.aload_n 0, 1) := by decide +kernel
theorem dL_areFinds_232 : decode cL_areFinds 232 = .ok (.iload 4, 2) := by decide +kernel
theorem dL_areFinds_234 : decode cL_areFinds 234 = .ok (.iload 7, 2) := by decide +kernel
theorem dL_areFinds_236 : decode cL_areFinds 236 = .ok (.iconst 1, 1) := by decide +kernel
theorem dL_areFinds_237 : decode cL_areFinds 237 = .ok (.invokevirtual 65, 3) := by decide +kernel
theorem dL_areFinds_240 : decode cL_areFinds 240 = .ok (.aload_n 0, 1) := by decide +kernel
theorem dL_areFinds_241 : decode cL_areFinds 241 = .ok (.invokevirtual 141, 3) := by decide +kernel
theorem dL_areFinds_244 : decode cL_areFinds 244 = .ok (.if_icmp .gt 7, 3) := by decide +kernel
theorem dL_areFinds_247 : decode cL_areFinds 247 = .ok (.iconst 1, 1) := by decide +kernel
theorem dL_areFinds_248 : decode cL_areFinds 248 = .ok (.goto 4, 3) := by decide +kernel
theorem dL_areFinds_251 : decode cL_areFinds 251 = .ok (.iconst 0, 1) := by decide +kernel
theorem dL_areFinds_252 : decode cL_areFinds 252 = .ok (.istore_n 1, 1) := by decide +kernel
theorem dL_areFinds_253 : decode cL_areFinds 253 = .ok (.iinc 7 1, 3) := by decide +kernel
theorem dL_areFinds_256 : decode cL_areFinds 256 = .ok (.goto (-59), 3) := by decide +kernel
theorem dL_areFinds_259 : decode cL_areFinds 259 = .ok (.iinc 4 1, 3) := by decide +kernel
theorem dL_areFinds_262 : decode cL_areFinds 262 = .ok (.goto (-207), 3) := by decide +kernel
theorem dL_areFinds_265 : decode cL_areFinds 265 = .ok (.iload_n 1, 1) := by decide +kernel
theorem dL_areFinds_266 : decode cL_areFinds 266 = .ok (.ifCond .eq 36, 3) := by decide +kernel
theorem dL_areFinds_269 : decode cL_areFinds 269 = .ok (.iload_n 3, 1) := by decide +kernel
theorem dL_areFinds_270 : decode cL_areFinds 270 = .ok (.iload_n 2, 1) := by decide +kernel
theorem dL_areFinds_271 : decode cL_areFinds 271 = .ok (.if_icmp .ne 31, 3) := by decide +kernel
theorem dL_areFinds_274 : decode cL_areFinds 274 = .ok (.aload_n 0, 1) := by decide +kernel
theorem dL_areFinds_275 : decode cL_areFinds 275 = .ok (.iconst 0, 1) := by decide +kernel
theorem dL_areFinds_276 : decode cL_areFinds 276 = .ok (.invokevirtual 72, 3) := by decide +kernel
theorem dL_areFinds_279 : decode cL_areFinds 279 = .ok (.ifCond .lt 23, 3) := by decide +kernel
theorem dL_areFinds_282 : decode cL_areFinds 282 = .ok (.aload_n 0, 1) := by decide +kernel
theorem dL_areFinds_283 : decode cL_areFinds 283 = .ok (.iconst 1, 1) := by decide +kernel
theorem dL_areFinds_284 : decode cL_areFinds 284 = .ok (.invokevirtual 72, 3) := by decide +kernel
theorem dL_areFinds_287 : decode cL_areFinds 287 = .ok (.ifCond .lt 15, 3) := by decide +kernel
theorem dL_areFinds_290 : decode cL_areFinds 290 = .ok (.aload_n 0, 1) := by decide +kernel
theorem dL_areFinds_291 : decode cL_areFinds 291 = .ok (.iconst 2, 1) := by decide +kernel
theorem dL_areFinds_292 : decode cL_areFinds 292 = .ok (.invokevirtual 72, 3) := by decide +kernel
theorem dL_areFinds_295 : decode cL_areFinds 295 = .ok (.ifCond .lt 7, 3) := by decide +kernel
theorem dL_areFinds_298 : decode cL_areFinds 298 = .ok (.iconst 1, 1) := by decide +kernel
theorem dL_areFinds_299 : decode cL_areFinds 299 = .ok (.goto 4, 3) := by decide +kernel
theorem dL_areFinds_302 : decode cL_areFinds 302 = .ok (.iconst 0, 1) := by decide +kernel
theorem dL_areFinds_303 : decode cL_areFinds 303 = .ok (.ireturn, 1) := by decide +kernel
theorem ggL_areClaims_L_does_wsL_does_r1 : GoodIn wsL_areClaims wsL_does_r1 := goodIn_r _ [5, 6, 7, 8, 9, 10, 3, 11, 12, 13, 14, 15, 16, 17, 18, 19, 20, 21, 22, 23, 24, 25, 26, 27] (by decide +kernel) (by decide +kernel)
theorem ggL_areClaims_L_does_wsL_does_r2 : GoodIn wsL_areClaims wsL_does_r2 := goodIn_r _ [28, 29, 30, 31, 32, 33, 34, 35, 36, 37, 38, 39, 40, 41, 42, 43, 44, 45, 46, 47, 48, 49, 50, 51] (by decide +kernel) (by decide +kernel)
theorem ggL_areClaims_L_does_wsL_does_r3 : GoodIn wsL_areClaims wsL_does_r3 := goodIn_r _ [52, 53, 54, 55, 56, 57, 58, 59, 60, 61, 62, 63, 64, 65, 66, 67, 68, 69, 70, 71, 72, 73, 74, 75] (by decide +kernel) (by decide +kernel)
theorem ggL_areClaims_L_does_wsL_does_r4 : GoodIn wsL_areClaims wsL_does_r4 := goodIn_r _ [76, 77, 78, 79, 80, 81, 82, 83, 84, 85, 86, 87, 88, 89, 90, 91, 92, 93, 94, 95, 96, 97, 98, 99] (by decide +kernel) (by decide +kernel)
theorem ggL_areClaims_L_does_wsL_does_r5 : GoodIn wsL_areClaims wsL_does_r5 := goodIn_r _ [100, 101, 102, 103, 104, 105, 106, 107, 108, 109, 110, 111, 112, 113, 114, 115, 116, 117, 118, 119, 120, 121, 122, 123] (by decide +kernel) (by decide +kernel)
theorem ggL_areClaims_L_does_wsL_does_r6 : GoodIn wsL_areClaims wsL_does_r6 := goodIn_r _ [124, 125, 126, 127, 128, 129, 130, 131, 132, 133, 134, 135, 136, 137, 138, 139, 140, 141, 142, 143, 144, 145, 146, 147] (by decide +kernel) (by decide +kernel)
theorem ggL_areClaims_L_does_wsL_does_r7 : GoodIn wsL_areClaims wsL_does_r7 := goodIn_r _ [148, 149, 150, 151, 152, 153, 154, 155, 156, 157, 158, 159, 160, 161, 162, 163, 164, 165, 166, 167, 168, 169, 170, 171] (by decide +kernel) (by decide +kernel)
theorem ggL_areClaims_L_does_wsL_does_r8 : GoodIn wsL_areClaims wsL_does_r8 := goodIn_r _ [172, 173, 174, 175, 176, 177, 178, 179, 180, 181, 182, 183, 184, 185, 186, 187, 188, 189, 190, 191, 192, 193, 194, 195] (by decide +kernel) (by decide +kernel)
theorem ggL_areClaims_L_does_wsL_does_r9 : GoodIn wsL_areClaims wsL_does_r9 := goodIn_r _ [196, 197, 198, 199, 200, 201, 202, 203, 204, 205, 206, 207, 208, 209, 210, 211, 212, 213, 214, 215, 216, 217, 218, 219] (by decide +kernel) (by decide +kernel)
theorem ggL_areClaims_L_does_wsL_does_r10 : GoodIn wsL_areClaims wsL_does_r10 := goodIn_r _ [220, 221, 222, 223, 224, 225, 226, 227, 228, 229, 230, 231, 232, 233, 234, 235, 236, 237, 238, 239, 240, 241, 242, 243] (by decide +kernel) (by decide +kernel)
theorem ggL_areClaims_L_does_wsL_does_r11 : GoodIn wsL_areClaims wsL_does_r11 := goodIn_r _ [244, 245, 246, 247, 248, 249, 250, 251, 252, 253, 254, 255, 256, 257, 258, 259, 260, 261, 262, 263, 264, 265, 266, 267] (by decide +kernel) (by decide +kernel)
theorem ggL_areClaims_L_does_wsL_does_r12 : GoodIn wsL_areClaims wsL_does_r12 := goodIn_r _ [268, 269, 270, 271, 272, 273, 274, 275, 276, 277, 278, 279, 280, 281, 282, 283, 284, 285, 286, 287, 288, 289, 290, 291] (by decide +kernel) (by decide +kernel)
theorem ggL_areClaims_L_does_wsL_does_r13 : GoodIn wsL_areClaims wsL_does_r13 := goodIn_r _ [292, 293, 294, 295, 296, 297, 298, 299, 300, 301, 302, 303, 304, 305, 306, 307, 308, 309, 310, 311, 312, 313, 314, 315] (by decide +kernel) (by decide +kernel)
theorem ggL_areClaims_L_does_wsL_does_r14 : GoodIn wsL_areClaims wsL_does_r14 := goodIn_r _ [316, 317, 318, 319, 320, 321, 322, 323, 324, 325] (by decide +kernel) (by decide +kernel)
theorem ggL_areClaims_L_does_wsX20 : GoodIn wsL_areClaims wsX20 := goodIn_r _ [326, 327, 328, 329, 330, 331, 332, 333, 334, 335, 336, 337, 338, 339, 340] (by decide +kernel) (by decide +kernel)
theorem ggL_areClaims_L_does_wsX10 : GoodIn wsL_areClaims wsX10 := goodIn_r _ [341, 342, 343, 344, 345, 346, 347, 348, 349, 350, 351, 352, 353, 354, 355] (by decide +kernel) (by decide +kernel)
theorem ggL_areClaims_L_does_wsX00 : GoodIn wsL_areClaims wsX00 := goodIn_r _ [356, 357, 358, 359, 360, 361, 362, 363, 364, 365] (by decide +kernel) (by decide +kernel)
set_option maxRecDepth 100000 in
theorem ggL_areClaims_L_does : GoodIn wsL_areClaims wsL_does := goodIn_ca (goodIn_ca (goodIn_ca (gi_cons (gi_one (List.mem_of_getElem? (i := 4) rfl) (by decide +kernel)) (goodIn_app (goodIn_app (goodIn_app (goodIn_app ggL_areClaims_L_does_wsL_does_r1 (goodIn_app ggL_areClaims_L_does_wsL_does_r2 (goodIn_app ggL_areClaims_L_does_wsL_does_r3 (goodIn_app ggL_areClaims_L_does_wsL_does_r4 (goodIn_app ggL_areClaims_L_does_wsL_does_r5 (goodIn_app ggL_areClaims_L_does_wsL_does_r6 (goodIn_app ggL_areClaims_L_does_wsL_does_r7 (goodIn_app ggL_areClaims_L_does_wsL_does_r8 (goodIn_app ggL_areClaims_L_does_wsL_does_r9 (goodIn_app ggL_areClaims_L_does_wsL_does_r10 (goodIn_app ggL_areClaims_L_does_wsL_does_r11 (goodIn_app ggL_areClaims_L_does_wsL_does_r12 (goodIn_app ggL_areClaims_L_does_wsL_does_r13 ggL_areClaims_L_does_wsL_does_r14))))))))))))) ggL_areClaims_L_does_wsX20) ggL_areClaims_L_does_wsX10) ggL_areClaims_L_does_wsX00)) (goodIn_sub (fun _ h => List.mem_cons_of_mem _ (List.mem_append_left _ (List.mem_append_left _ (List.mem_append_right _ h)))) (by decide +kernel))) (goodIn_sub (fun _ h => List.mem_cons_of_mem _ (List.mem_append_left _ (List.mem_append_right _ h))) (by decide +kernel))) (goodIn_sub (fun _ h => List.mem_cons_of_mem _ (List.mem_append_right _ h)) (by decide +kernel))
set_option maxRecDepth 20000 in
theorem gL_areClaims_L_does : GoodIn wsL_areClaims (va_wsS RL 128 yL_does wsL_does) := goodIn_app (goodIn_of _ (by decide +kernel)) ggL_areClaims_L_does
set_option maxRecDepth 20000 in
theorem ggL_areClaims_X2_ofClaim : GoodIn wsL_areClaims wsX2_ofClaim := goodIn_ca (goodIn_ca (goodIn_r _ [317, 23, 24, 128, 119, 133, 151, 120, 121, 122, 15, 123, 21, 22, 124, 356, 357, 358, 359, 360, 361, 362, 363, 364, 365, 326, 327, 328, 329, 330, 331, 332, 333, 334, 335, 336, 337, 338, 339, 340] (by decide +kernel) (by decide +kernel)) (goodIn_sub (fun _ h => List.mem_cons_of_mem _ (List.mem_append_left _ (List.mem_append_right _ h))) (by decide +kernel))) (goodIn_sub (fun _ h => List.mem_cons_of_mem _ (List.mem_append_left _ (List.mem_append_left _ (List.mem_append_right _ h)))) (by decide +kernel))
set_option maxRecDepth 20000 in
theorem gL_areClaims_X2_ofClaim : GoodIn wsL_areClaims (wsV RL 69 RX2 yX2_ofClaim wsX2_ofClaim) := goodIn_app (goodIn_of _ (by decide +kernel)) ggL_areClaims_X2_ofClaim
set_option maxRecDepth 20000 in
theorem ggL_areClaims_X2_ofFind : GoodIn wsL_areClaims wsX2_ofFind := goodIn_ca (goodIn_ca (goodIn_r _ [307, 23, 24, 66, 81, 226, 67, 91, 68, 69, 70, 15, 71, 21, 22, 72, 341, 342, 343, 344, 345, 346, 347, 348, 349, 350, 351, 352, 353, 354, 355, 326, 327, 328, 329, 330, 331, 332, 333, 334, 335, 336, 337, 338, 339, 340] (by decide +kernel) (by decide +kernel)) (goodIn_sub (fun _ h => List.mem_cons_of_mem _ (List.mem_append_left _ (List.mem_append_right _ h))) (by decide +kernel))) (goodIn_sub (fun _ h => List.mem_cons_of_mem _ (List.mem_append_left _ (List.mem_append_left _ (List.mem_append_right _ h)))) (by decide +kernel))
set_option maxRecDepth 20000 in
theorem gL_areClaims_X2_ofFind : GoodIn wsL_areClaims (wsV RL 62 RX2 yX2_ofFind wsX2_ofFind) := goodIn_app (goodIn_of _ (by decide +kernel)) ggL_areClaims_X2_ofFind
set_option maxRecDepth 20000 in
theorem ggL_areClaims_X2_question : GoodIn wsL_areClaims wsX2_question := goodIn_ca (goodIn_r _ [288, 119, 289, 290, 174, 291, 120, 121, 122, 15, 123, 21, 22, 124, 277, 278, 279, 280, 276, 72, 111, 112, 113, 95, 114, 97, 158, 159, 160, 161, 128, 60, 162, 163, 164, 165, 150, 166, 167, 168, 169, 170, 171, 172, 173, 175, 176, 177, 178, 179, 180, 181, 182, 183, 29, 184, 185, 186, 187, 188, 189, 190, 191, 45, 192, 193, 194, 195, 196, 197, 198, 67, 65, 133, 199, 200, 201, 202, 17, 49, 50, 51, 52, 53, 54, 55, 292, 293, 294, 295, 356, 357, 358, 359, 360, 361, 362, 363, 364, 365, 326, 327, 328, 329, 330, 331, 332, 333, 334, 335, 336, 337, 338, 339, 340, 341, 342, 343, 344, 345, 346, 347, 348, 349, 350, 351, 352, 353, 354, 355] (by decide +kernel) (by decide +kernel)) (goodIn_sub (fun _ h => List.mem_cons_of_mem _ (List.mem_append_left _ (List.mem_append_left _ (List.mem_append_right _ h)))) (by decide +kernel))
set_option maxRecDepth 20000 in
theorem gL_areClaims_X2_question : GoodIn wsL_areClaims (wsV RL 51 RX2 yX2_question wsX2_question) := goodIn_app (goodIn_of _ (by decide +kernel)) ggL_areClaims_X2_question
set_option maxRecDepth 20000 in
theorem ggL_areClaims_X2_candidate : GoodIn wsL_areClaims wsX2_candidate := goodIn_ca (goodIn_r _ [275, 21, 22, 276, 120, 121, 122, 15, 123, 124, 277, 278, 279, 280, 72, 111, 112, 113, 95, 114, 97, 158, 159, 160, 161, 128, 60, 162, 163, 164, 165, 150, 166, 167, 168, 169, 170, 171, 172, 173, 174, 175, 176, 177, 178, 179, 180, 181, 182, 183, 29, 184, 185, 186, 187, 188, 189, 190, 191, 45, 192, 193, 194, 195, 196, 197, 198, 67, 65, 133, 119, 199, 200, 201, 202, 17, 49, 50, 51, 52, 53, 54, 55, 281, 282, 283, 284, 326, 327, 328, 329, 330, 331, 332, 333, 334, 335, 336, 337, 338, 339, 340, 341, 342, 343, 344, 345, 346, 347, 348, 349, 350, 351, 352, 353, 354, 355, 356, 357, 358, 359, 360, 361, 362, 363, 364, 365] (by decide +kernel) (by decide +kernel)) (goodIn_sub (fun _ h => List.mem_cons_of_mem _ (List.mem_append_left _ (List.mem_append_left _ (List.mem_append_right _ h)))) (by decide +kernel))
set_option maxRecDepth 20000 in
theorem gL_areClaims_X2_candidate : GoodIn wsL_areClaims (wsV RL 48 RX2 yX2_candidate wsX2_candidate) := goodIn_app (goodIn_of _ (by decide +kernel)) ggL_areClaims_X2_candidate
set_option maxRecDepth 20000 in
theorem ggL_areClaims_X2_fit : GoodIn wsL_areClaims wsX2_fit := goodIn_ca (goodIn_r _ [271, 68, 69, 70, 15, 71, 21, 22, 72, 120, 121, 122, 123, 124, 162, 163, 164, 165, 150, 166, 167, 168, 169, 170, 171, 172, 173, 174, 175, 176, 177, 178, 179, 180, 181, 182, 183, 29, 184, 185, 186, 187, 188, 189, 190, 191, 45, 192, 193, 194, 195, 196, 197, 198, 67, 65, 133, 119, 199, 200, 201, 202, 17, 49, 50, 51, 52, 53, 54, 55, 326, 327, 328, 329, 330, 331, 332, 333, 334, 335, 336, 337, 338, 339, 340, 341, 342, 343, 344, 345, 346, 347, 348, 349, 350, 351, 352, 353, 354, 355, 356, 357, 358, 359, 360, 361, 362, 363, 364, 365] (by decide +kernel) (by decide +kernel)) (goodIn_sub (fun _ h => List.mem_cons_of_mem _ (List.mem_append_left _ (List.mem_append_left _ (List.mem_append_right _ h)))) (by decide +kernel))
set_option maxRecDepth 20000 in
theorem gL_areClaims_X2_fit : GoodIn wsL_areClaims (wsV RL 45 RX2 yX2_fit wsX2_fit) := goodIn_app (goodIn_of _ (by decide +kernel)) ggL_areClaims_X2_fit
set_option maxRecDepth 20000 in
theorem ggL_areClaims_X2_isDue : GoodIn wsL_areClaims wsX2_isDue := goodIn_ca (goodIn_r _ [303, 68, 69, 70, 15, 71, 21, 22, 72, 234, 235, 236, 237, 66, 90, 226, 110, 238, 239, 240, 241, 124, 158, 159, 160, 161, 128, 60, 162, 163, 164, 165, 150, 166, 167, 168, 169, 170, 171, 172, 173, 174, 175, 176, 177, 178, 179, 180, 181, 182, 183, 29, 184, 185, 186, 187, 188, 189, 190, 191, 45, 192, 193, 194, 195, 196, 197, 198, 67, 65, 133, 119, 199, 200, 201, 202, 17, 49, 50, 51, 52, 53, 54, 55, 326, 327, 328, 329, 330, 331, 332, 333, 334, 335, 336, 337, 338, 339, 340, 341, 342, 343, 344, 345, 346, 347, 348, 349, 350, 351, 352, 353, 354, 355, 356, 357, 358, 359, 360, 361, 362, 363, 364, 365] (by decide +kernel) (by decide +kernel)) (goodIn_sub (fun _ h => List.mem_cons_of_mem _ (List.mem_append_left _ (List.mem_append_left _ (List.mem_append_right _ h)))) (by decide +kernel))
set_option maxRecDepth 20000 in
theorem gL_areClaims_X2_isDue : GoodIn wsL_areClaims (wsV RL 58 RX2 yX2_isDue wsX2_isDue) := goodIn_app (goodIn_of _ (by decide +kernel)) ggL_areClaims_X2_isDue
theorem dL_areClaims_0 : decode cL_areClaims 0 = .ok (.iconst 1, 1) := by decide +kernel
theorem dL_areClaims_1 : decode cL_areClaims 1 = .ok (.istore_n 1, 1) := by decide +kernel
theorem dL_areClaims_2 : decode cL_areClaims 2 = .ok (.iconst 0, 1) := by decide +kernel
theorem dL_areClaims_3 : decode cL_areClaims 3 = .ok (.istore_n 2, 1) := by decide +kernel
theorem dL_areClaims_4 : decode cL_areClaims 4 = .ok (.iconst 0, 1) := by decide +kernel
theorem dL_areClaims_5 : decode cL_areClaims 5 = .ok (.istore_n 3, 1) := by decide +kernel
theorem dL_areClaims_6 : decode cL_areClaims 6 = .ok (.iconst 0, 1) := by decide +kernel
theorem dL_areClaims_7 : decode cL_areClaims 7 = .ok (.istore 4, 2) := by decide +kernel
theorem dL_areClaims_9 : decode cL_areClaims 9 = .ok (.aload_n 0, 1) := by decide +kernel
theorem dL_areClaims_10 : decode cL_areClaims 10 = .ok (.bipush 26, 2) := by decide +kernel
theorem dL_areClaims_12 : decode cL_areClaims 12 = .ok (.iload 4, 2) := by decide +kernel
theorem dL_areClaims_14 : decode cL_areClaims 14 = .ok (.iconst 0, 1) := by decide +kernel
theorem dL_areClaims_15 : decode cL_areClaims 15 = .ok (.iconst 0, 1) := by decide +kernel
theorem dL_areClaims_16 : decode cL_areClaims 16 = .ok (.invokestatic 128, 3) := by decide +kernel
theorem dL_areClaims_19 : decode cL_areClaims 19 = .ok (.ifCond .lt 306, 3) := by decide +kernel
theorem dL_areClaims_22 : decode cL_areClaims 22 = .ok (.iload_n 1, 1) := by decide +kernel
theorem dL_areClaims_23 : decode cL_areClaims 23 = .ok (.ifCond .eq 302, 3) := by decide +kernel
theorem dL_areClaims_26 : decode cL_areClaims 26 = .ok (.aload_n 0, 1) := by decide +kernel
theorem dL_areClaims_27 : decode cL_areClaims 27 = .ok (.iload 4, 2) := by decide +kernel
theorem dL_areClaims_29 : decode cL_areClaims 29 = .ok (.iconst 0, 1) := by decide +kernel
theorem dL_areClaims_30 : decode cL_areClaims 30 = .ok (.invokevirtual 69, 3) := by decide +kernel
theorem dL_areClaims_33 : decode cL_areClaims 33 = .ok (.istore 5, 2) := by decide +kernel
theorem dL_areClaims_35 : decode cL_areClaims 35 = .ok (.aload_n 0, 1) := by decide +kernel
theorem dL_areClaims_36 : decode cL_areClaims 36 = .ok (.iload 4, 2) := by decide +kernel
theorem dL_areClaims_38 : decode cL_areClaims 38 = .ok (.iconst 3, 1) := by decide +kernel
theorem dL_areClaims_39 : decode cL_areClaims 39 = .ok (.invokevirtual 69, 3) := by decide +kernel
theorem dL_areClaims_42 : decode cL_areClaims 42 = .ok (.istore 6, 2) := by decide +kernel
theorem dL_areClaims_44 : decode cL_areClaims 44 = .ok (.aload_n 0, 1) := by decide +kernel
theorem dL_areClaims_45 : decode cL_areClaims 45 = .ok (.iload 4, 2) := by decide +kernel
theorem dL_areClaims_47 : decode cL_areClaims 47 = .ok (.iconst 2, 1) := by decide +kernel
theorem dL_areClaims_48 : decode cL_areClaims 48 = .ok (.invokevirtual 69, 3) := by decide +kernel
theorem dL_areClaims_51 : decode cL_areClaims 51 = .ok (.aload_n 0, 1) := by decide +kernel
theorem dL_areClaims_52 : decode cL_areClaims 52 = .ok (.iload 4, 2) := by decide +kernel
theorem dL_areClaims_54 : decode cL_areClaims 54 = .ok (.iconst 1, 1) := by decide +kernel
theorem dL_areClaims_55 : decode cL_areClaims 55 = .ok (.invokevirtual 69, 3) := by decide +kernel
theorem dL_areClaims_58 : decode cL_areClaims 58 = .ok (.iconst (-1), 1) := by decide +kernel
theorem dL_areClaims_59 : decode cL_areClaims 59 = .ok (.ixor, 1) := by decide +kernel
theorem dL_areClaims_60 : decode cL_areClaims 60 = .ok (.iand, 1) := by decide +kernel
theorem dL_areClaims_61 : decode cL_areClaims 61 = .ok (.ifCond .ne 62, 3) := by decide +kernel
theorem dL_areClaims_64 : decode cL_areClaims 64 = .ok (.iload 5, 2) := by decide +kernel
theorem dL_areClaims_66 : decode cL_areClaims 66 = .ok (.iconst 3, 1) := by decide +kernel
theorem dL_areClaims_67 : decode cL_areClaims 67 = .ok (.if_icmp .lt 13, 3) := by decide +kernel
theorem dL_areClaims_70 : decode cL_areClaims 70 = .ok (.aload_n 0, 1) := by decide +kernel
theorem dL_areClaims_71 : decode cL_areClaims 71 = .ok (.iload 4, 2) := by decide +kernel
theorem dL_areClaims_73 : decode cL_areClaims 73 = .ok (.iconst 1, 1) := by decide +kernel
theorem dL_areClaims_74 : decode cL_areClaims 74 = .ok (.invokevirtual 69, 3) := by decide +kernel
theorem dL_areClaims_77 : decode cL_areClaims 77 = .ok (.ifCond .ne 46, 3) := by decide +kernel
theorem dL_areClaims_80 : decode cL_areClaims 80 = .ok (.iload 5, 2) := by decide +kernel
theorem dL_areClaims_82 : decode cL_areClaims 82 = .ok (.iconst 1, 1) := by decide +kernel
theorem dL_areClaims_83 : decode cL_areClaims 83 = .ok (.if_icmp .ne 8, 3) := by decide +kernel
theorem dL_areClaims_86 : decode cL_areClaims 86 = .ok (.iload 6, 2) := by decide +kernel
theorem dL_areClaims_88 : decode cL_areClaims 88 = .ok (.ifCond .lt 35, 3) := by decide +kernel
theorem dL_areClaims_91 : decode cL_areClaims 91 = .ok (.iload 6, 2) := by decide +kernel
theorem dL_areClaims_93 : decode cL_areClaims 93 = .ok (.ifCond .lt 26, 3) := by decide +kernel
theorem dL_areClaims_96 : decode cL_areClaims 96 = .ok (.aload_n 0, 1) := by decide +kernel
theorem dL_areClaims_97 : decode cL_areClaims 97 = .ok (.iload 6, 2) := by decide +kernel
theorem dL_areClaims_99 : decode cL_areClaims 99 = .ok (.iconst 0, 1) := by decide +kernel
theorem dL_areClaims_100 : decode cL_areClaims 100 = .ok (.invokevirtual 62, 3) := by decide +kernel
theorem dL_areClaims_103 : decode cL_areClaims 103 = .ok (.iconst 3, 1) := by decide +kernel
theorem dL_areClaims_104 : decode cL_areClaims 104 = .ok (.if_icmp .eq 15, 3) := by decide +kernel
theorem dL_areClaims_107 : decode cL_areClaims 107 = .ok (.aload_n 0, 1) := by decide +kernel
theorem dL_areClaims_108 : decode cL_areClaims 108 = .ok (.iload 6, 2) := by decide +kernel
theorem dL_areClaims_110 : decode cL_areClaims 110 = .ok (.iconst 0, 1) := by decide +kernel
theorem dL_areClaims_111 : decode cL_areClaims 111 = .ok (.invokevirtual 62, 3) := by decide +kernel
theorem dL_areClaims_114 : decode cL_areClaims 114 = .ok (.bipush 6, 2) := by decide +kernel
theorem dL_areClaims_116 : decode cL_areClaims 116 = .ok (.if_icmp .ne 7, 3) := by decide +kernel
