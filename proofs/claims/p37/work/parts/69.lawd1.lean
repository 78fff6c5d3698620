theorem dL_trades_463 : decode cL_trades 463 = .ok (.if_icmp .ne 50, 3) := by decide +kernel
theorem dL_trades_466 : decode cL_trades 466 = .ok (.iload_n 1, 1) := by decide +kernel
theorem dL_trades_467 : decode cL_trades 467 = .ok (.iconst 3, 1) := by decide +kernel
theorem dL_trades_468 : decode cL_trades 468 = .ok (.if_icmp .ne 23, 3) := by decide +kernel
theorem dL_trades_471 : decode cL_trades 471 = .ok (.aload_n 0, 1) := by decide +kernel
theorem dL_trades_472 : decode cL_trades 472 = .ok (.iload 19, 2) := by decide +kernel
theorem dL_trades_474 : decode cL_trades 474 = .ok (.invokestatic 226, 3) := by decide +kernel
theorem dL_trades_477 : decode cL_trades 477 = .ok (.sipush (-7300), 3) := by decide +kernel
theorem dL_trades_480 : decode cL_trades 480 = .ok (.if_icmp .ne 7, 3) := by decide +kernel
theorem dL_trades_483 : decode cL_trades 483 = .ok (.iconst 1, 1) := by decide +kernel
theorem dL_trades_484 : decode cL_trades 484 = .ok (.goto 28, 3) := by decide +kernel
theorem dL_trades_487 : decode cL_trades 487 = .ok (.iconst 0, 1) := by decide +kernel
theorem dL_trades_488 : decode cL_trades 488 = .ok (.goto 24, 3) := by decide +kernel
theorem dL_trades_491 : decode cL_trades 491 = .ok (.aload_n 0, 1) := by decide +kernel
theorem dL_trades_492 : decode cL_trades 492 = .ok (.iload 19, 2) := by decide +kernel
theorem dL_trades_494 : decode cL_trades 494 = .ok (.iload 16, 2) := by decide +kernel
theorem dL_trades_496 : decode cL_trades 496 = .ok (.iload 17, 2) := by decide +kernel
theorem dL_trades_498 : decode cL_trades 498 = .ok (.invokestatic 228, 3) := by decide +kernel
theorem dL_trades_501 : decode cL_trades 501 = .ok (.sipush (-7300), 3) := by decide +kernel
theorem dL_trades_504 : decode cL_trades 504 = .ok (.if_icmp .ne 7, 3) := by decide +kernel
theorem dL_trades_507 : decode cL_trades 507 = .ok (.iconst 1, 1) := by decide +kernel
theorem dL_trades_508 : decode cL_trades 508 = .ok (.goto 4, 3) := by decide +kernel
theorem dL_trades_511 : decode cL_trades 511 = .ok (.iconst 0, 1) := by decide +kernel
theorem dL_trades_512 : decode cL_trades 512 = .ok (.ireturn, 1) := by decide +kernel
theorem dL_trades_513 : decode cL_trades 513 = .ok (.aload 13, 2) := by decide +kernel
theorem dL_trades_515 : decode cL_trades 515 = .ok (.iload 19, 2) := by decide +kernel
theorem dL_trades_517 : decode cL_trades 517 = .ok (.dup2, 1) := by decide +kernel
theorem dL_trades_518 : decode cL_trades 518 = .ok (.iaload, 1) := by decide +kernel
theorem dL_trades_519 : decode cL_trades 519 = .ok (.bipush 16, 2) := by decide +kernel
theorem dL_trades_521 : decode cL_trades 521 = .ok (.iadd, 1) := by decide +kernel
theorem dL_trades_522 : decode cL_trades 522 = .ok (.iastore, 1) := by decide +kernel
theorem dL_trades_523 : decode cL_trades 523 = .ok (.iload_n 1, 1) := by decide +kernel
theorem dL_trades_524 : decode cL_trades 524 = .ok (.iconst 3, 1) := by decide +kernel
theorem dL_trades_525 : decode cL_trades 525 = .ok (.if_icmp .ne 27, 3) := by decide +kernel
theorem dL_trades_528 : decode cL_trades 528 = .ok (.aload 4, 2) := by decide +kernel
theorem dL_trades_530 : decode cL_trades 530 = .ok (.aload 5, 2) := by decide +kernel
theorem dL_trades_532 : decode cL_trades 532 = .ok (.aload 6, 2) := by decide +kernel
theorem dL_trades_534 : decode cL_trades 534 = .ok (.aload 7, 2) := by decide +kernel
theorem dL_trades_536 : decode cL_trades 536 = .ok (.aload 8, 2) := by decide +kernel
theorem dL_trades_538 : decode cL_trades 538 = .ok (.iconst 0, 1) := by decide +kernel
theorem dL_trades_539 : decode cL_trades 539 = .ok (.bipush 6, 2) := by decide +kernel
theorem dL_trades_541 : decode cL_trades 541 = .ok (.iload 19, 2) := by decide +kernel
theorem dL_trades_543 : decode cL_trades 543 = .ok (.iconst 0, 1) := by decide +kernel
theorem dL_trades_544 : decode cL_trades 544 = .ok (.iconst 0, 1) := by decide +kernel
theorem dL_trades_545 : decode cL_trades 545 = .ok (.iconst 0, 1) := by decide +kernel
theorem dL_trades_546 : decode cL_trades 546 = .ok (.invokestatic 129, 3) := by decide +kernel
theorem dL_trades_549 : decode cL_trades 549 = .ok (.goto 26, 3) := by decide +kernel
theorem dL_trades_552 : decode cL_trades 552 = .ok (.aload 4, 2) := by decide +kernel
theorem dL_trades_554 : decode cL_trades 554 = .ok (.aload 5, 2) := by decide +kernel
theorem dL_trades_556 : decode cL_trades 556 = .ok (.aload 6, 2) := by decide +kernel
theorem dL_trades_558 : decode cL_trades 558 = .ok (.aload 7, 2) := by decide +kernel
theorem dL_trades_560 : decode cL_trades 560 = .ok (.aload 8, 2) := by decide +kernel
theorem dL_trades_562 : decode cL_trades 562 = .ok (.iconst 0, 1) := by decide +kernel
theorem dL_trades_563 : decode cL_trades 563 = .ok (.bipush 7, 2) := by decide +kernel
theorem dL_trades_565 : decode cL_trades 565 = .ok (.iload 19, 2) := by decide +kernel
theorem dL_trades_567 : decode cL_trades 567 = .ok (.iload 16, 2) := by decide +kernel
theorem dL_trades_569 : decode cL_trades 569 = .ok (.iload 17, 2) := by decide +kernel
theorem dL_trades_571 : decode cL_trades 571 = .ok (.iconst 0, 1) := by decide +kernel
theorem dL_trades_572 : decode cL_trades 572 = .ok (.invokestatic 129, 3) := by decide +kernel
theorem dL_trades_575 : decode cL_trades 575 = .ok (.iload_n 1, 1) := by decide +kernel
theorem dL_trades_576 : decode cL_trades 576 = .ok (.iconst 3, 1) := by decide +kernel
theorem dL_trades_577 : decode cL_trades 577 = .ok (.if_icmp .ne 12, 3) := by decide +kernel
theorem dL_trades_580 : decode cL_trades 580 = .ok (.aload_n 0, 1) := by decide +kernel
theorem dL_trades_581 : decode cL_trades 581 = .ok (.iload 19, 2) := by decide +kernel
theorem dL_trades_583 : decode cL_trades 583 = .ok (.invokestatic 226, 3) := by decide +kernel
theorem dL_trades_586 : decode cL_trades 586 = .ok (.goto 13, 3) := by decide +kernel
theorem dL_trades_589 : decode cL_trades 589 = .ok (.aload_n 0, 1) := by decide +kernel
theorem dL_trades_590 : decode cL_trades 590 = .ok (.iload 19, 2) := by decide +kernel
theorem dL_trades_592 : decode cL_trades 592 = .ok (.iload 16, 2) := by decide +kernel
theorem dL_trades_594 : decode cL_trades 594 = .ok (.iload 17, 2) := by decide +kernel
theorem dL_trades_596 : decode cL_trades 596 = .ok (.invokestatic 228, 3) := by decide +kernel
theorem dL_trades_599 : decode cL_trades 599 = .ok (.aload 13, 2) := by decide +kernel
theorem dL_trades_601 : decode cL_trades 601 = .ok (.iload 19, 2) := by decide +kernel
theorem dL_trades_603 : decode cL_trades 603 = .ok (.iaload, 1) := by decide +kernel
theorem dL_trades_604 : decode cL_trades 604 = .ok (.iconst 4, 1) := by decide +kernel
theorem dL_trades_605 : decode cL_trades 605 = .ok (.ishr, 1) := by decide +kernel
theorem dL_trades_606 : decode cL_trades 606 = .ok (.bipush 7, 2) := by decide +kernel
theorem dL_trades_608 : decode cL_trades 608 = .ok (.iand, 1) := by decide +kernel
theorem dL_trades_609 : decode cL_trades 609 = .ok (.if_icmp .ne 7, 3) := by decide +kernel
theorem dL_trades_612 : decode cL_trades 612 = .ok (.iconst 1, 1) := by decide +kernel
theorem dL_trades_613 : decode cL_trades 613 = .ok (.goto 4, 3) := by decide +kernel
theorem dL_trades_616 : decode cL_trades 616 = .ok (.iconst 0, 1) := by decide +kernel
theorem dL_trades_617 : decode cL_trades 617 = .ok (.ireturn, 1) := by decide +kernel
theorem dL_trades_618 : decode cL_trades 618 = .ok (.iload_n 1, 1) := by decide +kernel
theorem dL_trades_619 : decode cL_trades 619 = .ok (.bipush 9, 2) := by decide +kernel
theorem dL_trades_621 : decode cL_trades 621 = .ok (.if_icmp .ge 397, 3) := by decide +kernel
theorem dL_trades_624 : decode cL_trades 624 = .ok (.iload_n 2, 1) := by decide +kernel
theorem dL_trades_625 : decode cL_trades 625 = .ok (.iconst 3, 1) := by decide +kernel
theorem dL_trades_626 : decode cL_trades 626 = .ok (.invokestatic 210, 3) := by decide +kernel
theorem dL_trades_629 : decode cL_trades 629 = .ok (.istore 19, 2) := by decide +kernel
theorem dL_trades_631 : decode cL_trades 631 = .ok (.iload_n 3, 1) := by decide +kernel
theorem dL_trades_632 : decode cL_trades 632 = .ok (.iload_n 3, 1) := by decide +kernel
theorem dL_trades_633 : decode cL_trades 633 = .ok (.bipush 96, 2) := by decide +kernel
theorem dL_trades_635 : decode cL_trades 635 = .ok (.iand, 1) := by decide +kernel
theorem dL_trades_636 : decode cL_trades 636 = .ok (.ifCond .ne 9, 3) := by decide +kernel
theorem dL_trades_639 : decode cL_trades 639 = .ok (.sipush 201, 3) := by decide +kernel
theorem dL_trades_642 : decode cL_trades 642 = .ok (.goto 5, 3) := by decide +kernel
theorem dL_trades_645 : decode cL_trades 645 = .ok (.bipush 30, 2) := by decide +kernel
theorem dL_trades_647 : decode cL_trades 647 = .ok (.invokestatic 210, 3) := by decide +kernel
theorem dL_trades_650 : decode cL_trades 650 = .ok (.istore 20, 2) := by decide +kernel
theorem dL_trades_652 : decode cL_trades 652 = .ok (.aload_n 0, 1) := by decide +kernel
theorem dL_trades_653 : decode cL_trades 653 = .ok (.iconst 3, 1) := by decide +kernel
theorem dL_trades_654 : decode cL_trades 654 = .ok (.iload 18, 2) := by decide +kernel
theorem dL_trades_656 : decode cL_trades 656 = .ok (.iconst 0, 1) := by decide +kernel
theorem dL_trades_657 : decode cL_trades 657 = .ok (.iconst 0, 1) := by decide +kernel
theorem dL_trades_658 : decode cL_trades 658 = .ok (.invokestatic 231, 3) := by decide +kernel
theorem dL_trades_661 : decode cL_trades 661 = .ok (.sipush (-7100), 3) := by decide +kernel
theorem dL_trades_664 : decode cL_trades 664 = .ok (.if_icmp .ne 74, 3) := by decide +kernel
theorem dL_trades_667 : decode cL_trades 667 = .ok (.aload_n 0, 1) := by decide +kernel
theorem dL_trades_668 : decode cL_trades 668 = .ok (.iload 19, 2) := by decide +kernel
theorem dL_trades_670 : decode cL_trades 670 = .ok (.iload 18, 2) := by decide +kernel
theorem dL_trades_672 : decode cL_trades 672 = .ok (.iconst 0, 1) := by decide +kernel
theorem dL_trades_673 : decode cL_trades 673 = .ok (.iload 20, 2) := by decide +kernel
theorem dL_trades_675 : decode cL_trades 675 = .ok (.invokestatic 231, 3) := by decide +kernel
theorem dL_trades_678 : decode cL_trades 678 = .ok (.sipush (-7200), 3) := by decide +kernel
theorem dL_trades_681 : decode cL_trades 681 = .ok (.if_icmp .ne 57, 3) := by decide +kernel
theorem dL_trades_684 : decode cL_trades 684 = .ok (.aload_n 0, 1) := by decide +kernel
theorem dL_trades_685 : decode cL_trades 685 = .ok (.iload 19, 2) := by decide +kernel
theorem dL_trades_687 : decode cL_trades 687 = .ok (.iload 18, 2) := by decide +kernel
theorem dL_trades_689 : decode cL_trades 689 = .ok (.bipush 101, 2) := by decide +kernel
theorem dL_trades_691 : decode cL_trades 691 = .ok (.iload 20, 2) := by decide +kernel
theorem dL_trades_693 : decode cL_trades 693 = .ok (.invokestatic 231, 3) := by decide +kernel
theorem dL_trades_696 : decode cL_trades 696 = .ok (.sipush (-7200), 3) := by decide +kernel
theorem dL_trades_699 : decode cL_trades 699 = .ok (.if_icmp .ne 39, 3) := by decide +kernel
theorem dL_trades_702 : decode cL_trades 702 = .ok (.aload_n 0, 1) := by decide +kernel
theorem dL_trades_703 : decode cL_trades 703 = .ok (.iload 19, 2) := by decide +kernel
theorem dL_trades_705 : decode cL_trades 705 = .ok (.iload 18, 2) := by decide +kernel
theorem dL_trades_707 : decode cL_trades 707 = .ok (.iload 16, 2) := by decide +kernel
theorem dL_trades_709 : decode cL_trades 709 = .ok (.sipush 201, 3) := by decide +kernel
theorem dL_trades_712 : decode cL_trades 712 = .ok (.invokestatic 231, 3) := by decide +kernel
theorem dL_trades_715 : decode cL_trades 715 = .ok (.sipush (-7200), 3) := by decide +kernel
theorem dL_trades_718 : decode cL_trades 718 = .ok (.if_icmp .ne 20, 3) := by decide +kernel
theorem dL_trades_721 : decode cL_trades 721 = .ok (.aload_n 0, 1) := by decide +kernel
theorem dL_trades_722 : decode cL_trades 722 = .ok (.iload 19, 2) := by decide +kernel
theorem dL_trades_724 : decode cL_trades 724 = .ok (.iload 18, 2) := by decide +kernel
theorem dL_trades_726 : decode cL_trades 726 = .ok (.iload 16, 2) := by decide +kernel
theorem dL_trades_728 : decode cL_trades 728 = .ok (.iconst (-1), 1) := by decide +kernel
theorem dL_trades_729 : decode cL_trades 729 = .ok (.invokestatic 231, 3) := by decide +kernel
theorem dL_trades_732 : decode cL_trades 732 = .ok (.sipush (-7200), 3) := by decide +kernel
theorem dL_trades_735 : decode cL_trades 735 = .ok (.if_icmp .eq 5, 3) := by decide +kernel
theorem dL_trades_738 : decode cL_trades 738 = .ok (.iconst 0, 1) := by decide +kernel
theorem dL_trades_739 : decode cL_trades 739 = .ok (.ireturn, 1) := by decide +kernel
theorem dL_trades_740 : decode cL_trades 740 = .ok (.aload 15, 2) := by decide +kernel
theorem dL_trades_742 : decode cL_trades 742 = .ok (.iconst 2, 1) := by decide +kernel
theorem dL_trades_743 : decode cL_trades 743 = .ok (.iload 19, 2) := by decide +kernel
theorem dL_trades_745 : decode cL_trades 745 = .ok (.imul, 1) := by decide +kernel
theorem dL_trades_746 : decode cL_trades 746 = .ok (.iload 18, 2) := by decide +kernel
theorem dL_trades_748 : decode cL_trades 748 = .ok (.ifCond .eq 7, 3) := by decide +kernel
theorem dL_trades_751 : decode cL_trades 751 = .ok (.iconst 1, 1) := by decide +kernel
theorem dL_trades_752 : decode cL_trades 752 = .ok (.goto 4, 3) := by decide +kernel
theorem dL_trades_755 : decode cL_trades 755 = .ok (.iconst 0, 1) := by decide +kernel
theorem dL_trades_756 : decode cL_trades 756 = .ok (.iadd, 1) := by decide +kernel
theorem dL_trades_757 : decode cL_trades 757 = .ok (.iload 20, 2) := by decide +kernel
theorem dL_trades_759 : decode cL_trades 759 = .ok (.sipush 256, 3) := by decide +kernel
theorem dL_trades_762 : decode cL_trades 762 = .ok (.iload 16, 2) := by decide +kernel
theorem dL_trades_764 : decode cL_trades 764 = .ok (.imul, 1) := by decide +kernel
theorem dL_trades_765 : decode cL_trades 765 = .ok (.iadd, 1) := by decide +kernel
theorem dL_trades_766 : decode cL_trades 766 = .ok (.iastore, 1) := by decide +kernel
theorem dL_trades_767 : decode cL_trades 767 = .ok (.aload 4, 2) := by decide +kernel
theorem dL_trades_769 : decode cL_trades 769 = .ok (.bipush 19, 2) := by decide +kernel
theorem dL_trades_771 : decode cL_trades 771 = .ok (.iaload, 1) := by decide +kernel
theorem dL_trades_772 : decode cL_trades 772 = .ok (.istore 21, 2) := by decide +kernel
theorem dL_trades_774 : decode cL_trades 774 = .ok (.iconst 0, 1) := by decide +kernel
theorem dL_trades_775 : decode cL_trades 775 = .ok (.istore 22, 2) := by decide +kernel
theorem dL_trades_777 : decode cL_trades 777 = .ok (.iconst 0, 1) := by decide +kernel
theorem dL_trades_778 : decode cL_trades 778 = .ok (.istore 23, 2) := by decide +kernel
theorem dL_trades_780 : decode cL_trades 780 = .ok (.iload 23, 2) := by decide +kernel
theorem dL_trades_782 : decode cL_trades 782 = .ok (.aload 4, 2) := by decide +kernel
theorem dL_trades_784 : decode cL_trades 784 = .ok (.bipush 18, 2) := by decide +kernel
theorem dL_trades_786 : decode cL_trades 786 = .ok (.iaload, 1) := by decide +kernel
theorem dL_trades_787 : decode cL_trades 787 = .ok (.if_icmp .ge 202, 3) := by decide +kernel
theorem dL_trades_790 : decode cL_trades 790 = .ok (.iconst (-1), 1) := by decide +kernel
theorem dL_trades_791 : decode cL_trades 791 = .ok (.istore 24, 2) := by decide +kernel
theorem dL_trades_793 : decode cL_trades 793 = .ok (.iconst 0, 1) := by decide +kernel
theorem dL_trades_794 : decode cL_trades 794 = .ok (.istore 25, 2) := by decide +kernel
theorem dL_trades_796 : decode cL_trades 796 = .ok (.iload 25, 2) := by decide +kernel
theorem dL_trades_798 : decode cL_trades 798 = .ok (.aload 4, 2) := by decide +kernel
theorem dL_trades_800 : decode cL_trades 800 = .ok (.bipush 18, 2) := by decide +kernel
theorem dL_trades_802 : decode cL_trades 802 = .ok (.iaload, 1) := by decide +kernel
theorem dL_trades_803 : decode cL_trades 803 = .ok (.if_icmp .ge 134, 3) := by decide +kernel
theorem dL_trades_806 : decode cL_trades 806 = .ok (.iload 22, 2) := by decide +kernel
theorem dL_trades_808 : decode cL_trades 808 = .ok (.iload 25, 2) := by decide +kernel
theorem dL_trades_810 : decode cL_trades 810 = .ok (.ishr, 1) := by decide +kernel
theorem dL_trades_811 : decode cL_trades 811 = .ok (.iconst 1, 1) := by decide +kernel
theorem dL_trades_812 : decode cL_trades 812 = .ok (.iand, 1) := by decide +kernel
theorem dL_trades_813 : decode cL_trades 813 = .ok (.iconst 1, 1) := by decide +kernel
theorem dL_trades_814 : decode cL_trades 814 = .ok (.if_icmp .eq 117, 3) := by decide +kernel
theorem dL_trades_817 : decode cL_trades 817 = .ok (.aload 13, 2) := by decide +kernel
theorem dL_trades_819 : decode cL_trades 819 = .ok (.iload 25, 2) := by decide +kernel
theorem dL_trades_821 : decode cL_trades 821 = .ok (.iaload, 1) := by decide +kernel
theorem dL_trades_822 : decode cL_trades 822 = .ok (.iconst 4, 1) := by decide +kernel
theorem dL_trades_823 : decode cL_trades 823 = .ok (.iand, 1) := by decide +kernel
theorem dL_trades_824 : decode cL_trades 824 = .ok (.ifCond .eq 107, 3) := by decide +kernel
theorem dL_trades_827 : decode cL_trades 827 = .ok (.aload 13, 2) := by decide +kernel
theorem dL_trades_829 : decode cL_trades 829 = .ok (.iload 25, 2) := by decide +kernel
theorem dL_trades_831 : decode cL_trades 831 = .ok (.iaload, 1) := by decide +kernel
theorem dL_trades_832 : decode cL_trades 832 = .ok (.iconst 1, 1) := by decide +kernel
theorem dL_trades_833 : decode cL_trades 833 = .ok (.iand, 1) := by decide +kernel
theorem dL_trades_834 : decode cL_trades 834 = .ok (.iload 18, 2) := by decide +kernel
theorem dL_trades_836 : decode cL_trades 836 = .ok (.ifCond .eq 7, 3) := by decide +kernel
theorem dL_trades_839 : decode cL_trades 839 = .ok (.iconst 1, 1) := by decide +kernel
theorem dL_trades_840 : decode cL_trades 840 = .ok (.goto 4, 3) := by decide +kernel
theorem dL_trades_843 : decode cL_trades 843 = .ok (.iconst 0, 1) := by decide +kernel
theorem dL_trades_844 : decode cL_trades 844 = .ok (.if_icmp .eq 6, 3) := by decide +kernel
theorem dL_trades_847 : decode cL_trades 847 = .ok (.goto 84, 3) := by decide +kernel
theorem dL_trades_850 : decode cL_trades 850 = .ok (.iload 24, 2) := by decide +kernel
theorem dL_trades_852 : decode cL_trades 852 = .ok (.ifCond .ge 7, 3) := by decide +kernel
theorem dL_trades_855 : decode cL_trades 855 = .ok (.iconst 0, 1) := by decide +kernel
theorem dL_trades_856 : decode cL_trades 856 = .ok (.goto 20, 3) := by decide +kernel
theorem dL_trades_859 : decode cL_trades 859 = .ok (.aload 9, 2) := by decide +kernel
theorem dL_trades_861 : decode cL_trades 861 = .ok (.bipush 10, 2) := by decide +kernel
theorem dL_trades_863 : decode cL_trades 863 = .ok (.iload 25, 2) := by decide +kernel
theorem dL_trades_865 : decode cL_trades 865 = .ok (.iadd, 1) := by decide +kernel
theorem dL_trades_866 : decode cL_trades 866 = .ok (.iaload, 1) := by decide +kernel
theorem dL_trades_867 : decode cL_trades 867 = .ok (.aload 9, 2) := by decide +kernel
theorem dL_trades_869 : decode cL_trades 869 = .ok (.bipush 10, 2) := by decide +kernel
theorem dL_trades_871 : decode cL_trades 871 = .ok (.iload 24, 2) := by decide +kernel
theorem dL_trades_873 : decode cL_trades 873 = .ok (.iadd, 1) := by decide +kernel
theorem dL_trades_874 : decode cL_trades 874 = .ok (.iaload, 1) := by decide +kernel
theorem dL_trades_875 : decode cL_trades 875 = .ok (.isub, 1) := by decide +kernel
theorem dL_trades_876 : decode cL_trades 876 = .ok (.istore 26, 2) := by decide +kernel
theorem dL_trades_878 : decode cL_trades 878 = .ok (.iload 24, 2) := by decide +kernel
theorem dL_trades_880 : decode cL_trades 880 = .ok (.ifCond .lt 47, 3) := by decide +kernel
theorem dL_trades_883 : decode cL_trades 883 = .ok (.iload 26, 2) := by decide +kernel
theorem dL_trades_885 : decode cL_trades 885 = .ok (.ifCond .eq 18, 3) := by decide +kernel
theorem dL_trades_888 : decode cL_trades 888 = .ok (.iload 26, 2) := by decide +kernel
theorem dL_trades_890 : decode cL_trades 890 = .ok (.ifCond .le 7, 3) := by decide +kernel
theorem dL_trades_893 : decode cL_trades 893 = .ok (.iconst 1, 1) := by decide +kernel
theorem dL_trades_894 : decode cL_trades 894 = .ok (.goto 4, 3) := by decide +kernel
theorem dL_trades_897 : decode cL_trades 897 = .ok (.iconst 0, 1) := by decide +kernel
theorem dL_trades_898 : decode cL_trades 898 = .ok (.iload 18, 2) := by decide +kernel
theorem dL_trades_900 : decode cL_trades 900 = .ok (.if_icmp .ne 27, 3) := by decide +kernel
theorem dL_trades_903 : decode cL_trades 903 = .ok (.iload 26, 2) := by decide +kernel
theorem dL_trades_905 : decode cL_trades 905 = .ok (.ifCond .ne 26, 3) := by decide +kernel
theorem dL_trades_908 : decode cL_trades 908 = .ok (.aload 13, 2) := by decide +kernel
theorem dL_trades_910 : decode cL_trades 910 = .ok (.iload 25, 2) := by decide +kernel
theorem dL_trades_912 : decode cL_trades 912 = .ok (.iaload, 1) := by decide +kernel
theorem dL_trades_913 : decode cL_trades 913 = .ok (.bipush 8, 2) := by decide +kernel
theorem dL_trades_915 : decode cL_trades 915 = .ok (.ishr, 1) := by decide +kernel
theorem dL_trades_916 : decode cL_trades 916 = .ok (.aload 13, 2) := by decide +kernel
theorem dL_trades_918 : decode cL_trades 918 = .ok (.iload 24, 2) := by decide +kernel
theorem dL_trades_920 : decode cL_trades 920 = .ok (.iaload, 1) := by decide +kernel
theorem dL_trades_921 : decode cL_trades 921 = .ok (.bipush 8, 2) := by decide +kernel
theorem dL_trades_923 : decode cL_trades 923 = .ok (.ishr, 1) := by decide +kernel
theorem dL_trades_924 : decode cL_trades 924 = .ok (.if_icmp .ge 7, 3) := by decide +kernel
theorem dL_trades_927 : decode cL_trades 927 = .ok (.iload 25, 2) := by decide +kernel
theorem dL_trades_929 : decode cL_trades 929 = .ok (.istore 24, 2) := by decide +kernel
theorem dL_trades_931 : decode cL_trades 931 = .ok (.iinc 25 1, 3) := by decide +kernel
theorem dL_trades_934 : decode cL_trades 934 = .ok (.goto (-138), 3) := by decide +kernel
theorem dL_trades_937 : decode cL_trades 937 = .ok (.iload 24, 2) := by decide +kernel
theorem dL_trades_939 : decode cL_trades 939 = .ok (.ifCond .ge 6, 3) := by decide +kernel
theorem dL_trades_942 : decode cL_trades 942 = .ok (.goto 41, 3) := by decide +kernel
theorem dL_trades_945 : decode cL_trades 945 = .ok (.iload 22, 2) := by decide +kernel
theorem dL_trades_947 : decode cL_trades 947 = .ok (.iconst 1, 1) := by decide +kernel
theorem dL_trades_948 : decode cL_trades 948 = .ok (.iload 24, 2) := by decide +kernel
theorem dL_trades_950 : decode cL_trades 950 = .ok (.ishl, 1) := by decide +kernel
theorem dL_trades_951 : decode cL_trades 951 = .ok (.ior, 1) := by decide +kernel
theorem dL_trades_952 : decode cL_trades 952 = .ok (.istore 22, 2) := by decide +kernel
theorem dL_trades_954 : decode cL_trades 954 = .ok (.aload 4, 2) := by decide +kernel
theorem dL_trades_956 : decode cL_trades 956 = .ok (.aload 5, 2) := by decide +kernel
theorem dL_trades_958 : decode cL_trades 958 = .ok (.aload 6, 2) := by decide +kernel
theorem dL_trades_960 : decode cL_trades 960 = .ok (.aload 7, 2) := by decide +kernel
theorem dL_trades_962 : decode cL_trades 962 = .ok (.aload 8, 2) := by decide +kernel
theorem dL_trades_964 : decode cL_trades 964 = .ok (.aload 9, 2) := by decide +kernel
theorem dL_trades_966 : decode cL_trades 966 = .ok (.aload 10, 2) := by decide +kernel
theorem dL_trades_968 : decode cL_trades 968 = .ok (.aload 11, 2) := by decide +kernel
theorem dL_trades_970 : decode cL_trades 970 = .ok (.aload 12, 2) := by decide +kernel
theorem dL_trades_972 : decode cL_trades 972 = .ok (.aload 13, 2) := by decide +kernel
theorem dL_trades_974 : decode cL_trades 974 = .ok (.aload 14, 2) := by decide +kernel
theorem dL_trades_976 : decode cL_trades 976 = .ok (.aload 15, 2) := by decide +kernel
theorem dL_trades_978 : decode cL_trades 978 = .ok (.iload 24, 2) := by decide +kernel
theorem dL_trades_980 : decode cL_trades 980 = .ok (.invokestatic 150, 3) := by decide +kernel
theorem dL_trades_983 : decode cL_trades 983 = .ok (.iinc 23 1, 3) := by decide +kernel
theorem dL_trades_986 : decode cL_trades 986 = .ok (.goto (-206), 3) := by decide +kernel
theorem dL_trades_989 : decode cL_trades 989 = .ok (.aload_n 0, 1) := by decide +kernel
theorem dL_trades_990 : decode cL_trades 990 = .ok (.iload 19, 2) := by decide +kernel
theorem dL_trades_992 : decode cL_trades 992 = .ok (.iload 18, 2) := by decide +kernel
theorem dL_trades_994 : decode cL_trades 994 = .ok (.iload 16, 2) := by decide +kernel
theorem dL_trades_996 : decode cL_trades 996 = .ok (.iload 20, 2) := by decide +kernel
theorem dL_trades_998 : decode cL_trades 998 = .ok (.invokestatic 231, 3) := by decide +kernel
theorem dL_trades_1001 : decode cL_trades 1001 = .ok (.aload 4, 2) := by decide +kernel
theorem dL_trades_1003 : decode cL_trades 1003 = .ok (.bipush 19, 2) := by decide +kernel
theorem dL_trades_1005 : decode cL_trades 1005 = .ok (.iaload, 1) := by decide +kernel
theorem dL_trades_1006 : decode cL_trades 1006 = .ok (.iload 21, 2) := by decide +kernel
theorem dL_trades_1008 : decode cL_trades 1008 = .ok (.isub, 1) := by decide +kernel
theorem dL_trades_1009 : decode cL_trades 1009 = .ok (.if_icmp .ne 7, 3) := by decide +kernel
theorem dL_trades_1012 : decode cL_trades 1012 = .ok (.iconst 1, 1) := by decide +kernel
theorem dL_trades_1013 : decode cL_trades 1013 = .ok (.goto 4, 3) := by decide +kernel
theorem dL_trades_1016 : decode cL_trades 1016 = .ok (.iconst 0, 1) := by decide +kernel
theorem dL_trades_1017 : decode cL_trades 1017 = .ok (.ireturn, 1) := by decide +kernel
theorem dL_trades_1018 : decode cL_trades 1018 = .ok (.iload_n 1, 1) := by decide +kernel
theorem dL_trades_1019 : decode cL_trades 1019 = .ok (.bipush 11, 2) := by decide +kernel
theorem dL_trades_1021 : decode cL_trades 1021 = .ok (.if_icmp .ne 30, 3) := by decide +kernel
theorem dL_trades_1024 : decode cL_trades 1024 = .ok (.aload 4, 2) := by decide +kernel
theorem dL_trades_1026 : decode cL_trades 1026 = .ok (.bipush 20, 2) := by decide +kernel
theorem dL_trades_1028 : decode cL_trades 1028 = .ok (.dup2, 1) := by decide +kernel
theorem dL_trades_1029 : decode cL_trades 1029 = .ok (.iaload, 1) := by decide +kernel
theorem dL_trades_1030 : decode cL_trades 1030 = .ok (.iconst 1, 1) := by decide +kernel
theorem dL_trades_1031 : decode cL_trades 1031 = .ok (.iadd, 1) := by decide +kernel
theorem dL_trades_1032 : decode cL_trades 1032 = .ok (.iastore, 1) := by decide +kernel
theorem dL_trades_1033 : decode cL_trades 1033 = .ok (.aload_n 0, 1) := by decide +kernel
theorem dL_trades_1034 : decode cL_trades 1034 = .ok (.invokevirtual 234, 3) := by decide +kernel
theorem dL_trades_1037 : decode cL_trades 1037 = .ok (.aload 4, 2) := by decide +kernel
theorem dL_trades_1039 : decode cL_trades 1039 = .ok (.bipush 20, 2) := by decide +kernel
theorem dL_trades_1041 : decode cL_trades 1041 = .ok (.iaload, 1) := by decide +kernel
theorem dL_trades_1042 : decode cL_trades 1042 = .ok (.if_icmp .ne 7, 3) := by decide +kernel
theorem dL_trades_1045 : decode cL_trades 1045 = .ok (.iconst 1, 1) := by decide +kernel
theorem dL_trades_1046 : decode cL_trades 1046 = .ok (.goto 4, 3) := by decide +kernel
theorem dL_trades_1049 : decode cL_trades 1049 = .ok (.iconst 0, 1) := by decide +kernel
theorem dL_trades_1050 : decode cL_trades 1050 = .ok (.ireturn, 1) := by decide +kernel
theorem dL_trades_1051 : decode cL_trades 1051 = .ok (.iload_n 3, 1) := by decide +kernel
theorem dL_trades_1052 : decode cL_trades 1052 = .ok (.aload 4, 2) := by decide +kernel
theorem dL_trades_1054 : decode cL_trades 1054 = .ok (.bipush 19, 2) := by decide +kernel
theorem dL_trades_1056 : decode cL_trades 1056 = .ok (.iaload, 1) := by decide +kernel
theorem dL_trades_1057 : decode cL_trades 1057 = .ok (.iconst 1, 1) := by decide +kernel
theorem dL_trades_1058 : decode cL_trades 1058 = .ok (.iadd, 1) := by decide +kernel
theorem dL_trades_1059 : decode cL_trades 1059 = .ok (.invokestatic 210, 3) := by decide +kernel
theorem dL_trades_1062 : decode cL_trades 1062 = .ok (.istore 19, 2) := by decide +kernel
theorem dL_trades_1064 : decode cL_trades 1064 = .ok (.iload 19, 2) := by decide +kernel
theorem dL_trades_1066 : decode cL_trades 1066 = .ok (.aload 4, 2) := by decide +kernel
theorem dL_trades_1068 : decode cL_trades 1068 = .ok (.bipush 19, 2) := by decide +kernel
theorem dL_trades_1070 : decode cL_trades 1070 = .ok (.iaload, 1) := by decide +kernel
theorem dL_trades_1071 : decode cL_trades 1071 = .ok (.if_icmp .ne 45, 3) := by decide +kernel
theorem dL_trades_1074 : decode cL_trades 1074 = .ok (.aload_n 0, 1) := by decide +kernel
theorem dL_trades_1075 : decode cL_trades 1075 = .ok (.iload 19, 2) := by decide +kernel
theorem dL_trades_1077 : decode cL_trades 1077 = .ok (.invokestatic 237, 3) := by decide +kernel
theorem dL_trades_1080 : decode cL_trades 1080 = .ok (.sipush (-7100), 3) := by decide +kernel
theorem dL_trades_1083 : decode cL_trades 1083 = .ok (.if_icmp .ne 31, 3) := by decide +kernel
theorem dL_trades_1086 : decode cL_trades 1086 = .ok (.aload_n 0, 1) := by decide +kernel
theorem dL_trades_1087 : decode cL_trades 1087 = .ok (.iload 19, 2) := by decide +kernel
theorem dL_trades_1089 : decode cL_trades 1089 = .ok (.iconst 0, 1) := by decide +kernel
theorem dL_trades_1090 : decode cL_trades 1090 = .ok (.invokestatic 239, 3) := by decide +kernel
theorem dL_trades_1093 : decode cL_trades 1093 = .ok (.sipush (-7100), 3) := by decide +kernel
theorem dL_trades_1096 : decode cL_trades 1096 = .ok (.if_icmp .ne 18, 3) := by decide +kernel
theorem dL_trades_1099 : decode cL_trades 1099 = .ok (.aload_n 0, 1) := by decide +kernel
theorem dL_trades_1100 : decode cL_trades 1100 = .ok (.iconst (-1), 1) := by decide +kernel
theorem dL_trades_1101 : decode cL_trades 1101 = .ok (.invokestatic 237, 3) := by decide +kernel
theorem dL_trades_1104 : decode cL_trades 1104 = .ok (.sipush (-7100), 3) := by decide +kernel
theorem dL_trades_1107 : decode cL_trades 1107 = .ok (.if_icmp .ne 7, 3) := by decide +kernel
theorem dL_trades_1110 : decode cL_trades 1110 = .ok (.iconst 1, 1) := by decide +kernel
theorem dL_trades_1111 : decode cL_trades 1111 = .ok (.goto 4, 3) := by decide +kernel
theorem dL_trades_1114 : decode cL_trades 1114 = .ok (.iconst 0, 1) := by decide +kernel
theorem dL_trades_1115 : decode cL_trades 1115 = .ok (.ireturn, 1) := by decide +kernel
theorem dL_trades_1116 : decode cL_trades 1116 = .ok (.aload 14, 2) := by decide +kernel
theorem dL_trades_1118 : decode cL_trades 1118 = .ok (.iload 19, 2) := by decide +kernel
theorem dL_trades_1120 : decode cL_trades 1120 = .ok (.laload, 1) := by decide +kernel
theorem dL_trades_1121 : decode cL_trades 1121 = .ok (.bipush 43, 2) := by decide +kernel
theorem dL_trades_1123 : decode cL_trades 1123 = .ok (.lshr, 1) := by decide +kernel
theorem dL_trades_1124 : decode cL_trades 1124 = .ok (.lconst 1, 1) := by decide +kernel
theorem dL_trades_1125 : decode cL_trades 1125 = .ok (.land, 1) := by decide +kernel
theorem dL_trades_1126 : decode cL_trades 1126 = .ok (.lconst 1, 1) := by decide +kernel
theorem dL_trades_1127 : decode cL_trades 1127 = .ok (.lcmp, 1) := by decide +kernel
theorem dL_trades_1128 : decode cL_trades 1128 = .ok (.ifCond .ne 7, 3) := by decide +kernel
theorem dL_trades_1131 : decode cL_trades 1131 = .ok (.iconst 1, 1) := by decide +kernel
theorem dL_trades_1132 : decode cL_trades 1132 = .ok (.goto 4, 3) := by decide +kernel
theorem dL_trades_1135 : decode cL_trades 1135 = .ok (.iconst 0, 1) := by decide +kernel
theorem dL_trades_1136 : decode cL_trades 1136 = .ok (.istore 20, 2) := by decide +kernel
theorem dL_trades_1138 : decode cL_trades 1138 = .ok (.aload 14, 2) := by decide +kernel
theorem dL_trades_1140 : decode cL_trades 1140 = .ok (.iload 19, 2) := by decide +kernel
theorem dL_trades_1142 : decode cL_trades 1142 = .ok (.laload, 1) := by decide +kernel
theorem dL_trades_1143 : decode cL_trades 1143 = .ok (.ldc2_w 133, 3) := by decide +kernel
theorem dL_trades_1146 : decode cL_trades 1146 = .ok (.land, 1) := by decide +kernel
theorem dL_trades_1147 : decode cL_trades 1147 = .ok (.l2i, 1) := by decide +kernel
theorem dL_trades_1148 : decode cL_trades 1148 = .ok (.istore 21, 2) := by decide +kernel
theorem dL_trades_1150 : decode cL_trades 1150 = .ok (.iload_n 1, 1) := by decide +kernel
theorem dL_trades_1151 : decode cL_trades 1151 = .ok (.bipush 9, 2) := by decide +kernel
theorem dL_trades_1153 : decode cL_trades 1153 = .ok (.if_icmp .ne 120, 3) := by decide +kernel
theorem dL_trades_1156 : decode cL_trades 1156 = .ok (.iload 20, 2) := by decide +kernel
theorem dL_trades_1158 : decode cL_trades 1158 = .ok (.ifCond .eq 21, 3) := by decide +kernel
theorem dL_trades_1161 : decode cL_trades 1161 = .ok (.aload_n 0, 1) := by decide +kernel
theorem dL_trades_1162 : decode cL_trades 1162 = .ok (.iload 19, 2) := by decide +kernel
theorem dL_trades_1164 : decode cL_trades 1164 = .ok (.invokestatic 237, 3) := by decide +kernel
theorem dL_trades_1167 : decode cL_trades 1167 = .ok (.sipush (-7300), 3) := by decide +kernel
theorem dL_trades_1170 : decode cL_trades 1170 = .ok (.if_icmp .ne 7, 3) := by decide +kernel
theorem dL_trades_1173 : decode cL_trades 1173 = .ok (.iconst 1, 1) := by decide +kernel
theorem dL_trades_1174 : decode cL_trades 1174 = .ok (.goto 4, 3) := by decide +kernel
theorem dL_trades_1177 : decode cL_trades 1177 = .ok (.iconst 0, 1) := by decide +kernel
theorem dL_trades_1178 : decode cL_trades 1178 = .ok (.ireturn, 1) := by decide +kernel
theorem dL_trades_1179 : decode cL_trades 1179 = .ok (.aload 14, 2) := by decide +kernel
theorem dL_trades_1181 : decode cL_trades 1181 = .ok (.iload 19, 2) := by decide +kernel
theorem dL_trades_1183 : decode cL_trades 1183 = .ok (.dup2, 1) := by decide +kernel
theorem dL_trades_1184 : decode cL_trades 1184 = .ok (.laload, 1) := by decide +kernel
theorem dL_trades_1185 : decode cL_trades 1185 = .ok (.ldc2_w 241, 3) := by decide +kernel
theorem dL_trades_1188 : decode cL_trades 1188 = .ok (.lor, 1) := by decide +kernel
theorem dL_trades_1189 : decode cL_trades 1189 = .ok (.lastore, 1) := by decide +kernel
theorem dL_trades_1190 : decode cL_trades 1190 = .ok (.aload 11, 2) := by decide +kernel
theorem dL_trades_1192 : decode cL_trades 1192 = .ok (.bipush 10, 2) := by decide +kernel
theorem dL_trades_1194 : decode cL_trades 1194 = .ok (.iload 21, 2) := by decide +kernel
theorem dL_trades_1196 : decode cL_trades 1196 = .ok (.iadd, 1) := by decide +kernel
theorem dL_trades_1197 : decode cL_trades 1197 = .ok (.dup2, 1) := by decide +kernel
theorem dL_trades_1198 : decode cL_trades 1198 = .ok (.iaload, 1) := by decide +kernel
theorem dL_trades_1199 : decode cL_trades 1199 = .ok (.aload 14, 2) := by decide +kernel
theorem dL_trades_1201 : decode cL_trades 1201 = .ok (.iload 19, 2) := by decide +kernel
theorem dL_trades_1203 : decode cL_trades 1203 = .ok (.laload, 1) := by decide +kernel
theorem dL_trades_1204 : decode cL_trades 1204 = .ok (.invokestatic 156, 3) := by decide +kernel
theorem dL_trades_1207 : decode cL_trades 1207 = .ok (.isub, 1) := by decide +kernel
theorem dL_trades_1208 : decode cL_trades 1208 = .ok (.iastore, 1) := by decide +kernel
theorem dL_trades_1209 : decode cL_trades 1209 = .ok (.aload 12, 2) := by decide +kernel
theorem dL_trades_1211 : decode cL_trades 1211 = .ok (.bipush 10, 2) := by decide +kernel
theorem dL_trades_1213 : decode cL_trades 1213 = .ok (.iload 21, 2) := by decide +kernel
theorem dL_trades_1215 : decode cL_trades 1215 = .ok (.iadd, 1) := by decide +kernel
theorem dL_trades_1216 : decode cL_trades 1216 = .ok (.dup2, 1) := by decide +kernel
theorem dL_trades_1217 : decode cL_trades 1217 = .ok (.iaload, 1) := by decide +kernel
theorem dL_trades_1218 : decode cL_trades 1218 = .ok (.aload 14, 2) := by decide +kernel
theorem dL_trades_1220 : decode cL_trades 1220 = .ok (.iload 19, 2) := by decide +kernel
theorem dL_trades_1222 : decode cL_trades 1222 = .ok (.laload, 1) := by decide +kernel
theorem dL_trades_1223 : decode cL_trades 1223 = .ok (.invokestatic 156, 3) := by decide +kernel
theorem dL_trades_1226 : decode cL_trades 1226 = .ok (.iadd, 1) := by decide +kernel
theorem dL_trades_1227 : decode cL_trades 1227 = .ok (.iastore, 1) := by decide +kernel
theorem dL_trades_1228 : decode cL_trades 1228 = .ok (.aload 4, 2) := by decide +kernel
theorem dL_trades_1230 : decode cL_trades 1230 = .ok (.aload 5, 2) := by decide +kernel
theorem dL_trades_1232 : decode cL_trades 1232 = .ok (.aload 6, 2) := by decide +kernel
theorem dL_trades_1234 : decode cL_trades 1234 = .ok (.aload 7, 2) := by decide +kernel
theorem dL_trades_1236 : decode cL_trades 1236 = .ok (.aload 8, 2) := by decide +kernel
theorem dL_trades_1238 : decode cL_trades 1238 = .ok (.iconst 1, 1) := by decide +kernel
theorem dL_trades_1239 : decode cL_trades 1239 = .ok (.bipush 8, 2) := by decide +kernel
theorem dL_trades_1241 : decode cL_trades 1241 = .ok (.iconst 5, 1) := by decide +kernel
theorem dL_trades_1242 : decode cL_trades 1242 = .ok (.iload 21, 2) := by decide +kernel
theorem dL_trades_1244 : decode cL_trades 1244 = .ok (.iload 19, 2) := by decide +kernel
theorem dL_trades_1246 : decode cL_trades 1246 = .ok (.iconst 0, 1) := by decide +kernel
theorem dL_trades_1247 : decode cL_trades 1247 = .ok (.invokestatic 129, 3) := by decide +kernel
theorem dL_trades_1250 : decode cL_trades 1250 = .ok (.aload_n 0, 1) := by decide +kernel
theorem dL_trades_1251 : decode cL_trades 1251 = .ok (.iload 19, 2) := by decide +kernel
theorem dL_trades_1253 : decode cL_trades 1253 = .ok (.invokestatic 237, 3) := by decide +kernel
theorem dL_trades_1256 : decode cL_trades 1256 = .ok (.aload 11, 2) := by decide +kernel
theorem dL_trades_1258 : decode cL_trades 1258 = .ok (.bipush 10, 2) := by decide +kernel
theorem dL_trades_1260 : decode cL_trades 1260 = .ok (.iload 21, 2) := by decide +kernel
theorem dL_trades_1262 : decode cL_trades 1262 = .ok (.iadd, 1) := by decide +kernel
theorem dL_trades_1263 : decode cL_trades 1263 = .ok (.iaload, 1) := by decide +kernel
theorem dL_trades_1264 : decode cL_trades 1264 = .ok (.if_icmp .ne 7, 3) := by decide +kernel
theorem dL_trades_1267 : decode cL_trades 1267 = .ok (.iconst 1, 1) := by decide +kernel
theorem dL_trades_1268 : decode cL_trades 1268 = .ok (.goto 4, 3) := by decide +kernel
theorem dL_trades_1271 : decode cL_trades 1271 = .ok (.iconst 0, 1) := by decide +kernel
theorem dL_trades_1272 : decode cL_trades 1272 = .ok (.ireturn, 1) := by decide +kernel
theorem dL_trades_1273 : decode cL_trades 1273 = .ok (.aload_n 0, 1) := by decide +kernel
theorem dL_trades_1274 : decode cL_trades 1274 = .ok (.iload 19, 2) := by decide +kernel
theorem dL_trades_1276 : decode cL_trades 1276 = .ok (.iconst 0, 1) := by decide +kernel
theorem dL_trades_1277 : decode cL_trades 1277 = .ok (.invokestatic 239, 3) := by decide +kernel
theorem dL_trades_1280 : decode cL_trades 1280 = .ok (.sipush (-7200), 3) := by decide +kernel
theorem dL_trades_1283 : decode cL_trades 1283 = .ok (.if_icmp .ne 17, 3) := by decide +kernel
theorem dL_trades_1286 : decode cL_trades 1286 = .ok (.aload_n 0, 1) := by decide +kernel
theorem dL_trades_1287 : decode cL_trades 1287 = .ok (.iload 19, 2) := by decide +kernel
theorem dL_trades_1289 : decode cL_trades 1289 = .ok (.bipush 101, 2) := by decide +kernel
theorem dL_trades_1291 : decode cL_trades 1291 = .ok (.invokestatic 239, 3) := by decide +kernel
theorem dL_trades_1294 : decode cL_trades 1294 = .ok (.sipush (-7200), 3) := by decide +kernel
theorem dL_trades_1297 : decode cL_trades 1297 = .ok (.if_icmp .eq 5, 3) := by decide +kernel
theorem dL_trades_1300 : decode cL_trades 1300 = .ok (.iconst 0, 1) := by decide +kernel
theorem dL_trades_1301 : decode cL_trades 1301 = .ok (.ireturn, 1) := by decide +kernel
theorem dL_trades_1302 : decode cL_trades 1302 = .ok (.iload 20, 2) := by decide +kernel
theorem dL_trades_1304 : decode cL_trades 1304 = .ok (.ifCond .eq 23, 3) := by decide +kernel
theorem dL_trades_1307 : decode cL_trades 1307 = .ok (.aload_n 0, 1) := by decide +kernel
theorem dL_trades_1308 : decode cL_trades 1308 = .ok (.iload 19, 2) := by decide +kernel
theorem dL_trades_1310 : decode cL_trades 1310 = .ok (.iload 16, 2) := by decide +kernel
theorem dL_trades_1312 : decode cL_trades 1312 = .ok (.invokestatic 239, 3) := by decide +kernel
theorem dL_trades_1315 : decode cL_trades 1315 = .ok (.sipush (-7300), 3) := by decide +kernel
theorem dL_trades_1318 : decode cL_trades 1318 = .ok (.if_icmp .ne 7, 3) := by decide +kernel
theorem dL_trades_1321 : decode cL_trades 1321 = .ok (.iconst 1, 1) := by decide +kernel
theorem dL_trades_1322 : decode cL_trades 1322 = .ok (.goto 4, 3) := by decide +kernel
theorem dL_trades_1325 : decode cL_trades 1325 = .ok (.iconst 0, 1) := by decide +kernel
theorem dL_trades_1326 : decode cL_trades 1326 = .ok (.ireturn, 1) := by decide +kernel
theorem dL_trades_1327 : decode cL_trades 1327 = .ok (.aload 14, 2) := by decide +kernel
theorem dL_trades_1329 : decode cL_trades 1329 = .ok (.iload 19, 2) := by decide +kernel
theorem dL_trades_1331 : decode cL_trades 1331 = .ok (.laload, 1) := by decide +kernel
theorem dL_trades_1332 : decode cL_trades 1332 = .ok (.bipush 28, 2) := by decide +kernel
theorem dL_trades_1334 : decode cL_trades 1334 = .ok (.invokestatic 162, 3) := by decide +kernel
theorem dL_trades_1337 : decode cL_trades 1337 = .ok (.istore 22, 2) := by decide +kernel
theorem dL_trades_1339 : decode cL_trades 1339 = .ok (.aload 14, 2) := by decide +kernel
theorem dL_trades_1341 : decode cL_trades 1341 = .ok (.iload 19, 2) := by decide +kernel
theorem dL_trades_1343 : decode cL_trades 1343 = .ok (.aload 14, 2) := by decide +kernel
theorem dL_trades_1345 : decode cL_trades 1345 = .ok (.iload 19, 2) := by decide +kernel
theorem dL_trades_1347 : decode cL_trades 1347 = .ok (.laload, 1) := by decide +kernel
theorem dL_trades_1348 : decode cL_trades 1348 = .ok (.ldc2_w 243, 3) := by decide +kernel
theorem dL_trades_1351 : decode cL_trades 1351 = .ok (.land, 1) := by decide +kernel
theorem dL_trades_1352 : decode cL_trades 1352 = .ok (.iload 16, 2) := by decide +kernel
theorem dL_trades_1354 : decode cL_trades 1354 = .ok (.i2l, 1) := by decide +kernel
theorem dL_trades_1355 : decode cL_trades 1355 = .ok (.bipush 28, 2) := by decide +kernel
theorem dL_trades_1357 : decode cL_trades 1357 = .ok (.lshl, 1) := by decide +kernel
theorem dL_trades_1358 : decode cL_trades 1358 = .ok (.lor, 1) := by decide +kernel
theorem dL_trades_1359 : decode cL_trades 1359 = .ok (.lastore, 1) := by decide +kernel
theorem dL_trades_1360 : decode cL_trades 1360 = .ok (.aload 4, 2) := by decide +kernel
theorem dL_trades_1362 : decode cL_trades 1362 = .ok (.aload 5, 2) := by decide +kernel
theorem dL_trades_1364 : decode cL_trades 1364 = .ok (.aload 6, 2) := by decide +kernel
theorem dL_trades_1366 : decode cL_trades 1366 = .ok (.aload 7, 2) := by decide +kernel
theorem dL_trades_1368 : decode cL_trades 1368 = .ok (.aload 8, 2) := by decide +kernel
theorem dL_trades_1370 : decode cL_trades 1370 = .ok (.iconst 1, 1) := by decide +kernel
theorem dL_trades_1371 : decode cL_trades 1371 = .ok (.bipush 8, 2) := by decide +kernel
theorem dL_trades_1373 : decode cL_trades 1373 = .ok (.bipush 6, 2) := by decide +kernel
theorem dL_trades_1375 : decode cL_trades 1375 = .ok (.iload 21, 2) := by decide +kernel
theorem dL_trades_1377 : decode cL_trades 1377 = .ok (.iload 19, 2) := by decide +kernel
theorem dL_trades_1379 : decode cL_trades 1379 = .ok (.iload 16, 2) := by decide +kernel
theorem dL_trades_1381 : decode cL_trades 1381 = .ok (.invokestatic 129, 3) := by decide +kernel
theorem dL_trades_1384 : decode cL_trades 1384 = .ok (.aload_n 0, 1) := by decide +kernel
theorem dL_trades_1385 : decode cL_trades 1385 = .ok (.iload 19, 2) := by decide +kernel
theorem dL_trades_1387 : decode cL_trades 1387 = .ok (.iload 16, 2) := by decide +kernel
theorem dL_trades_1389 : decode cL_trades 1389 = .ok (.invokestatic 239, 3) := by decide +kernel
theorem dL_trades_1392 : decode cL_trades 1392 = .ok (.iload 22, 2) := by decide +kernel
theorem dL_trades_1394 : decode cL_trades 1394 = .ok (.if_icmp .ne 7, 3) := by decide +kernel
theorem dL_trades_1397 : decode cL_trades 1397 = .ok (.iconst 1, 1) := by decide +kernel
theorem dL_trades_1398 : decode cL_trades 1398 = .ok (.goto 4, 3) := by decide +kernel
theorem dL_trades_1401 : decode cL_trades 1401 = .ok (.iconst 0, 1) := by decide +kernel
theorem dL_trades_1402 : decode cL_trades 1402 = .ok (.ireturn, 1) := by decide +kernel
theorem dL_isMessage_0 : decode cL_isMessage 0 = .ok (.iload_n 1, 1) := by decide +kernel
theorem dL_isMessage_1 : decode cL_isMessage 1 = .ok (.ifCond .ne 7, 3) := by decide +kernel
theorem dL_isMessage_4 : decode cL_isMessage 4 = .ok (.aload_n 3, 1) := by decide +kernel
theorem dL_isMessage_5 : decode cL_isMessage 5 = .ok (.goto 5, 3) := by decide +kernel
theorem dL_isMessage_8 : decode cL_isMessage 8 = .ok (.aload 4, 2) := by decide +kernel
theorem dL_isMessage_10 : decode cL_isMessage 10 = .ok (.iload_n 2, 1) := by decide +kernel
theorem dL_isMessage_11 : decode cL_isMessage 11 = .ok (.laload, 1) := by decide +kernel
theorem dL_isMessage_12 : decode cL_isMessage 12 = .ok (.lstore 6, 2) := by decide +kernel
theorem dL_isMessage_14 : decode cL_isMessage 14 = .ok (.lload 6, 2) := by decide +kernel
theorem dL_isMessage_16 : decode cL_isMessage 16 = .ok (.ldc2_w 133, 3) := by decide +kernel
theorem dL_isMessage_19 : decode cL_isMessage 19 = .ok (.land, 1) := by decide +kernel
theorem dL_isMessage_20 : decode cL_isMessage 20 = .ok (.l2i, 1) := by decide +kernel
theorem dL_isMessage_21 : decode cL_isMessage 21 = .ok (.istore 8, 2) := by decide +kernel
theorem dL_isMessage_23 : decode cL_isMessage 23 = .ok (.lload 6, 2) := by decide +kernel
theorem dL_isMessage_25 : decode cL_isMessage 25 = .ok (.iconst 5, 1) := by decide +kernel
theorem dL_isMessage_26 : decode cL_isMessage 26 = .ok (.invokestatic 135, 3) := by decide +kernel
theorem dL_isMessage_29 : decode cL_isMessage 29 = .ok (.istore 9, 2) := by decide +kernel
theorem dL_isMessage_31 : decode cL_isMessage 31 = .ok (.bipush 69, 2) := by decide +kernel
theorem dL_isMessage_33 : decode cL_isMessage 33 = .ok (.iload 8, 2) := by decide +kernel
theorem dL_isMessage_35 : decode cL_isMessage 35 = .ok (.iadd, 1) := by decide +kernel
theorem dL_isMessage_36 : decode cL_isMessage 36 = .ok (.iload_n 2, 1) := by decide +kernel
theorem dL_isMessage_37 : decode cL_isMessage 37 = .ok (.iadd, 1) := by decide +kernel
theorem dL_isMessage_38 : decode cL_isMessage 38 = .ok (.istore 10, 2) := by decide +kernel
theorem dL_isMessage_40 : decode cL_isMessage 40 = .ok (.iconst 2, 1) := by decide +kernel
theorem dL_isMessage_41 : decode cL_isMessage 41 = .ok (.istore 11, 2) := by decide +kernel
theorem dL_isMessage_43 : decode cL_isMessage 43 = .ok (.aload_n 0, 1) := by decide +kernel
theorem dL_isMessage_44 : decode cL_isMessage 44 = .ok (.iload_n 1, 1) := by decide +kernel
theorem dL_isMessage_45 : decode cL_isMessage 45 = .ok (.iload_n 2, 1) := by decide +kernel
theorem dL_isMessage_46 : decode cL_isMessage 46 = .ok (.iconst 0, 1) := by decide +kernel
theorem dL_isMessage_47 : decode cL_isMessage 47 = .ok (.invokestatic 245, 3) := by decide +kernel
theorem dL_isMessage_50 : decode cL_isMessage 50 = .ok (.bipush 35, 2) := by decide +kernel
theorem dL_isMessage_52 : decode cL_isMessage 52 = .ok (.if_icmp .ne 38, 3) := by decide +kernel
theorem dL_isMessage_55 : decode cL_isMessage 55 = .ok (.aload_n 0, 1) := by decide +kernel
theorem dL_isMessage_56 : decode cL_isMessage 56 = .ok (.iload_n 1, 1) := by decide +kernel
theorem dL_isMessage_57 : decode cL_isMessage 57 = .ok (.iload_n 2, 1) := by decide +kernel
theorem dL_isMessage_58 : decode cL_isMessage 58 = .ok (.iconst 0, 1) := by decide +kernel
theorem dL_isMessage_59 : decode cL_isMessage 59 = .ok (.invokestatic 247, 3) := by decide +kernel
theorem dL_isMessage_62 : decode cL_isMessage 62 = .ok (.iload 8, 2) := by decide +kernel
theorem dL_isMessage_64 : decode cL_isMessage 64 = .ok (.if_icmp .ne 26, 3) := by decide +kernel
theorem dL_isMessage_67 : decode cL_isMessage 67 = .ok (.aload_n 0, 1) := by decide +kernel
theorem dL_isMessage_68 : decode cL_isMessage 68 = .ok (.iload_n 1, 1) := by decide +kernel
theorem dL_isMessage_69 : decode cL_isMessage 69 = .ok (.iload_n 2, 1) := by decide +kernel
theorem dL_isMessage_70 : decode cL_isMessage 70 = .ok (.iconst 1, 1) := by decide +kernel
theorem dL_isMessage_71 : decode cL_isMessage 71 = .ok (.invokestatic 245, 3) := by decide +kernel
theorem dL_isMessage_74 : decode cL_isMessage 74 = .ok (.bipush 34, 2) := by decide +kernel
theorem dL_isMessage_76 : decode cL_isMessage 76 = .ok (.if_icmp .ne 14, 3) := by decide +kernel
theorem dL_isMessage_79 : decode cL_isMessage 79 = .ok (.aload_n 0, 1) := by decide +kernel
theorem dL_isMessage_80 : decode cL_isMessage 80 = .ok (.iload_n 1, 1) := by decide +kernel
theorem dL_isMessage_81 : decode cL_isMessage 81 = .ok (.iload_n 2, 1) := by decide +kernel
theorem dL_isMessage_82 : decode cL_isMessage 82 = .ok (.iconst 1, 1) := by decide +kernel
theorem dL_isMessage_83 : decode cL_isMessage 83 = .ok (.invokestatic 247, 3) := by decide +kernel
theorem dL_isMessage_86 : decode cL_isMessage 86 = .ok (.iload_n 2, 1) := by decide +kernel
theorem dL_isMessage_87 : decode cL_isMessage 87 = .ok (.if_icmp .eq 5, 3) := by decide +kernel
theorem dL_isMessage_90 : decode cL_isMessage 90 = .ok (.iconst 0, 1) := by decide +kernel
theorem dL_isMessage_91 : decode cL_isMessage 91 = .ok (.ireturn, 1) := by decide +kernel
theorem dL_isMessage_92 : decode cL_isMessage 92 = .ok (.iload 8, 2) := by decide +kernel
theorem dL_isMessage_94 : decode cL_isMessage 94 = .ok (.bipush 8, 2) := by decide +kernel
theorem dL_isMessage_96 : decode cL_isMessage 96 = .ok (.if_icmp .ne 62, 3) := by decide +kernel
theorem dL_isMessage_99 : decode cL_isMessage 99 = .ok (.iconst 2, 1) := by decide +kernel
theorem dL_isMessage_100 : decode cL_isMessage 100 = .ok (.iload 9, 2) := by decide +kernel
theorem dL_isMessage_102 : decode cL_isMessage 102 = .ok (.iconst 1, 1) := by decide +kernel
theorem dL_isMessage_103 : decode cL_isMessage 103 = .ok (.if_icmp .ne 17, 3) := by decide +kernel
theorem dL_isMessage_106 : decode cL_isMessage 106 = .ok (.iconst 1, 1) := by decide +kernel
theorem dL_isMessage_107 : decode cL_isMessage 107 = .ok (.iconst 4, 1) := by decide +kernel
theorem dL_isMessage_108 : decode cL_isMessage 108 = .ok (.lload 6, 2) := by decide +kernel
theorem dL_isMessage_110 : decode cL_isMessage 110 = .ok (.bipush 29, 2) := by decide +kernel
theorem dL_isMessage_112 : decode cL_isMessage 112 = .ok (.invokestatic 135, 3) := by decide +kernel
theorem dL_isMessage_115 : decode cL_isMessage 115 = .ok (.imul, 1) := by decide +kernel
theorem dL_isMessage_116 : decode cL_isMessage 116 = .ok (.iadd, 1) := by decide +kernel
theorem dL_isMessage_117 : decode cL_isMessage 117 = .ok (.goto 37, 3) := by decide +kernel
theorem dL_isMessage_120 : decode cL_isMessage 120 = .ok (.iload 9, 2) := by decide +kernel
theorem dL_isMessage_122 : decode cL_isMessage 122 = .ok (.iconst 2, 1) := by decide +kernel
theorem dL_isMessage_123 : decode cL_isMessage 123 = .ok (.if_icmp .eq 9, 3) := by decide +kernel
theorem dL_isMessage_126 : decode cL_isMessage 126 = .ok (.iload 9, 2) := by decide +kernel
theorem dL_isMessage_128 : decode cL_isMessage 128 = .ok (.iconst 5, 1) := by decide +kernel
theorem dL_isMessage_129 : decode cL_isMessage 129 = .ok (.if_icmp .ne 7, 3) := by decide +kernel
theorem dL_isMessage_132 : decode cL_isMessage 132 = .ok (.iconst 1, 1) := by decide +kernel
theorem dL_isMessage_133 : decode cL_isMessage 133 = .ok (.goto 21, 3) := by decide +kernel
theorem dL_isMessage_136 : decode cL_isMessage 136 = .ok (.iload 9, 2) := by decide +kernel
theorem dL_isMessage_138 : decode cL_isMessage 138 = .ok (.iconst 3, 1) := by decide +kernel
theorem dL_isMessage_139 : decode cL_isMessage 139 = .ok (.if_icmp .eq 10, 3) := by decide +kernel
theorem dL_isMessage_142 : decode cL_isMessage 142 = .ok (.iload 9, 2) := by decide +kernel
theorem dL_isMessage_144 : decode cL_isMessage 144 = .ok (.bipush 6, 2) := by decide +kernel
theorem dL_isMessage_146 : decode cL_isMessage 146 = .ok (.if_icmp .ne 7, 3) := by decide +kernel
theorem dL_isMessage_149 : decode cL_isMessage 149 = .ok (.iconst 2, 1) := by decide +kernel
theorem dL_isMessage_150 : decode cL_isMessage 150 = .ok (.goto 4, 3) := by decide +kernel
theorem dL_isMessage_153 : decode cL_isMessage 153 = .ok (.iconst 0, 1) := by decide +kernel
theorem dL_isMessage_154 : decode cL_isMessage 154 = .ok (.iadd, 1) := by decide +kernel
theorem dL_isMessage_155 : decode cL_isMessage 155 = .ok (.goto 42, 3) := by decide +kernel
theorem dL_isMessage_158 : decode cL_isMessage 158 = .ok (.iload 8, 2) := by decide +kernel
theorem dL_isMessage_160 : decode cL_isMessage 160 = .ok (.iconst 5, 1) := by decide +kernel
theorem dL_isMessage_161 : decode cL_isMessage 161 = .ok (.if_icmp .ne 7, 3) := by decide +kernel
theorem dL_isMessage_164 : decode cL_isMessage 164 = .ok (.iconst 4, 1) := by decide +kernel
theorem dL_isMessage_165 : decode cL_isMessage 165 = .ok (.goto 32, 3) := by decide +kernel
theorem dL_isMessage_168 : decode cL_isMessage 168 = .ok (.iload 8, 2) := by decide +kernel
theorem dL_isMessage_170 : decode cL_isMessage 170 = .ok (.bipush 7, 2) := by decide +kernel
theorem dL_isMessage_172 : decode cL_isMessage 172 = .ok (.if_icmp .ne 7, 3) := by decide +kernel
