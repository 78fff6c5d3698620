theorem dL_isTold_641 : decode cL_isTold 641 = .ok (.if_icmp .ne 39, 3) := by decide +kernel
theorem dL_isTold_644 : decode cL_isTold 644 = .ok (.aload 9, 2) := by decide +kernel
theorem dL_isTold_646 : decode cL_isTold 646 = .ok (.iload 15, 2) := by decide +kernel
theorem dL_isTold_648 : decode cL_isTold 648 = .ok (.iaload, 1) := by decide +kernel
theorem dL_isTold_649 : decode cL_isTold 649 = .ok (.aload 9, 2) := by decide +kernel
theorem dL_isTold_651 : decode cL_isTold 651 = .ok (.bipush 10, 2) := by decide +kernel
theorem dL_isTold_653 : decode cL_isTold 653 = .ok (.iload 15, 2) := by decide +kernel
theorem dL_isTold_655 : decode cL_isTold 655 = .ok (.iadd, 1) := by decide +kernel
theorem dL_isTold_656 : decode cL_isTold 656 = .ok (.iaload, 1) := by decide +kernel
theorem dL_isTold_657 : decode cL_isTold 657 = .ok (.if_icmp .ne 23, 3) := by decide +kernel
theorem dL_isTold_660 : decode cL_isTold 660 = .ok (.aload 10, 2) := by decide +kernel
theorem dL_isTold_662 : decode cL_isTold 662 = .ok (.iload 15, 2) := by decide +kernel
theorem dL_isTold_664 : decode cL_isTold 664 = .ok (.iaload, 1) := by decide +kernel
theorem dL_isTold_665 : decode cL_isTold 665 = .ok (.aload 10, 2) := by decide +kernel
theorem dL_isTold_667 : decode cL_isTold 667 = .ok (.bipush 10, 2) := by decide +kernel
theorem dL_isTold_669 : decode cL_isTold 669 = .ok (.iload 15, 2) := by decide +kernel
theorem dL_isTold_671 : decode cL_isTold 671 = .ok (.iadd, 1) := by decide +kernel
theorem dL_isTold_672 : decode cL_isTold 672 = .ok (.iaload, 1) := by decide +kernel
theorem dL_isTold_673 : decode cL_isTold 673 = .ok (.if_icmp .ne 7, 3) := by decide +kernel
theorem dL_isTold_676 : decode cL_isTold 676 = .ok (.iconst 1, 1) := by decide +kernel
theorem dL_isTold_677 : decode cL_isTold 677 = .ok (.goto 4, 3) := by decide +kernel
theorem dL_isTold_680 : decode cL_isTold 680 = .ok (.iconst 0, 1) := by decide +kernel
theorem dL_isTold_681 : decode cL_isTold 681 = .ok (.iand, 1) := by decide +kernel
theorem dL_isTold_682 : decode cL_isTold 682 = .ok (.istore 14, 2) := by decide +kernel
theorem dL_isTold_684 : decode cL_isTold 684 = .ok (.iinc 15 1, 3) := by decide +kernel
theorem dL_isTold_687 : decode cL_isTold 687 = .ok (.goto (-471), 3) := by decide +kernel
theorem dL_isTold_690 : decode cL_isTold 690 = .ok (.iconst 0, 1) := by decide +kernel
theorem dL_isTold_691 : decode cL_isTold 691 = .ok (.istore 15, 2) := by decide +kernel
theorem dL_isTold_693 : decode cL_isTold 693 = .ok (.iload 15, 2) := by decide +kernel
theorem dL_isTold_695 : decode cL_isTold 695 = .ok (.bipush 6, 2) := by decide +kernel
theorem dL_isTold_697 : decode cL_isTold 697 = .ok (.if_icmp .ge 44, 3) := by decide +kernel
theorem dL_isTold_700 : decode cL_isTold 700 = .ok (.aload_n 0, 1) := by decide +kernel
theorem dL_isTold_701 : decode cL_isTold 701 = .ok (.iload 15, 2) := by decide +kernel
theorem dL_isTold_703 : decode cL_isTold 703 = .ok (.iconst 2, 1) := by decide +kernel
theorem dL_isTold_704 : decode cL_isTold 704 = .ok (.idiv, 1) := by decide +kernel
theorem dL_isTold_705 : decode cL_isTold 705 = .ok (.iload 15, 2) := by decide +kernel
theorem dL_isTold_707 : decode cL_isTold 707 = .ok (.iconst 2, 1) := by decide +kernel
theorem dL_isTold_708 : decode cL_isTold 708 = .ok (.irem, 1) := by decide +kernel
theorem dL_isTold_709 : decode cL_isTold 709 = .ok (.iconst 1, 1) := by decide +kernel
theorem dL_isTold_710 : decode cL_isTold 710 = .ok (.if_icmp .ne 7, 3) := by decide +kernel
theorem dL_isTold_713 : decode cL_isTold 713 = .ok (.iconst 1, 1) := by decide +kernel
theorem dL_isTold_714 : decode cL_isTold 714 = .ok (.goto 4, 3) := by decide +kernel
theorem dL_isTold_717 : decode cL_isTold 717 = .ok (.iconst 0, 1) := by decide +kernel
theorem dL_isTold_718 : decode cL_isTold 718 = .ok (.invokestatic 283, 3) := by decide +kernel
theorem dL_isTold_721 : decode cL_isTold 721 = .ok (.aload 13, 2) := by decide +kernel
theorem dL_isTold_723 : decode cL_isTold 723 = .ok (.iload 15, 2) := by decide +kernel
theorem dL_isTold_725 : decode cL_isTold 725 = .ok (.iaload, 1) := by decide +kernel
theorem dL_isTold_726 : decode cL_isTold 726 = .ok (.sipush 255, 3) := by decide +kernel
theorem dL_isTold_729 : decode cL_isTold 729 = .ok (.iand, 1) := by decide +kernel
theorem dL_isTold_730 : decode cL_isTold 730 = .ok (.if_icmp .eq 5, 3) := by decide +kernel
theorem dL_isTold_733 : decode cL_isTold 733 = .ok (.iconst 0, 1) := by decide +kernel
theorem dL_isTold_734 : decode cL_isTold 734 = .ok (.ireturn, 1) := by decide +kernel
theorem dL_isTold_735 : decode cL_isTold 735 = .ok (.iinc 15 1, 3) := by decide +kernel
theorem dL_isTold_738 : decode cL_isTold 738 = .ok (.goto (-45), 3) := by decide +kernel
theorem dL_isTold_741 : decode cL_isTold 741 = .ok (.iload_n 1, 1) := by decide +kernel
theorem dL_isTold_742 : decode cL_isTold 742 = .ok (.aload_n 2, 1) := by decide +kernel
theorem dL_isTold_743 : decode cL_isTold 743 = .ok (.bipush 20, 2) := by decide +kernel
theorem dL_isTold_745 : decode cL_isTold 745 = .ok (.iaload, 1) := by decide +kernel
theorem dL_isTold_746 : decode cL_isTold 746 = .ok (.iconst 1, 1) := by decide +kernel
theorem dL_isTold_747 : decode cL_isTold 747 = .ok (.iadd, 1) := by decide +kernel
theorem dL_isTold_748 : decode cL_isTold 748 = .ok (.invokestatic 210, 3) := by decide +kernel
theorem dL_isTold_751 : decode cL_isTold 751 = .ok (.istore 15, 2) := by decide +kernel
theorem dL_isTold_753 : decode cL_isTold 753 = .ok (.iload_n 1, 1) := by decide +kernel
theorem dL_isTold_754 : decode cL_isTold 754 = .ok (.bipush 64, 2) := by decide +kernel
theorem dL_isTold_756 : decode cL_isTold 756 = .ok (.iand, 1) := by decide +kernel
theorem dL_isTold_757 : decode cL_isTold 757 = .ok (.ifCond .le 7, 3) := by decide +kernel
theorem dL_isTold_760 : decode cL_isTold 760 = .ok (.iconst 1, 1) := by decide +kernel
theorem dL_isTold_761 : decode cL_isTold 761 = .ok (.goto 4, 3) := by decide +kernel
theorem dL_isTold_764 : decode cL_isTold 764 = .ok (.iconst 0, 1) := by decide +kernel
theorem dL_isTold_765 : decode cL_isTold 765 = .ok (.istore 16, 2) := by decide +kernel
theorem dL_isTold_767 : decode cL_isTold 767 = .ok (.iconst 0, 1) := by decide +kernel
theorem dL_isTold_768 : decode cL_isTold 768 = .ok (.istore 17, 2) := by decide +kernel
theorem dL_isTold_770 : decode cL_isTold 770 = .ok (.iload 17, 2) := by decide +kernel
theorem dL_isTold_772 : decode cL_isTold 772 = .ok (.iconst 2, 1) := by decide +kernel
theorem dL_isTold_773 : decode cL_isTold 773 = .ok (.if_icmp .ge 310, 3) := by decide +kernel
theorem dL_isTold_776 : decode cL_isTold 776 = .ok (.iconst 0, 1) := by decide +kernel
theorem dL_isTold_777 : decode cL_isTold 777 = .ok (.istore 18, 2) := by decide +kernel
theorem dL_isTold_779 : decode cL_isTold 779 = .ok (.iconst 0, 1) := by decide +kernel
theorem dL_isTold_780 : decode cL_isTold 780 = .ok (.istore 19, 2) := by decide +kernel
theorem dL_isTold_782 : decode cL_isTold 782 = .ok (.iconst 0, 1) := by decide +kernel
theorem dL_isTold_783 : decode cL_isTold 783 = .ok (.istore 20, 2) := by decide +kernel
theorem dL_isTold_785 : decode cL_isTold 785 = .ok (.iload 20, 2) := by decide +kernel
theorem dL_isTold_787 : decode cL_isTold 787 = .ok (.aload_n 2, 1) := by decide +kernel
theorem dL_isTold_788 : decode cL_isTold 788 = .ok (.bipush 19, 2) := by decide +kernel
theorem dL_isTold_790 : decode cL_isTold 790 = .ok (.iaload, 1) := by decide +kernel
theorem dL_isTold_791 : decode cL_isTold 791 = .ok (.if_icmp .ge 198, 3) := by decide +kernel
theorem dL_isTold_794 : decode cL_isTold 794 = .ok (.aload 12, 2) := by decide +kernel
theorem dL_isTold_796 : decode cL_isTold 796 = .ok (.iload 20, 2) := by decide +kernel
theorem dL_isTold_798 : decode cL_isTold 798 = .ok (.laload, 1) := by decide +kernel
theorem dL_isTold_799 : decode cL_isTold 799 = .ok (.bipush 6, 2) := by decide +kernel
theorem dL_isTold_801 : decode cL_isTold 801 = .ok (.lshr, 1) := by decide +kernel
theorem dL_isTold_802 : decode cL_isTold 802 = .ok (.ldc2_w 127, 3) := by decide +kernel
theorem dL_isTold_805 : decode cL_isTold 805 = .ok (.land, 1) := by decide +kernel
theorem dL_isTold_806 : decode cL_isTold 806 = .ok (.iload 15, 2) := by decide +kernel
theorem dL_isTold_808 : decode cL_isTold 808 = .ok (.i2l, 1) := by decide +kernel
theorem dL_isTold_809 : decode cL_isTold 809 = .ok (.lcmp, 1) := by decide +kernel
theorem dL_isTold_810 : decode cL_isTold 810 = .ok (.ifCond .ne 35, 3) := by decide +kernel
theorem dL_isTold_813 : decode cL_isTold 813 = .ok (.aload 11, 2) := by decide +kernel
theorem dL_isTold_815 : decode cL_isTold 815 = .ok (.aload 12, 2) := by decide +kernel
theorem dL_isTold_817 : decode cL_isTold 817 = .ok (.iload 20, 2) := by decide +kernel
theorem dL_isTold_819 : decode cL_isTold 819 = .ok (.laload, 1) := by decide +kernel
theorem dL_isTold_820 : decode cL_isTold 820 = .ok (.ldc2_w 133, 3) := by decide +kernel
theorem dL_isTold_823 : decode cL_isTold 823 = .ok (.land, 1) := by decide +kernel
theorem dL_isTold_824 : decode cL_isTold 824 = .ok (.l2i, 1) := by decide +kernel
theorem dL_isTold_825 : decode cL_isTold 825 = .ok (.iaload, 1) := by decide +kernel
theorem dL_isTold_826 : decode cL_isTold 826 = .ok (.iconst 1, 1) := by decide +kernel
theorem dL_isTold_827 : decode cL_isTold 827 = .ok (.iand, 1) := by decide +kernel
theorem dL_isTold_828 : decode cL_isTold 828 = .ok (.iload 16, 2) := by decide +kernel
theorem dL_isTold_830 : decode cL_isTold 830 = .ok (.ifCond .eq 7, 3) := by decide +kernel
theorem dL_isTold_833 : decode cL_isTold 833 = .ok (.iconst 1, 1) := by decide +kernel
theorem dL_isTold_834 : decode cL_isTold 834 = .ok (.goto 4, 3) := by decide +kernel
theorem dL_isTold_837 : decode cL_isTold 837 = .ok (.iconst 0, 1) := by decide +kernel
theorem dL_isTold_838 : decode cL_isTold 838 = .ok (.if_icmp .ne 7, 3) := by decide +kernel
theorem dL_isTold_841 : decode cL_isTold 841 = .ok (.iconst 1, 1) := by decide +kernel
theorem dL_isTold_842 : decode cL_isTold 842 = .ok (.goto 4, 3) := by decide +kernel
theorem dL_isTold_845 : decode cL_isTold 845 = .ok (.iconst 0, 1) := by decide +kernel
theorem dL_isTold_846 : decode cL_isTold 846 = .ok (.istore 21, 2) := by decide +kernel
theorem dL_isTold_848 : decode cL_isTold 848 = .ok (.iload 21, 2) := by decide +kernel
theorem dL_isTold_850 : decode cL_isTold 850 = .ok (.iload 17, 2) := by decide +kernel
theorem dL_isTold_852 : decode cL_isTold 852 = .ok (.iconst 1, 1) := by decide +kernel
theorem dL_isTold_853 : decode cL_isTold 853 = .ok (.if_icmp .ne 26, 3) := by decide +kernel
theorem dL_isTold_856 : decode cL_isTold 856 = .ok (.aload 12, 2) := by decide +kernel
theorem dL_isTold_858 : decode cL_isTold 858 = .ok (.iload 20, 2) := by decide +kernel
theorem dL_isTold_860 : decode cL_isTold 860 = .ok (.laload, 1) := by decide +kernel
theorem dL_isTold_861 : decode cL_isTold 861 = .ok (.bipush 43, 2) := by decide +kernel
theorem dL_isTold_863 : decode cL_isTold 863 = .ok (.lshr, 1) := by decide +kernel
theorem dL_isTold_864 : decode cL_isTold 864 = .ok (.lconst 1, 1) := by decide +kernel
theorem dL_isTold_865 : decode cL_isTold 865 = .ok (.land, 1) := by decide +kernel
theorem dL_isTold_866 : decode cL_isTold 866 = .ok (.lconst 0, 1) := by decide +kernel
theorem dL_isTold_867 : decode cL_isTold 867 = .ok (.lcmp, 1) := by decide +kernel
theorem dL_isTold_868 : decode cL_isTold 868 = .ok (.ifCond .ne 7, 3) := by decide +kernel
theorem dL_isTold_871 : decode cL_isTold 871 = .ok (.iconst 1, 1) := by decide +kernel
theorem dL_isTold_872 : decode cL_isTold 872 = .ok (.goto 42, 3) := by decide +kernel
theorem dL_isTold_875 : decode cL_isTold 875 = .ok (.iconst 0, 1) := by decide +kernel
theorem dL_isTold_876 : decode cL_isTold 876 = .ok (.goto 38, 3) := by decide +kernel
theorem dL_isTold_879 : decode cL_isTold 879 = .ok (.aload 12, 2) := by decide +kernel
theorem dL_isTold_881 : decode cL_isTold 881 = .ok (.iload 20, 2) := by decide +kernel
theorem dL_isTold_883 : decode cL_isTold 883 = .ok (.laload, 1) := by decide +kernel
theorem dL_isTold_884 : decode cL_isTold 884 = .ok (.bipush 42, 2) := by decide +kernel
theorem dL_isTold_886 : decode cL_isTold 886 = .ok (.lshr, 1) := by decide +kernel
theorem dL_isTold_887 : decode cL_isTold 887 = .ok (.lconst 1, 1) := by decide +kernel
theorem dL_isTold_888 : decode cL_isTold 888 = .ok (.land, 1) := by decide +kernel
theorem dL_isTold_889 : decode cL_isTold 889 = .ok (.lconst 1, 1) := by decide +kernel
theorem dL_isTold_890 : decode cL_isTold 890 = .ok (.lcmp, 1) := by decide +kernel
theorem dL_isTold_891 : decode cL_isTold 891 = .ok (.ifCond .ne 22, 3) := by decide +kernel
theorem dL_isTold_894 : decode cL_isTold 894 = .ok (.aload 12, 2) := by decide +kernel
theorem dL_isTold_896 : decode cL_isTold 896 = .ok (.iload 20, 2) := by decide +kernel
theorem dL_isTold_898 : decode cL_isTold 898 = .ok (.laload, 1) := by decide +kernel
theorem dL_isTold_899 : decode cL_isTold 899 = .ok (.bipush 44, 2) := by decide +kernel
theorem dL_isTold_901 : decode cL_isTold 901 = .ok (.lshr, 1) := by decide +kernel
theorem dL_isTold_902 : decode cL_isTold 902 = .ok (.lconst 1, 1) := by decide +kernel
theorem dL_isTold_903 : decode cL_isTold 903 = .ok (.land, 1) := by decide +kernel
theorem dL_isTold_904 : decode cL_isTold 904 = .ok (.lconst 0, 1) := by decide +kernel
theorem dL_isTold_905 : decode cL_isTold 905 = .ok (.lcmp, 1) := by decide +kernel
theorem dL_isTold_906 : decode cL_isTold 906 = .ok (.ifCond .ne 7, 3) := by decide +kernel
theorem dL_isTold_909 : decode cL_isTold 909 = .ok (.iconst 1, 1) := by decide +kernel
theorem dL_isTold_910 : decode cL_isTold 910 = .ok (.goto 4, 3) := by decide +kernel
theorem dL_isTold_913 : decode cL_isTold 913 = .ok (.iconst 0, 1) := by decide +kernel
theorem dL_isTold_914 : decode cL_isTold 914 = .ok (.iand, 1) := by decide +kernel
theorem dL_isTold_915 : decode cL_isTold 915 = .ok (.istore 21, 2) := by decide +kernel
theorem dL_isTold_917 : decode cL_isTold 917 = .ok (.iload 18, 2) := by decide +kernel
theorem dL_isTold_919 : decode cL_isTold 919 = .ok (.iload 21, 2) := by decide +kernel
theorem dL_isTold_921 : decode cL_isTold 921 = .ok (.ifCond .eq 14, 3) := by decide +kernel
theorem dL_isTold_924 : decode cL_isTold 924 = .ok (.aload 12, 2) := by decide +kernel
theorem dL_isTold_926 : decode cL_isTold 926 = .ok (.iload 20, 2) := by decide +kernel
theorem dL_isTold_928 : decode cL_isTold 928 = .ok (.laload, 1) := by decide +kernel
theorem dL_isTold_929 : decode cL_isTold 929 = .ok (.invokestatic 156, 3) := by decide +kernel
theorem dL_isTold_932 : decode cL_isTold 932 = .ok (.goto 4, 3) := by decide +kernel
theorem dL_isTold_935 : decode cL_isTold 935 = .ok (.iconst 0, 1) := by decide +kernel
theorem dL_isTold_936 : decode cL_isTold 936 = .ok (.iadd, 1) := by decide +kernel
theorem dL_isTold_937 : decode cL_isTold 937 = .ok (.istore 18, 2) := by decide +kernel
theorem dL_isTold_939 : decode cL_isTold 939 = .ok (.iload 19, 2) := by decide +kernel
theorem dL_isTold_941 : decode cL_isTold 941 = .ok (.iload 21, 2) := by decide +kernel
theorem dL_isTold_943 : decode cL_isTold 943 = .ok (.ifCond .eq 36, 3) := by decide +kernel
theorem dL_isTold_946 : decode cL_isTold 946 = .ok (.aload 12, 2) := by decide +kernel
theorem dL_isTold_948 : decode cL_isTold 948 = .ok (.iload 20, 2) := by decide +kernel
theorem dL_isTold_950 : decode cL_isTold 950 = .ok (.laload, 1) := by decide +kernel
theorem dL_isTold_951 : decode cL_isTold 951 = .ok (.invokestatic 156, 3) := by decide +kernel
theorem dL_isTold_954 : decode cL_isTold 954 = .ok (.aload 12, 2) := by decide +kernel
theorem dL_isTold_956 : decode cL_isTold 956 = .ok (.iload 20, 2) := by decide +kernel
theorem dL_isTold_958 : decode cL_isTold 958 = .ok (.laload, 1) := by decide +kernel
theorem dL_isTold_959 : decode cL_isTold 959 = .ok (.iload 17, 2) := by decide +kernel
theorem dL_isTold_961 : decode cL_isTold 961 = .ok (.iconst 1, 1) := by decide +kernel
theorem dL_isTold_962 : decode cL_isTold 962 = .ok (.if_icmp .ne 8, 3) := by decide +kernel
theorem dL_isTold_965 : decode cL_isTold 965 = .ok (.bipush 28, 2) := by decide +kernel
theorem dL_isTold_967 : decode cL_isTold 967 = .ok (.goto 5, 3) := by decide +kernel
theorem dL_isTold_970 : decode cL_isTold 970 = .ok (.bipush 35, 2) := by decide +kernel
theorem dL_isTold_972 : decode cL_isTold 972 = .ok (.invokestatic 162, 3) := by decide +kernel
theorem dL_isTold_975 : decode cL_isTold 975 = .ok (.imul, 1) := by decide +kernel
theorem dL_isTold_976 : decode cL_isTold 976 = .ok (.goto 4, 3) := by decide +kernel
theorem dL_isTold_979 : decode cL_isTold 979 = .ok (.iconst 0, 1) := by decide +kernel
theorem dL_isTold_980 : decode cL_isTold 980 = .ok (.iadd, 1) := by decide +kernel
theorem dL_isTold_981 : decode cL_isTold 981 = .ok (.istore 19, 2) := by decide +kernel
theorem dL_isTold_983 : decode cL_isTold 983 = .ok (.iinc 20 1, 3) := by decide +kernel
theorem dL_isTold_986 : decode cL_isTold 986 = .ok (.goto (-201), 3) := by decide +kernel
theorem dL_isTold_989 : decode cL_isTold 989 = .ok (.aload_n 0, 1) := by decide +kernel
theorem dL_isTold_990 : decode cL_isTold 990 = .ok (.iload 17, 2) := by decide +kernel
theorem dL_isTold_992 : decode cL_isTold 992 = .ok (.iload 15, 2) := by decide +kernel
theorem dL_isTold_994 : decode cL_isTold 994 = .ok (.iload 16, 2) := by decide +kernel
theorem dL_isTold_996 : decode cL_isTold 996 = .ok (.iconst 0, 1) := by decide +kernel
theorem dL_isTold_997 : decode cL_isTold 997 = .ok (.invokestatic 286, 3) := by decide +kernel
theorem dL_isTold_1000 : decode cL_isTold 1000 = .ok (.iload 18, 2) := by decide +kernel
theorem dL_isTold_1002 : decode cL_isTold 1002 = .ok (.if_icmp .ne 73, 3) := by decide +kernel
theorem dL_isTold_1005 : decode cL_isTold 1005 = .ok (.aload_n 0, 1) := by decide +kernel
theorem dL_isTold_1006 : decode cL_isTold 1006 = .ok (.iload 17, 2) := by decide +kernel
theorem dL_isTold_1008 : decode cL_isTold 1008 = .ok (.iload 15, 2) := by decide +kernel
theorem dL_isTold_1010 : decode cL_isTold 1010 = .ok (.iload 16, 2) := by decide +kernel
theorem dL_isTold_1012 : decode cL_isTold 1012 = .ok (.iconst 1, 1) := by decide +kernel
theorem dL_isTold_1013 : decode cL_isTold 1013 = .ok (.invokestatic 286, 3) := by decide +kernel
theorem dL_isTold_1016 : decode cL_isTold 1016 = .ok (.iload 19, 2) := by decide +kernel
theorem dL_isTold_1018 : decode cL_isTold 1018 = .ok (.if_icmp .ne 57, 3) := by decide +kernel
theorem dL_isTold_1021 : decode cL_isTold 1021 = .ok (.aload_n 0, 1) := by decide +kernel
theorem dL_isTold_1022 : decode cL_isTold 1022 = .ok (.iload 17, 2) := by decide +kernel
theorem dL_isTold_1024 : decode cL_isTold 1024 = .ok (.aload_n 2, 1) := by decide +kernel
theorem dL_isTold_1025 : decode cL_isTold 1025 = .ok (.bipush 20, 2) := by decide +kernel
theorem dL_isTold_1027 : decode cL_isTold 1027 = .ok (.iaload, 1) := by decide +kernel
theorem dL_isTold_1028 : decode cL_isTold 1028 = .ok (.iconst 1, 1) := by decide +kernel
theorem dL_isTold_1029 : decode cL_isTold 1029 = .ok (.iadd, 1) := by decide +kernel
theorem dL_isTold_1030 : decode cL_isTold 1030 = .ok (.iload 16, 2) := by decide +kernel
theorem dL_isTold_1032 : decode cL_isTold 1032 = .ok (.iconst 2, 1) := by decide +kernel
theorem dL_isTold_1033 : decode cL_isTold 1033 = .ok (.invokestatic 286, 3) := by decide +kernel
theorem dL_isTold_1036 : decode cL_isTold 1036 = .ok (.sipush (-7100), 3) := by decide +kernel
theorem dL_isTold_1039 : decode cL_isTold 1039 = .ok (.if_icmp .ne 36, 3) := by decide +kernel
theorem dL_isTold_1042 : decode cL_isTold 1042 = .ok (.aload_n 0, 1) := by decide +kernel
theorem dL_isTold_1043 : decode cL_isTold 1043 = .ok (.iload 17, 2) := by decide +kernel
theorem dL_isTold_1045 : decode cL_isTold 1045 = .ok (.iload 15, 2) := by decide +kernel
theorem dL_isTold_1047 : decode cL_isTold 1047 = .ok (.iload 16, 2) := by decide +kernel
theorem dL_isTold_1049 : decode cL_isTold 1049 = .ok (.iconst 2, 1) := by decide +kernel
theorem dL_isTold_1050 : decode cL_isTold 1050 = .ok (.invokestatic 286, 3) := by decide +kernel
theorem dL_isTold_1053 : decode cL_isTold 1053 = .ok (.sipush (-7200), 3) := by decide +kernel
theorem dL_isTold_1056 : decode cL_isTold 1056 = .ok (.if_icmp .ne 19, 3) := by decide +kernel
theorem dL_isTold_1059 : decode cL_isTold 1059 = .ok (.aload_n 0, 1) := by decide +kernel
theorem dL_isTold_1060 : decode cL_isTold 1060 = .ok (.iload 17, 2) := by decide +kernel
theorem dL_isTold_1062 : decode cL_isTold 1062 = .ok (.iconst (-1), 1) := by decide +kernel
theorem dL_isTold_1063 : decode cL_isTold 1063 = .ok (.iload 16, 2) := by decide +kernel
theorem dL_isTold_1065 : decode cL_isTold 1065 = .ok (.iconst 0, 1) := by decide +kernel
theorem dL_isTold_1066 : decode cL_isTold 1066 = .ok (.invokestatic 286, 3) := by decide +kernel
theorem dL_isTold_1069 : decode cL_isTold 1069 = .ok (.sipush (-7100), 3) := by decide +kernel
theorem dL_isTold_1072 : decode cL_isTold 1072 = .ok (.if_icmp .eq 5, 3) := by decide +kernel
theorem dL_isTold_1075 : decode cL_isTold 1075 = .ok (.iconst 0, 1) := by decide +kernel
theorem dL_isTold_1076 : decode cL_isTold 1076 = .ok (.ireturn, 1) := by decide +kernel
theorem dL_isTold_1077 : decode cL_isTold 1077 = .ok (.iinc 17 1, 3) := by decide +kernel
theorem dL_isTold_1080 : decode cL_isTold 1080 = .ok (.goto (-310), 3) := by decide +kernel
theorem dL_isTold_1083 : decode cL_isTold 1083 = .ok (.aload_n 0, 1) := by decide +kernel
theorem dL_isTold_1084 : decode cL_isTold 1084 = .ok (.invokevirtual 289, 3) := by decide +kernel
theorem dL_isTold_1087 : decode cL_isTold 1087 = .ok (.iload 14, 2) := by decide +kernel
theorem dL_isTold_1089 : decode cL_isTold 1089 = .ok (.if_icmp .ne 157, 3) := by decide +kernel
theorem dL_isTold_1092 : decode cL_isTold 1092 = .ok (.aload_n 0, 1) := by decide +kernel
theorem dL_isTold_1093 : decode cL_isTold 1093 = .ok (.invokevirtual 293, 3) := by decide +kernel
theorem dL_isTold_1096 : decode cL_isTold 1096 = .ok (.aload_n 2, 1) := by decide +kernel
theorem dL_isTold_1097 : decode cL_isTold 1097 = .ok (.iconst 1, 1) := by decide +kernel
theorem dL_isTold_1098 : decode cL_isTold 1098 = .ok (.iaload, 1) := by decide +kernel
theorem dL_isTold_1099 : decode cL_isTold 1099 = .ok (.iconst 1, 1) := by decide +kernel
theorem dL_isTold_1100 : decode cL_isTold 1100 = .ok (.if_icmp .ne 7, 3) := by decide +kernel
theorem dL_isTold_1103 : decode cL_isTold 1103 = .ok (.iconst 1, 1) := by decide +kernel
theorem dL_isTold_1104 : decode cL_isTold 1104 = .ok (.goto 4, 3) := by decide +kernel
theorem dL_isTold_1107 : decode cL_isTold 1107 = .ok (.iconst 0, 1) := by decide +kernel
theorem dL_isTold_1108 : decode cL_isTold 1108 = .ok (.if_icmp .ne 138, 3) := by decide +kernel
theorem dL_isTold_1111 : decode cL_isTold 1111 = .ok (.aload_n 0, 1) := by decide +kernel
theorem dL_isTold_1112 : decode cL_isTold 1112 = .ok (.invokevirtual 223, 3) := by decide +kernel
theorem dL_isTold_1115 : decode cL_isTold 1115 = .ok (.aload_n 2, 1) := by decide +kernel
theorem dL_isTold_1116 : decode cL_isTold 1116 = .ok (.bipush 18, 2) := by decide +kernel
theorem dL_isTold_1118 : decode cL_isTold 1118 = .ok (.iaload, 1) := by decide +kernel
theorem dL_isTold_1119 : decode cL_isTold 1119 = .ok (.if_icmp .ne 127, 3) := by decide +kernel
theorem dL_isTold_1122 : decode cL_isTold 1122 = .ok (.aload_n 0, 1) := by decide +kernel
theorem dL_isTold_1123 : decode cL_isTold 1123 = .ok (.invokevirtual 296, 3) := by decide +kernel
theorem dL_isTold_1126 : decode cL_isTold 1126 = .ok (.aload_n 2, 1) := by decide +kernel
theorem dL_isTold_1127 : decode cL_isTold 1127 = .ok (.bipush 19, 2) := by decide +kernel
theorem dL_isTold_1129 : decode cL_isTold 1129 = .ok (.iaload, 1) := by decide +kernel
theorem dL_isTold_1130 : decode cL_isTold 1130 = .ok (.if_icmp .ne 116, 3) := by decide +kernel
theorem dL_isTold_1133 : decode cL_isTold 1133 = .ok (.aload_n 0, 1) := by decide +kernel
theorem dL_isTold_1134 : decode cL_isTold 1134 = .ok (.iconst 2, 1) := by decide +kernel
theorem dL_isTold_1135 : decode cL_isTold 1135 = .ok (.invokestatic 253, 3) := by decide +kernel
theorem dL_isTold_1138 : decode cL_isTold 1138 = .ok (.sipush (-7100), 3) := by decide +kernel
theorem dL_isTold_1141 : decode cL_isTold 1141 = .ok (.if_icmp .ne 105, 3) := by decide +kernel
theorem dL_isTold_1144 : decode cL_isTold 1144 = .ok (.aload_n 0, 1) := by decide +kernel
theorem dL_isTold_1145 : decode cL_isTold 1145 = .ok (.iconst (-1), 1) := by decide +kernel
theorem dL_isTold_1146 : decode cL_isTold 1146 = .ok (.invokestatic 261, 3) := by decide +kernel
theorem dL_isTold_1149 : decode cL_isTold 1149 = .ok (.sipush (-7100), 3) := by decide +kernel
theorem dL_isTold_1152 : decode cL_isTold 1152 = .ok (.if_icmp .ne 94, 3) := by decide +kernel
theorem dL_isTold_1155 : decode cL_isTold 1155 = .ok (.aload_n 0, 1) := by decide +kernel
theorem dL_isTold_1156 : decode cL_isTold 1156 = .ok (.aload_n 2, 1) := by decide +kernel
theorem dL_isTold_1157 : decode cL_isTold 1157 = .ok (.bipush 18, 2) := by decide +kernel
theorem dL_isTold_1159 : decode cL_isTold 1159 = .ok (.iaload, 1) := by decide +kernel
theorem dL_isTold_1160 : decode cL_isTold 1160 = .ok (.invokestatic 267, 3) := by decide +kernel
theorem dL_isTold_1163 : decode cL_isTold 1163 = .ok (.sipush (-7100), 3) := by decide +kernel
theorem dL_isTold_1166 : decode cL_isTold 1166 = .ok (.if_icmp .ne 80, 3) := by decide +kernel
theorem dL_isTold_1169 : decode cL_isTold 1169 = .ok (.aload_n 0, 1) := by decide +kernel
theorem dL_isTold_1170 : decode cL_isTold 1170 = .ok (.iconst 2, 1) := by decide +kernel
theorem dL_isTold_1171 : decode cL_isTold 1171 = .ok (.iconst 0, 1) := by decide +kernel
theorem dL_isTold_1172 : decode cL_isTold 1172 = .ok (.invokestatic 275, 3) := by decide +kernel
theorem dL_isTold_1175 : decode cL_isTold 1175 = .ok (.sipush (-7100), 3) := by decide +kernel
theorem dL_isTold_1178 : decode cL_isTold 1178 = .ok (.if_icmp .ne 68, 3) := by decide +kernel
theorem dL_isTold_1181 : decode cL_isTold 1181 = .ok (.aload_n 0, 1) := by decide +kernel
theorem dL_isTold_1182 : decode cL_isTold 1182 = .ok (.iconst 0, 1) := by decide +kernel
theorem dL_isTold_1183 : decode cL_isTold 1183 = .ok (.iconst (-1), 1) := by decide +kernel
theorem dL_isTold_1184 : decode cL_isTold 1184 = .ok (.invokestatic 275, 3) := by decide +kernel
theorem dL_isTold_1187 : decode cL_isTold 1187 = .ok (.sipush (-7100), 3) := by decide +kernel
theorem dL_isTold_1190 : decode cL_isTold 1190 = .ok (.if_icmp .ne 56, 3) := by decide +kernel
theorem dL_isTold_1193 : decode cL_isTold 1193 = .ok (.aload_n 0, 1) := by decide +kernel
theorem dL_isTold_1194 : decode cL_isTold 1194 = .ok (.ldc 215, 2) := by decide +kernel
theorem dL_isTold_1196 : decode cL_isTold 1196 = .ok (.invokestatic 273, 3) := by decide +kernel
theorem dL_isTold_1199 : decode cL_isTold 1199 = .ok (.sipush (-7100), 3) := by decide +kernel
theorem dL_isTold_1202 : decode cL_isTold 1202 = .ok (.if_icmp .ne 44, 3) := by decide +kernel
theorem dL_isTold_1205 : decode cL_isTold 1205 = .ok (.aload_n 0, 1) := by decide +kernel
theorem dL_isTold_1206 : decode cL_isTold 1206 = .ok (.iconst 3, 1) := by decide +kernel
theorem dL_isTold_1207 : decode cL_isTold 1207 = .ok (.iconst 1, 1) := by decide +kernel
theorem dL_isTold_1208 : decode cL_isTold 1208 = .ok (.invokestatic 283, 3) := by decide +kernel
theorem dL_isTold_1211 : decode cL_isTold 1211 = .ok (.sipush (-7100), 3) := by decide +kernel
theorem dL_isTold_1214 : decode cL_isTold 1214 = .ok (.if_icmp .ne 32, 3) := by decide +kernel
theorem dL_isTold_1217 : decode cL_isTold 1217 = .ok (.aload_n 0, 1) := by decide +kernel
theorem dL_isTold_1218 : decode cL_isTold 1218 = .ok (.iconst 2, 1) := by decide +kernel
theorem dL_isTold_1219 : decode cL_isTold 1219 = .ok (.iconst 1, 1) := by decide +kernel
theorem dL_isTold_1220 : decode cL_isTold 1220 = .ok (.invokestatic 251, 3) := by decide +kernel
theorem dL_isTold_1223 : decode cL_isTold 1223 = .ok (.sipush (-7100), 3) := by decide +kernel
theorem dL_isTold_1226 : decode cL_isTold 1226 = .ok (.if_icmp .ne 20, 3) := by decide +kernel
theorem dL_isTold_1229 : decode cL_isTold 1229 = .ok (.aload_n 0, 1) := by decide +kernel
theorem dL_isTold_1230 : decode cL_isTold 1230 = .ok (.ldc_w 299, 3) := by decide +kernel
theorem dL_isTold_1233 : decode cL_isTold 1233 = .ok (.invokestatic 257, 3) := by decide +kernel
theorem dL_isTold_1236 : decode cL_isTold 1236 = .ok (.sipush (-7100), 3) := by decide +kernel
theorem dL_isTold_1239 : decode cL_isTold 1239 = .ok (.if_icmp .ne 7, 3) := by decide +kernel
theorem dL_isTold_1242 : decode cL_isTold 1242 = .ok (.iconst 1, 1) := by decide +kernel
theorem dL_isTold_1243 : decode cL_isTold 1243 = .ok (.goto 4, 3) := by decide +kernel
theorem dL_isTold_1246 : decode cL_isTold 1246 = .ok (.iconst 0, 1) := by decide +kernel
theorem dL_isTold_1247 : decode cL_isTold 1247 = .ok (.ireturn, 1) := by decide +kernel
theorem dL_law_0 : decode cL_law 0 = .ok (.new 9, 3) := by decide +kernel
theorem dL_law_3 : decode cL_law 3 = .ok (.dup, 1) := by decide +kernel
theorem dL_law_4 : decode cL_law 4 = .ok (.invokespecial 300, 3) := by decide +kernel
theorem dL_law_7 : decode cL_law 7 = .ok (.astore_n 1, 1) := by decide +kernel
theorem dL_law_8 : decode cL_law 8 = .ok (.bipush 22, 2) := by decide +kernel
theorem dL_law_10 : decode cL_law 10 = .ok (.newarray .int, 2) := by decide +kernel
theorem dL_law_12 : decode cL_law 12 = .ok (.astore_n 2, 1) := by decide +kernel
theorem dL_law_13 : decode cL_law 13 = .ok (.bipush 64, 2) := by decide +kernel
theorem dL_law_15 : decode cL_law 15 = .ok (.newarray .long, 2) := by decide +kernel
theorem dL_law_17 : decode cL_law 17 = .ok (.astore_n 3, 1) := by decide +kernel
theorem dL_law_18 : decode cL_law 18 = .ok (.bipush 64, 2) := by decide +kernel
theorem dL_law_20 : decode cL_law 20 = .ok (.newarray .long, 2) := by decide +kernel
theorem dL_law_22 : decode cL_law 22 = .ok (.astore 4, 2) := by decide +kernel
theorem dL_law_24 : decode cL_law 24 = .ok (.bipush 64, 2) := by decide +kernel
theorem dL_law_26 : decode cL_law 26 = .ok (.newarray .long, 2) := by decide +kernel
theorem dL_law_28 : decode cL_law 28 = .ok (.astore 5, 2) := by decide +kernel
theorem dL_law_30 : decode cL_law 30 = .ok (.bipush 64, 2) := by decide +kernel
theorem dL_law_32 : decode cL_law 32 = .ok (.newarray .long, 2) := by decide +kernel
theorem dL_law_34 : decode cL_law 34 = .ok (.astore 6, 2) := by decide +kernel
theorem dL_law_36 : decode cL_law 36 = .ok (.bipush 64, 2) := by decide +kernel
theorem dL_law_38 : decode cL_law 38 = .ok (.newarray .int, 2) := by decide +kernel
theorem dL_law_40 : decode cL_law 40 = .ok (.astore 7, 2) := by decide +kernel
theorem dL_law_42 : decode cL_law 42 = .ok (.bipush 64, 2) := by decide +kernel
theorem dL_law_44 : decode cL_law 44 = .ok (.newarray .int, 2) := by decide +kernel
theorem dL_law_46 : decode cL_law 46 = .ok (.astore 8, 2) := by decide +kernel
theorem dL_law_48 : decode cL_law 48 = .ok (.bipush 20, 2) := by decide +kernel
theorem dL_law_50 : decode cL_law 50 = .ok (.newarray .int, 2) := by decide +kernel
theorem dL_law_52 : decode cL_law 52 = .ok (.astore 9, 2) := by decide +kernel
theorem dL_law_54 : decode cL_law 54 = .ok (.bipush 20, 2) := by decide +kernel
theorem dL_law_56 : decode cL_law 56 = .ok (.newarray .int, 2) := by decide +kernel
theorem dL_law_58 : decode cL_law 58 = .ok (.astore 10, 2) := by decide +kernel
theorem dL_law_60 : decode cL_law 60 = .ok (.bipush 20, 2) := by decide +kernel
theorem dL_law_62 : decode cL_law 62 = .ok (.newarray .int, 2) := by decide +kernel
theorem dL_law_64 : decode cL_law 64 = .ok (.astore 11, 2) := by decide +kernel
theorem dL_law_66 : decode cL_law 66 = .ok (.bipush 20, 2) := by decide +kernel
theorem dL_law_68 : decode cL_law 68 = .ok (.newarray .int, 2) := by decide +kernel
theorem dL_law_70 : decode cL_law 70 = .ok (.astore 12, 2) := by decide +kernel
theorem dL_law_72 : decode cL_law 72 = .ok (.bipush 10, 2) := by decide +kernel
theorem dL_law_74 : decode cL_law 74 = .ok (.newarray .int, 2) := by decide +kernel
theorem dL_law_76 : decode cL_law 76 = .ok (.astore 13, 2) := by decide +kernel
theorem dL_law_78 : decode cL_law 78 = .ok (.bipush 60, 2) := by decide +kernel
theorem dL_law_80 : decode cL_law 80 = .ok (.newarray .long, 2) := by decide +kernel
theorem dL_law_82 : decode cL_law 82 = .ok (.astore 14, 2) := by decide +kernel
theorem dL_law_84 : decode cL_law 84 = .ok (.bipush 6, 2) := by decide +kernel
theorem dL_law_86 : decode cL_law 86 = .ok (.newarray .int, 2) := by decide +kernel
theorem dL_law_88 : decode cL_law 88 = .ok (.astore 15, 2) := by decide +kernel
theorem dL_law_90 : decode cL_law 90 = .ok (.aload_n 2, 1) := by decide +kernel
theorem dL_law_91 : decode cL_law 91 = .ok (.bipush 6, 2) := by decide +kernel
theorem dL_law_93 : decode cL_law 93 = .ok (.iconst 1, 1) := by decide +kernel
theorem dL_law_94 : decode cL_law 94 = .ok (.iastore, 1) := by decide +kernel
theorem dL_law_95 : decode cL_law 95 = .ok (.aload_n 2, 1) := by decide +kernel
theorem dL_law_96 : decode cL_law 96 = .ok (.bipush 7, 2) := by decide +kernel
theorem dL_law_98 : decode cL_law 98 = .ok (.iconst 1, 1) := by decide +kernel
theorem dL_law_99 : decode cL_law 99 = .ok (.iastore, 1) := by decide +kernel
theorem dL_law_100 : decode cL_law 100 = .ok (.aload_n 1, 1) := by decide +kernel
theorem dL_law_101 : decode cL_law 101 = .ok (.iconst 0, 1) := by decide +kernel
theorem dL_law_102 : decode cL_law 102 = .ok (.aload_n 2, 1) := by decide +kernel
theorem dL_law_103 : decode cL_law 103 = .ok (.aload 5, 2) := by decide +kernel
theorem dL_law_105 : decode cL_law 105 = .ok (.aload 6, 2) := by decide +kernel
theorem dL_law_107 : decode cL_law 107 = .ok (.aload 7, 2) := by decide +kernel
theorem dL_law_109 : decode cL_law 109 = .ok (.aload 8, 2) := by decide +kernel
theorem dL_law_111 : decode cL_law 111 = .ok (.aload 9, 2) := by decide +kernel
theorem dL_law_113 : decode cL_law 113 = .ok (.aload 10, 2) := by decide +kernel
theorem dL_law_115 : decode cL_law 115 = .ok (.aload 11, 2) := by decide +kernel
theorem dL_law_117 : decode cL_law 117 = .ok (.aload 12, 2) := by decide +kernel
theorem dL_law_119 : decode cL_law 119 = .ok (.aload 13, 2) := by decide +kernel
theorem dL_law_121 : decode cL_law 121 = .ok (.aload 14, 2) := by decide +kernel
theorem dL_law_123 : decode cL_law 123 = .ok (.aload 15, 2) := by decide +kernel
theorem dL_law_125 : decode cL_law 125 = .ok (.invokestatic 301, 3) := by decide +kernel
theorem dL_law_128 : decode cL_law 128 = .ok (.ifCond .ne 5, 3) := by decide +kernel
theorem dL_law_131 : decode cL_law 131 = .ok (.iconst 0, 1) := by decide +kernel
theorem dL_law_132 : decode cL_law 132 = .ok (.ireturn, 1) := by decide +kernel
theorem dL_law_133 : decode cL_law 133 = .ok (.iconst 0, 1) := by decide +kernel
theorem dL_law_134 : decode cL_law 134 = .ok (.istore 16, 2) := by decide +kernel
theorem dL_law_136 : decode cL_law 136 = .ok (.iload 16, 2) := by decide +kernel
theorem dL_law_138 : decode cL_law 138 = .ok (.sipush 130, 3) := by decide +kernel
theorem dL_law_141 : decode cL_law 141 = .ok (.if_icmp .ge 363, 3) := by decide +kernel
theorem dL_law_144 : decode cL_law 144 = .ok (.aload_n 0, 1) := by decide +kernel
theorem dL_law_145 : decode cL_law 145 = .ok (.iconst 3, 1) := by decide +kernel
theorem dL_law_146 : decode cL_law 146 = .ok (.iload 16, 2) := by decide +kernel
theorem dL_law_148 : decode cL_law 148 = .ok (.imul, 1) := by decide +kernel
theorem dL_law_149 : decode cL_law 149 = .ok (.invokestatic 305, 3) := by decide +kernel
theorem dL_law_152 : decode cL_law 152 = .ok (.istore 17, 2) := by decide +kernel
theorem dL_law_154 : decode cL_law 154 = .ok (.aload_n 0, 1) := by decide +kernel
theorem dL_law_155 : decode cL_law 155 = .ok (.iconst 3, 1) := by decide +kernel
theorem dL_law_156 : decode cL_law 156 = .ok (.iload 16, 2) := by decide +kernel
theorem dL_law_158 : decode cL_law 158 = .ok (.imul, 1) := by decide +kernel
theorem dL_law_159 : decode cL_law 159 = .ok (.iconst 1, 1) := by decide +kernel
theorem dL_law_160 : decode cL_law 160 = .ok (.iadd, 1) := by decide +kernel
theorem dL_law_161 : decode cL_law 161 = .ok (.invokestatic 305, 3) := by decide +kernel
theorem dL_law_164 : decode cL_law 164 = .ok (.istore 18, 2) := by decide +kernel
theorem dL_law_166 : decode cL_law 166 = .ok (.aload_n 0, 1) := by decide +kernel
theorem dL_law_167 : decode cL_law 167 = .ok (.iconst 3, 1) := by decide +kernel
theorem dL_law_168 : decode cL_law 168 = .ok (.iload 16, 2) := by decide +kernel
theorem dL_law_170 : decode cL_law 170 = .ok (.imul, 1) := by decide +kernel
theorem dL_law_171 : decode cL_law 171 = .ok (.iconst 2, 1) := by decide +kernel
theorem dL_law_172 : decode cL_law 172 = .ok (.iadd, 1) := by decide +kernel
theorem dL_law_173 : decode cL_law 173 = .ok (.invokestatic 305, 3) := by decide +kernel
theorem dL_law_176 : decode cL_law 176 = .ok (.istore 19, 2) := by decide +kernel
theorem dL_law_178 : decode cL_law 178 = .ok (.aload_n 2, 1) := by decide +kernel
theorem dL_law_179 : decode cL_law 179 = .ok (.bipush 19, 2) := by decide +kernel
theorem dL_law_181 : decode cL_law 181 = .ok (.iaload, 1) := by decide +kernel
theorem dL_law_182 : decode cL_law 182 = .ok (.bipush 40, 2) := by decide +kernel
theorem dL_law_184 : decode cL_law 184 = .ok (.if_icmp .gt 13, 3) := by decide +kernel
theorem dL_law_187 : decode cL_law 187 = .ok (.aload_n 2, 1) := by decide +kernel
theorem dL_law_188 : decode cL_law 188 = .ok (.bipush 20, 2) := by decide +kernel
theorem dL_law_190 : decode cL_law 190 = .ok (.iaload, 1) := by decide +kernel
theorem dL_law_191 : decode cL_law 191 = .ok (.sipush 200, 3) := by decide +kernel
theorem dL_law_194 : decode cL_law 194 = .ok (.if_icmp .le 5, 3) := by decide +kernel
theorem dL_law_197 : decode cL_law 197 = .ok (.iconst 1, 1) := by decide +kernel
theorem dL_law_198 : decode cL_law 198 = .ok (.ireturn, 1) := by decide +kernel
theorem dL_law_199 : decode cL_law 199 = .ok (.aload_n 2, 1) := by decide +kernel
theorem dL_law_200 : decode cL_law 200 = .ok (.iconst 4, 1) := by decide +kernel
theorem dL_law_201 : decode cL_law 201 = .ok (.iaload, 1) := by decide +kernel
theorem dL_law_202 : decode cL_law 202 = .ok (.bipush 19, 2) := by decide +kernel
theorem dL_law_204 : decode cL_law 204 = .ok (.if_icmp .gt 29, 3) := by decide +kernel
theorem dL_law_207 : decode cL_law 207 = .ok (.aload_n 2, 1) := by decide +kernel
theorem dL_law_208 : decode cL_law 208 = .ok (.iconst 5, 1) := by decide +kernel
theorem dL_law_209 : decode cL_law 209 = .ok (.iaload, 1) := by decide +kernel
theorem dL_law_210 : decode cL_law 210 = .ok (.bipush 19, 2) := by decide +kernel
theorem dL_law_212 : decode cL_law 212 = .ok (.if_icmp .gt 21, 3) := by decide +kernel
theorem dL_law_215 : decode cL_law 215 = .ok (.aload_n 2, 1) := by decide +kernel
theorem dL_law_216 : decode cL_law 216 = .ok (.bipush 16, 2) := by decide +kernel
theorem dL_law_218 : decode cL_law 218 = .ok (.iaload, 1) := by decide +kernel
theorem dL_law_219 : decode cL_law 219 = .ok (.bipush 90, 2) := by decide +kernel
theorem dL_law_221 : decode cL_law 221 = .ok (.if_icmp .gt 12, 3) := by decide +kernel
theorem dL_law_224 : decode cL_law 224 = .ok (.aload_n 2, 1) := by decide +kernel
theorem dL_law_225 : decode cL_law 225 = .ok (.bipush 17, 2) := by decide +kernel
theorem dL_law_227 : decode cL_law 227 = .ok (.iaload, 1) := by decide +kernel
theorem dL_law_228 : decode cL_law 228 = .ok (.bipush 90, 2) := by decide +kernel
theorem dL_law_230 : decode cL_law 230 = .ok (.if_icmp .le 49, 3) := by decide +kernel
theorem dL_law_233 : decode cL_law 233 = .ok (.aload_n 2, 1) := by decide +kernel
theorem dL_law_234 : decode cL_law 234 = .ok (.iconst 1, 1) := by decide +kernel
theorem dL_law_235 : decode cL_law 235 = .ok (.iaload, 1) := by decide +kernel
theorem dL_law_236 : decode cL_law 236 = .ok (.iconst 1, 1) := by decide +kernel
theorem dL_law_237 : decode cL_law 237 = .ok (.if_icmp .ne 20, 3) := by decide +kernel
theorem dL_law_240 : decode cL_law 240 = .ok (.aload_n 1, 1) := by decide +kernel
theorem dL_law_241 : decode cL_law 241 = .ok (.invokestatic 192, 3) := by decide +kernel
theorem dL_law_244 : decode cL_law 244 = .ok (.aload_n 2, 1) := by decide +kernel
theorem dL_law_245 : decode cL_law 245 = .ok (.aload 7, 2) := by decide +kernel
theorem dL_law_247 : decode cL_law 247 = .ok (.aload 8, 2) := by decide +kernel
theorem dL_law_249 : decode cL_law 249 = .ok (.invokestatic 195, 3) := by decide +kernel
theorem dL_law_252 : decode cL_law 252 = .ok (.if_icmp .eq 5, 3) := by decide +kernel
theorem dL_law_255 : decode cL_law 255 = .ok (.iconst 0, 1) := by decide +kernel
theorem dL_law_256 : decode cL_law 256 = .ok (.ireturn, 1) := by decide +kernel
theorem dL_law_257 : decode cL_law 257 = .ok (.aload_n 2, 1) := by decide +kernel
theorem dL_law_258 : decode cL_law 258 = .ok (.aload_n 3, 1) := by decide +kernel
theorem dL_law_259 : decode cL_law 259 = .ok (.aload 4, 2) := by decide +kernel
theorem dL_law_261 : decode cL_law 261 = .ok (.aload 5, 2) := by decide +kernel
theorem dL_law_263 : decode cL_law 263 = .ok (.aload 6, 2) := by decide +kernel
theorem dL_law_265 : decode cL_law 265 = .ok (.iconst 1, 1) := by decide +kernel
theorem dL_law_266 : decode cL_law 266 = .ok (.invokestatic 199, 3) := by decide +kernel
theorem dL_law_269 : decode cL_law 269 = .ok (.aload_n 1, 1) := by decide +kernel
theorem dL_law_270 : decode cL_law 270 = .ok (.iconst 1, 1) := by decide +kernel
theorem dL_law_271 : decode cL_law 271 = .ok (.invokestatic 189, 3) := by decide +kernel
theorem dL_law_274 : decode cL_law 274 = .ok (.ifCond .eq 5, 3) := by decide +kernel
theorem dL_law_277 : decode cL_law 277 = .ok (.iconst 0, 1) := by decide +kernel
theorem dL_law_278 : decode cL_law 278 = .ok (.ireturn, 1) := by decide +kernel
theorem dL_law_279 : decode cL_law 279 = .ok (.iload 16, 2) := by decide +kernel
theorem dL_law_281 : decode cL_law 281 = .ok (.iconst 1, 1) := by decide +kernel
theorem dL_law_282 : decode cL_law 282 = .ok (.if_icmp .ge 7, 3) := by decide +kernel
theorem dL_law_285 : decode cL_law 285 = .ok (.iconst 0, 1) := by decide +kernel
theorem dL_law_286 : decode cL_law 286 = .ok (.goto 32, 3) := by decide +kernel
theorem dL_law_289 : decode cL_law 289 = .ok (.iload 16, 2) := by decide +kernel
theorem dL_law_291 : decode cL_law 291 = .ok (.iconst 3, 1) := by decide +kernel
theorem dL_law_292 : decode cL_law 292 = .ok (.if_icmp .ge 7, 3) := by decide +kernel
theorem dL_law_295 : decode cL_law 295 = .ok (.iconst 1, 1) := by decide +kernel
theorem dL_law_296 : decode cL_law 296 = .ok (.goto 22, 3) := by decide +kernel
theorem dL_law_299 : decode cL_law 299 = .ok (.iload 16, 2) := by decide +kernel
theorem dL_law_301 : decode cL_law 301 = .ok (.bipush 6, 2) := by decide +kernel
theorem dL_law_303 : decode cL_law 303 = .ok (.if_icmp .ge 8, 3) := by decide +kernel
theorem dL_law_306 : decode cL_law 306 = .ok (.bipush 10, 2) := by decide +kernel
theorem dL_law_308 : decode cL_law 308 = .ok (.goto 10, 3) := by decide +kernel
theorem dL_law_311 : decode cL_law 311 = .ok (.iload 17, 2) := by decide +kernel
theorem dL_law_313 : decode cL_law 313 = .ok (.bipush 24, 2) := by decide +kernel
theorem dL_law_315 : decode cL_law 315 = .ok (.invokestatic 210, 3) := by decide +kernel
theorem dL_law_318 : decode cL_law 318 = .ok (.istore 20, 2) := by decide +kernel
theorem dL_law_320 : decode cL_law 320 = .ok (.iload 16, 2) := by decide +kernel
theorem dL_law_322 : decode cL_law 322 = .ok (.iconst 3, 1) := by decide +kernel
theorem dL_law_323 : decode cL_law 323 = .ok (.if_icmp .ge 8, 3) := by decide +kernel
theorem dL_law_326 : decode cL_law 326 = .ok (.iload 16, 2) := by decide +kernel
theorem dL_law_328 : decode cL_law 328 = .ok (.goto 5, 3) := by decide +kernel
theorem dL_law_331 : decode cL_law 331 = .ok (.iload 18, 2) := by decide +kernel
theorem dL_law_333 : decode cL_law 333 = .ok (.istore 21, 2) := by decide +kernel
theorem dL_law_335 : decode cL_law 335 = .ok (.iload 20, 2) := by decide +kernel
theorem dL_law_337 : decode cL_law 337 = .ok (.bipush 10, 2) := by decide +kernel
theorem dL_law_339 : decode cL_law 339 = .ok (.if_icmp .ge 55, 3) := by decide +kernel
theorem dL_law_342 : decode cL_law 342 = .ok (.aload_n 1, 1) := by decide +kernel
theorem dL_law_343 : decode cL_law 343 = .ok (.iload 20, 2) := by decide +kernel
theorem dL_law_345 : decode cL_law 345 = .ok (.iload 16, 2) := by decide +kernel
theorem dL_law_347 : decode cL_law 347 = .ok (.iconst 3, 1) := by decide +kernel
theorem dL_law_348 : decode cL_law 348 = .ok (.if_icmp .ge 10, 3) := by decide +kernel
theorem dL_law_351 : decode cL_law 351 = .ok (.iload 21, 2) := by decide +kernel
theorem dL_law_353 : decode cL_law 353 = .ok (.iconst 1, 1) := by decide +kernel
theorem dL_law_354 : decode cL_law 354 = .ok (.isub, 1) := by decide +kernel
theorem dL_law_355 : decode cL_law 355 = .ok (.goto 5, 3) := by decide +kernel
theorem dL_law_358 : decode cL_law 358 = .ok (.iload 18, 2) := by decide +kernel
theorem dL_law_360 : decode cL_law 360 = .ok (.iload 19, 2) := by decide +kernel
theorem dL_law_362 : decode cL_law 362 = .ok (.aload_n 2, 1) := by decide +kernel
theorem dL_law_363 : decode cL_law 363 = .ok (.aload_n 3, 1) := by decide +kernel
theorem dL_law_364 : decode cL_law 364 = .ok (.aload 4, 2) := by decide +kernel
theorem dL_law_366 : decode cL_law 366 = .ok (.aload 5, 2) := by decide +kernel
theorem dL_law_368 : decode cL_law 368 = .ok (.aload 6, 2) := by decide +kernel
theorem dL_law_370 : decode cL_law 370 = .ok (.aload 7, 2) := by decide +kernel
theorem dL_law_372 : decode cL_law 372 = .ok (.aload 8, 2) := by decide +kernel
theorem dL_law_374 : decode cL_law 374 = .ok (.aload 9, 2) := by decide +kernel
theorem dL_law_376 : decode cL_law 376 = .ok (.aload 10, 2) := by decide +kernel
theorem dL_law_378 : decode cL_law 378 = .ok (.aload 11, 2) := by decide +kernel
theorem dL_law_380 : decode cL_law 380 = .ok (.aload 12, 2) := by decide +kernel
theorem dL_law_382 : decode cL_law 382 = .ok (.aload 13, 2) := by decide +kernel
theorem dL_law_384 : decode cL_law 384 = .ok (.aload 14, 2) := by decide +kernel
theorem dL_law_386 : decode cL_law 386 = .ok (.aload 15, 2) := by decide +kernel
theorem dL_law_388 : decode cL_law 388 = .ok (.invokestatic 309, 3) := by decide +kernel
theorem dL_law_391 : decode cL_law 391 = .ok (.goto 61, 3) := by decide +kernel
theorem dL_law_394 : decode cL_law 394 = .ok (.aload_n 1, 1) := by decide +kernel
theorem dL_law_395 : decode cL_law 395 = .ok (.iload 20, 2) := by decide +kernel
theorem dL_law_397 : decode cL_law 397 = .ok (.bipush 22, 2) := by decide +kernel
theorem dL_law_399 : decode cL_law 399 = .ok (.if_icmp .ge 11, 3) := by decide +kernel
theorem dL_law_402 : decode cL_law 402 = .ok (.iload 20, 2) := by decide +kernel
theorem dL_law_404 : decode cL_law 404 = .ok (.bipush 10, 2) := by decide +kernel
theorem dL_law_406 : decode cL_law 406 = .ok (.isub, 1) := by decide +kernel
theorem dL_law_407 : decode cL_law 407 = .ok (.goto 16, 3) := by decide +kernel
theorem dL_law_410 : decode cL_law 410 = .ok (.iload 20, 2) := by decide +kernel
theorem dL_law_412 : decode cL_law 412 = .ok (.bipush 22, 2) := by decide +kernel
theorem dL_law_414 : decode cL_law 414 = .ok (.if_icmp .ne 7, 3) := by decide +kernel
theorem dL_law_417 : decode cL_law 417 = .ok (.iconst 0, 1) := by decide +kernel
theorem dL_law_418 : decode cL_law 418 = .ok (.goto 5, 3) := by decide +kernel
theorem dL_law_421 : decode cL_law 421 = .ok (.bipush 6, 2) := by decide +kernel
theorem dL_law_423 : decode cL_law 423 = .ok (.iload 18, 2) := by decide +kernel
theorem dL_law_425 : decode cL_law 425 = .ok (.iload 19, 2) := by decide +kernel
theorem dL_law_427 : decode cL_law 427 = .ok (.aload_n 2, 1) := by decide +kernel
theorem dL_law_428 : decode cL_law 428 = .ok (.aload_n 3, 1) := by decide +kernel
theorem dL_law_429 : decode cL_law 429 = .ok (.aload 4, 2) := by decide +kernel
theorem dL_law_431 : decode cL_law 431 = .ok (.aload 5, 2) := by decide +kernel
theorem dL_law_433 : decode cL_law 433 = .ok (.aload 6, 2) := by decide +kernel
theorem dL_law_435 : decode cL_law 435 = .ok (.aload 9, 2) := by decide +kernel
theorem dL_law_437 : decode cL_law 437 = .ok (.aload 10, 2) := by decide +kernel
theorem dL_law_439 : decode cL_law 439 = .ok (.aload 11, 2) := by decide +kernel
theorem dL_law_441 : decode cL_law 441 = .ok (.aload 12, 2) := by decide +kernel
theorem dL_law_443 : decode cL_law 443 = .ok (.aload 13, 2) := by decide +kernel
theorem dL_law_445 : decode cL_law 445 = .ok (.aload 14, 2) := by decide +kernel
theorem dL_law_447 : decode cL_law 447 = .ok (.aload 15, 2) := by decide +kernel
theorem dL_law_449 : decode cL_law 449 = .ok (.invokestatic 313, 3) := by decide +kernel
theorem dL_law_452 : decode cL_law 452 = .ok (.istore 22, 2) := by decide +kernel
theorem dL_law_454 : decode cL_law 454 = .ok (.iload 22, 2) := by decide +kernel
theorem dL_law_456 : decode cL_law 456 = .ok (.ifCond .eq 40, 3) := by decide +kernel
theorem dL_law_459 : decode cL_law 459 = .ok (.aload_n 1, 1) := by decide +kernel
theorem dL_law_460 : decode cL_law 460 = .ok (.iload 17, 2) := by decide +kernel
theorem dL_law_462 : decode cL_law 462 = .ok (.iconst 4, 1) := by decide +kernel
theorem dL_law_463 : decode cL_law 463 = .ok (.ishr, 1) := by decide +kernel
theorem dL_law_464 : decode cL_law 464 = .ok (.iload 19, 2) := by decide +kernel
theorem dL_law_466 : decode cL_law 466 = .ok (.ixor, 1) := by decide +kernel
theorem dL_law_467 : decode cL_law 467 = .ok (.aload_n 2, 1) := by decide +kernel
theorem dL_law_468 : decode cL_law 468 = .ok (.aload 5, 2) := by decide +kernel
theorem dL_law_470 : decode cL_law 470 = .ok (.aload 6, 2) := by decide +kernel
theorem dL_law_472 : decode cL_law 472 = .ok (.aload 7, 2) := by decide +kernel
theorem dL_law_474 : decode cL_law 474 = .ok (.aload 8, 2) := by decide +kernel
theorem dL_law_476 : decode cL_law 476 = .ok (.aload 9, 2) := by decide +kernel
theorem dL_law_478 : decode cL_law 478 = .ok (.aload 10, 2) := by decide +kernel
theorem dL_law_480 : decode cL_law 480 = .ok (.aload 11, 2) := by decide +kernel
theorem dL_law_482 : decode cL_law 482 = .ok (.aload 12, 2) := by decide +kernel
theorem dL_law_484 : decode cL_law 484 = .ok (.aload 13, 2) := by decide +kernel
theorem dL_law_486 : decode cL_law 486 = .ok (.aload 14, 2) := by decide +kernel
theorem dL_law_488 : decode cL_law 488 = .ok (.aload 15, 2) := by decide +kernel
theorem dL_law_490 : decode cL_law 490 = .ok (.invokestatic 301, 3) := by decide +kernel
theorem dL_law_493 : decode cL_law 493 = .ok (.ifCond .ne 5, 3) := by decide +kernel
theorem dL_law_496 : decode cL_law 496 = .ok (.iconst 0, 1) := by decide +kernel
theorem dL_law_497 : decode cL_law 497 = .ok (.ireturn, 1) := by decide +kernel
theorem dL_law_498 : decode cL_law 498 = .ok (.iinc 16 1, 3) := by decide +kernel
theorem dL_law_501 : decode cL_law 501 = .ok (.goto (-365), 3) := by decide +kernel
theorem dL_law_504 : decode cL_law 504 = .ok (.iconst 1, 1) := by decide +kernel
theorem dL_law_505 : decode cL_law 505 = .ok (.ireturn, 1) := by decide +kernel
