theorem de_Y_622 : decode code 622 = .ok (.iload 4, 2) := by decide +kernel
theorem de_Y_624 : decode code 624 = .ok (.iconst 1, 1) := by decide +kernel
theorem de_Y_625 : decode code 625 = .ok (.iadd, 1) := by decide +kernel
theorem de_Y_626 : decode code 626 = .ok (.iaload, 1) := by decide +kernel
theorem de_Y_627 : decode code 627 = .ok (.aload_n 0, 1) := by decide +kernel
theorem de_Y_628 : decode code 628 = .ok (.iload 4, 2) := by decide +kernel
theorem de_Y_630 : decode code 630 = .ok (.iconst 2, 1) := by decide +kernel
theorem de_Y_631 : decode code 631 = .ok (.iadd, 1) := by decide +kernel
theorem de_Y_632 : decode code 632 = .ok (.iaload, 1) := by decide +kernel
theorem de_Y_633 : decode code 633 = .ok (.i2l, 1) := by decide +kernel
theorem de_Y_634 : decode code 634 = .ok (.bipush 32, 2) := by decide +kernel
theorem de_Y_636 : decode code 636 = .ok (.lshl, 1) := by decide +kernel
theorem de_Y_637 : decode code 637 = .ok (.aload_n 0, 1) := by decide +kernel
theorem de_Y_638 : decode code 638 = .ok (.iload 4, 2) := by decide +kernel
theorem de_Y_640 : decode code 640 = .ok (.iconst 3, 1) := by decide +kernel
theorem de_Y_641 : decode code 641 = .ok (.iadd, 1) := by decide +kernel
theorem de_Y_642 : decode code 642 = .ok (.iaload, 1) := by decide +kernel
theorem de_Y_643 : decode code 643 = .ok (.i2l, 1) := by decide +kernel
theorem de_Y_644 : decode code 644 = .ok (.ldc2_w 64, 3) := by decide +kernel
theorem de_Y_647 : decode code 647 = .ok (.land, 1) := by decide +kernel
theorem de_Y_648 : decode code 648 = .ok (.lor, 1) := by decide +kernel
theorem de_Y_649 : decode code 649 = .ok (.aload_n 3, 1) := by decide +kernel
theorem de_Y_650 : decode code 650 = .ok (.invokestatic 80, 3) := by decide +kernel
theorem de_Y_653 : decode code 653 = .ok (.istore 5, 2) := by decide +kernel
theorem de_Y_655 : decode code 655 = .ok (.aload_n 2, 1) := by decide +kernel
theorem de_Y_656 : decode code 656 = .ok (.aload_n 0, 1) := by decide +kernel
theorem de_Y_657 : decode code 657 = .ok (.iload 4, 2) := by decide +kernel
theorem de_Y_659 : decode code 659 = .ok (.iconst 1, 1) := by decide +kernel
theorem de_Y_660 : decode code 660 = .ok (.iadd, 1) := by decide +kernel
theorem de_Y_661 : decode code 661 = .ok (.iaload, 1) := by decide +kernel
theorem de_Y_662 : decode code 662 = .ok (.aload_n 0, 1) := by decide +kernel
theorem de_Y_663 : decode code 663 = .ok (.iload 4, 2) := by decide +kernel
theorem de_Y_665 : decode code 665 = .ok (.iconst 2, 1) := by decide +kernel
theorem de_Y_666 : decode code 666 = .ok (.iadd, 1) := by decide +kernel
theorem de_Y_667 : decode code 667 = .ok (.iaload, 1) := by decide +kernel
theorem de_Y_668 : decode code 668 = .ok (.i2l, 1) := by decide +kernel
theorem de_Y_669 : decode code 669 = .ok (.bipush 32, 2) := by decide +kernel
theorem de_Y_671 : decode code 671 = .ok (.lshl, 1) := by decide +kernel
theorem de_Y_672 : decode code 672 = .ok (.aload_n 0, 1) := by decide +kernel
theorem de_Y_673 : decode code 673 = .ok (.iload 4, 2) := by decide +kernel
theorem de_Y_675 : decode code 675 = .ok (.iconst 3, 1) := by decide +kernel
theorem de_Y_676 : decode code 676 = .ok (.iadd, 1) := by decide +kernel
theorem de_Y_677 : decode code 677 = .ok (.iaload, 1) := by decide +kernel
theorem de_Y_678 : decode code 678 = .ok (.i2l, 1) := by decide +kernel
theorem de_Y_679 : decode code 679 = .ok (.ldc2_w 64, 3) := by decide +kernel
theorem de_Y_682 : decode code 682 = .ok (.land, 1) := by decide +kernel
theorem de_Y_683 : decode code 683 = .ok (.lor, 1) := by decide +kernel
theorem de_Y_684 : decode code 684 = .ok (.invokevirtual 83, 3) := by decide +kernel
theorem de_Y_687 : decode code 687 = .ok (.istore 6, 2) := by decide +kernel
theorem de_Y_689 : decode code 689 = .ok (.aload_n 2, 1) := by decide +kernel
theorem de_Y_690 : decode code 690 = .ok (.invokevirtual 72, 3) := by decide +kernel
theorem de_Y_693 : decode code 693 = .ok (.iload 5, 2) := by decide +kernel
theorem de_Y_695 : decode code 695 = .ok (.if_icmp .eq 5, 3) := by decide +kernel
theorem de_Y_698 : decode code 698 = .ok (.iconst 0, 1) := by decide +kernel
theorem de_Y_699 : decode code 699 = .ok (.ireturn, 1) := by decide +kernel
theorem de_Y_700 : decode code 700 = .ok (.iload 5, 2) := by decide +kernel
theorem de_Y_702 : decode code 702 = .ok (.ifCond .ne 15, 3) := by decide +kernel
theorem de_Y_705 : decode code 705 = .ok (.aload_n 3, 1) := by decide +kernel
theorem de_Y_706 : decode code 706 = .ok (.iconst 0, 1) := by decide +kernel
theorem de_Y_707 : decode code 707 = .ok (.laload, 1) := by decide +kernel
theorem de_Y_708 : decode code 708 = .ok (.iload 6, 2) := by decide +kernel
theorem de_Y_710 : decode code 710 = .ok (.i2l, 1) := by decide +kernel
theorem de_Y_711 : decode code 711 = .ok (.lcmp, 1) := by decide +kernel
theorem de_Y_712 : decode code 712 = .ok (.ifCond .eq 5, 3) := by decide +kernel
theorem de_Y_715 : decode code 715 = .ok (.iconst 0, 1) := by decide +kernel
theorem de_Y_716 : decode code 716 = .ok (.ireturn, 1) := by decide +kernel
theorem de_Y_717 : decode code 717 = .ok (.goto 1019, 3) := by decide +kernel
theorem de_Y_720 : decode code 720 = .ok (.aload_n 1, 1) := by decide +kernel
theorem de_Y_721 : decode code 721 = .ok (.aload_n 0, 1) := by decide +kernel
theorem de_Y_722 : decode code 722 = .ok (.iload 4, 2) := by decide +kernel
theorem de_Y_724 : decode code 724 = .ok (.iconst 1, 1) := by decide +kernel
theorem de_Y_725 : decode code 725 = .ok (.iadd, 1) := by decide +kernel
theorem de_Y_726 : decode code 726 = .ok (.iaload, 1) := by decide +kernel
theorem de_Y_727 : decode code 727 = .ok (.i2l, 1) := by decide +kernel
theorem de_Y_728 : decode code 728 = .ok (.bipush 32, 2) := by decide +kernel
theorem de_Y_730 : decode code 730 = .ok (.lshl, 1) := by decide +kernel
theorem de_Y_731 : decode code 731 = .ok (.aload_n 0, 1) := by decide +kernel
theorem de_Y_732 : decode code 732 = .ok (.iload 4, 2) := by decide +kernel
theorem de_Y_734 : decode code 734 = .ok (.iconst 2, 1) := by decide +kernel
theorem de_Y_735 : decode code 735 = .ok (.iadd, 1) := by decide +kernel
theorem de_Y_736 : decode code 736 = .ok (.iaload, 1) := by decide +kernel
theorem de_Y_737 : decode code 737 = .ok (.i2l, 1) := by decide +kernel
theorem de_Y_738 : decode code 738 = .ok (.ldc2_w 64, 3) := by decide +kernel
theorem de_Y_741 : decode code 741 = .ok (.land, 1) := by decide +kernel
theorem de_Y_742 : decode code 742 = .ok (.lor, 1) := by decide +kernel
theorem de_Y_743 : decode code 743 = .ok (.aload_n 0, 1) := by decide +kernel
theorem de_Y_744 : decode code 744 = .ok (.iload 4, 2) := by decide +kernel
theorem de_Y_746 : decode code 746 = .ok (.iconst 3, 1) := by decide +kernel
theorem de_Y_747 : decode code 747 = .ok (.iadd, 1) := by decide +kernel
theorem de_Y_748 : decode code 748 = .ok (.iaload, 1) := by decide +kernel
theorem de_Y_749 : decode code 749 = .ok (.i2l, 1) := by decide +kernel
theorem de_Y_750 : decode code 750 = .ok (.bipush 32, 2) := by decide +kernel
theorem de_Y_752 : decode code 752 = .ok (.lshl, 1) := by decide +kernel
theorem de_Y_753 : decode code 753 = .ok (.aload_n 0, 1) := by decide +kernel
theorem de_Y_754 : decode code 754 = .ok (.iload 4, 2) := by decide +kernel
theorem de_Y_756 : decode code 756 = .ok (.iconst 4, 1) := by decide +kernel
theorem de_Y_757 : decode code 757 = .ok (.iadd, 1) := by decide +kernel
theorem de_Y_758 : decode code 758 = .ok (.iaload, 1) := by decide +kernel
theorem de_Y_759 : decode code 759 = .ok (.i2l, 1) := by decide +kernel
theorem de_Y_760 : decode code 760 = .ok (.ldc2_w 64, 3) := by decide +kernel
theorem de_Y_763 : decode code 763 = .ok (.land, 1) := by decide +kernel
theorem de_Y_764 : decode code 764 = .ok (.lor, 1) := by decide +kernel
theorem de_Y_765 : decode code 765 = .ok (.aload_n 0, 1) := by decide +kernel
theorem de_Y_766 : decode code 766 = .ok (.iload 4, 2) := by decide +kernel
theorem de_Y_768 : decode code 768 = .ok (.iconst 5, 1) := by decide +kernel
theorem de_Y_769 : decode code 769 = .ok (.iadd, 1) := by decide +kernel
theorem de_Y_770 : decode code 770 = .ok (.iaload, 1) := by decide +kernel
theorem de_Y_771 : decode code 771 = .ok (.i2l, 1) := by decide +kernel
theorem de_Y_772 : decode code 772 = .ok (.bipush 32, 2) := by decide +kernel
theorem de_Y_774 : decode code 774 = .ok (.lshl, 1) := by decide +kernel
theorem de_Y_775 : decode code 775 = .ok (.aload_n 0, 1) := by decide +kernel
theorem de_Y_776 : decode code 776 = .ok (.iload 4, 2) := by decide +kernel
theorem de_Y_778 : decode code 778 = .ok (.bipush 6, 2) := by decide +kernel
theorem de_Y_780 : decode code 780 = .ok (.iadd, 1) := by decide +kernel
theorem de_Y_781 : decode code 781 = .ok (.iaload, 1) := by decide +kernel
theorem de_Y_782 : decode code 782 = .ok (.i2l, 1) := by decide +kernel
theorem de_Y_783 : decode code 783 = .ok (.ldc2_w 64, 3) := by decide +kernel
theorem de_Y_786 : decode code 786 = .ok (.land, 1) := by decide +kernel
theorem de_Y_787 : decode code 787 = .ok (.lor, 1) := by decide +kernel
theorem de_Y_788 : decode code 788 = .ok (.aload_n 3, 1) := by decide +kernel
theorem de_Y_789 : decode code 789 = .ok (.invokestatic 84, 3) := by decide +kernel
theorem de_Y_792 : decode code 792 = .ok (.istore 5, 2) := by decide +kernel
theorem de_Y_794 : decode code 794 = .ok (.aload_n 2, 1) := by decide +kernel
theorem de_Y_795 : decode code 795 = .ok (.aload_n 0, 1) := by decide +kernel
theorem de_Y_796 : decode code 796 = .ok (.iload 4, 2) := by decide +kernel
theorem de_Y_798 : decode code 798 = .ok (.iconst 1, 1) := by decide +kernel
theorem de_Y_799 : decode code 799 = .ok (.iadd, 1) := by decide +kernel
theorem de_Y_800 : decode code 800 = .ok (.iaload, 1) := by decide +kernel
theorem de_Y_801 : decode code 801 = .ok (.i2l, 1) := by decide +kernel
theorem de_Y_802 : decode code 802 = .ok (.bipush 32, 2) := by decide +kernel
theorem de_Y_804 : decode code 804 = .ok (.lshl, 1) := by decide +kernel
theorem de_Y_805 : decode code 805 = .ok (.aload_n 0, 1) := by decide +kernel
theorem de_Y_806 : decode code 806 = .ok (.iload 4, 2) := by decide +kernel
theorem de_Y_808 : decode code 808 = .ok (.iconst 2, 1) := by decide +kernel
theorem de_Y_809 : decode code 809 = .ok (.iadd, 1) := by decide +kernel
theorem de_Y_810 : decode code 810 = .ok (.iaload, 1) := by decide +kernel
theorem de_Y_811 : decode code 811 = .ok (.i2l, 1) := by decide +kernel
theorem de_Y_812 : decode code 812 = .ok (.ldc2_w 64, 3) := by decide +kernel
theorem de_Y_815 : decode code 815 = .ok (.land, 1) := by decide +kernel
theorem de_Y_816 : decode code 816 = .ok (.lor, 1) := by decide +kernel
theorem de_Y_817 : decode code 817 = .ok (.aload_n 0, 1) := by decide +kernel
theorem de_Y_818 : decode code 818 = .ok (.iload 4, 2) := by decide +kernel
theorem de_Y_820 : decode code 820 = .ok (.iconst 3, 1) := by decide +kernel
theorem de_Y_821 : decode code 821 = .ok (.iadd, 1) := by decide +kernel
theorem de_Y_822 : decode code 822 = .ok (.iaload, 1) := by decide +kernel
theorem de_Y_823 : decode code 823 = .ok (.i2l, 1) := by decide +kernel
theorem de_Y_824 : decode code 824 = .ok (.bipush 32, 2) := by decide +kernel
theorem de_Y_826 : decode code 826 = .ok (.lshl, 1) := by decide +kernel
theorem de_Y_827 : decode code 827 = .ok (.aload_n 0, 1) := by decide +kernel
theorem de_Y_828 : decode code 828 = .ok (.iload 4, 2) := by decide +kernel
theorem de_Y_830 : decode code 830 = .ok (.iconst 4, 1) := by decide +kernel
theorem de_Y_831 : decode code 831 = .ok (.iadd, 1) := by decide +kernel
theorem de_Y_832 : decode code 832 = .ok (.iaload, 1) := by decide +kernel
theorem de_Y_833 : decode code 833 = .ok (.i2l, 1) := by decide +kernel
theorem de_Y_834 : decode code 834 = .ok (.ldc2_w 64, 3) := by decide +kernel
theorem de_Y_837 : decode code 837 = .ok (.land, 1) := by decide +kernel
theorem de_Y_838 : decode code 838 = .ok (.lor, 1) := by decide +kernel
theorem de_Y_839 : decode code 839 = .ok (.aload_n 0, 1) := by decide +kernel
theorem de_Y_840 : decode code 840 = .ok (.iload 4, 2) := by decide +kernel
theorem de_Y_842 : decode code 842 = .ok (.iconst 5, 1) := by decide +kernel
theorem de_Y_843 : decode code 843 = .ok (.iadd, 1) := by decide +kernel
theorem de_Y_844 : decode code 844 = .ok (.iaload, 1) := by decide +kernel
theorem de_Y_845 : decode code 845 = .ok (.i2l, 1) := by decide +kernel
theorem de_Y_846 : decode code 846 = .ok (.bipush 32, 2) := by decide +kernel
theorem de_Y_848 : decode code 848 = .ok (.lshl, 1) := by decide +kernel
theorem de_Y_849 : decode code 849 = .ok (.aload_n 0, 1) := by decide +kernel
theorem de_Y_850 : decode code 850 = .ok (.iload 4, 2) := by decide +kernel
theorem de_Y_852 : decode code 852 = .ok (.bipush 6, 2) := by decide +kernel
theorem de_Y_854 : decode code 854 = .ok (.iadd, 1) := by decide +kernel
theorem de_Y_855 : decode code 855 = .ok (.iaload, 1) := by decide +kernel
theorem de_Y_856 : decode code 856 = .ok (.i2l, 1) := by decide +kernel
theorem de_Y_857 : decode code 857 = .ok (.ldc2_w 64, 3) := by decide +kernel
theorem de_Y_860 : decode code 860 = .ok (.land, 1) := by decide +kernel
theorem de_Y_861 : decode code 861 = .ok (.lor, 1) := by decide +kernel
theorem de_Y_862 : decode code 862 = .ok (.invokevirtual 87, 3) := by decide +kernel
theorem de_Y_865 : decode code 865 = .ok (.istore 6, 2) := by decide +kernel
theorem de_Y_867 : decode code 867 = .ok (.aload_n 2, 1) := by decide +kernel
theorem de_Y_868 : decode code 868 = .ok (.invokevirtual 72, 3) := by decide +kernel
theorem de_Y_871 : decode code 871 = .ok (.iload 5, 2) := by decide +kernel
theorem de_Y_873 : decode code 873 = .ok (.if_icmp .eq 5, 3) := by decide +kernel
theorem de_Y_876 : decode code 876 = .ok (.iconst 0, 1) := by decide +kernel
theorem de_Y_877 : decode code 877 = .ok (.ireturn, 1) := by decide +kernel
theorem de_Y_878 : decode code 878 = .ok (.iload 5, 2) := by decide +kernel
theorem de_Y_880 : decode code 880 = .ok (.ifCond .ne 15, 3) := by decide +kernel
theorem de_Y_883 : decode code 883 = .ok (.aload_n 3, 1) := by decide +kernel
theorem de_Y_884 : decode code 884 = .ok (.iconst 0, 1) := by decide +kernel
theorem de_Y_885 : decode code 885 = .ok (.laload, 1) := by decide +kernel
theorem de_Y_886 : decode code 886 = .ok (.iload 6, 2) := by decide +kernel
theorem de_Y_888 : decode code 888 = .ok (.i2l, 1) := by decide +kernel
theorem de_Y_889 : decode code 889 = .ok (.lcmp, 1) := by decide +kernel
theorem de_Y_890 : decode code 890 = .ok (.ifCond .eq 5, 3) := by decide +kernel
theorem de_Y_893 : decode code 893 = .ok (.iconst 0, 1) := by decide +kernel
theorem de_Y_894 : decode code 894 = .ok (.ireturn, 1) := by decide +kernel
theorem de_Y_895 : decode code 895 = .ok (.goto 841, 3) := by decide +kernel
theorem de_Y_898 : decode code 898 = .ok (.aload_n 1, 1) := by decide +kernel
theorem de_Y_899 : decode code 899 = .ok (.aload_n 0, 1) := by decide +kernel
theorem de_Y_900 : decode code 900 = .ok (.iload 4, 2) := by decide +kernel
theorem de_Y_902 : decode code 902 = .ok (.iconst 1, 1) := by decide +kernel
theorem de_Y_903 : decode code 903 = .ok (.iadd, 1) := by decide +kernel
theorem de_Y_904 : decode code 904 = .ok (.iaload, 1) := by decide +kernel
theorem de_Y_905 : decode code 905 = .ok (.i2l, 1) := by decide +kernel
theorem de_Y_906 : decode code 906 = .ok (.bipush 32, 2) := by decide +kernel
theorem de_Y_908 : decode code 908 = .ok (.lshl, 1) := by decide +kernel
theorem de_Y_909 : decode code 909 = .ok (.aload_n 0, 1) := by decide +kernel
theorem de_Y_910 : decode code 910 = .ok (.iload 4, 2) := by decide +kernel
theorem de_Y_912 : decode code 912 = .ok (.iconst 2, 1) := by decide +kernel
theorem de_Y_913 : decode code 913 = .ok (.iadd, 1) := by decide +kernel
theorem de_Y_914 : decode code 914 = .ok (.iaload, 1) := by decide +kernel
theorem de_Y_915 : decode code 915 = .ok (.i2l, 1) := by decide +kernel
theorem de_Y_916 : decode code 916 = .ok (.ldc2_w 64, 3) := by decide +kernel
theorem de_Y_919 : decode code 919 = .ok (.land, 1) := by decide +kernel
theorem de_Y_920 : decode code 920 = .ok (.lor, 1) := by decide +kernel
theorem de_Y_921 : decode code 921 = .ok (.aload_n 0, 1) := by decide +kernel
theorem de_Y_922 : decode code 922 = .ok (.iload 4, 2) := by decide +kernel
theorem de_Y_924 : decode code 924 = .ok (.iconst 3, 1) := by decide +kernel
theorem de_Y_925 : decode code 925 = .ok (.iadd, 1) := by decide +kernel
theorem de_Y_926 : decode code 926 = .ok (.iaload, 1) := by decide +kernel
theorem de_Y_927 : decode code 927 = .ok (.i2l, 1) := by decide +kernel
theorem de_Y_928 : decode code 928 = .ok (.bipush 32, 2) := by decide +kernel
theorem de_Y_930 : decode code 930 = .ok (.lshl, 1) := by decide +kernel
theorem de_Y_931 : decode code 931 = .ok (.aload_n 0, 1) := by decide +kernel
theorem de_Y_932 : decode code 932 = .ok (.iload 4, 2) := by decide +kernel
theorem de_Y_934 : decode code 934 = .ok (.iconst 4, 1) := by decide +kernel
theorem de_Y_935 : decode code 935 = .ok (.iadd, 1) := by decide +kernel
theorem de_Y_936 : decode code 936 = .ok (.iaload, 1) := by decide +kernel
theorem de_Y_937 : decode code 937 = .ok (.i2l, 1) := by decide +kernel
theorem de_Y_938 : decode code 938 = .ok (.ldc2_w 64, 3) := by decide +kernel
theorem de_Y_941 : decode code 941 = .ok (.land, 1) := by decide +kernel
theorem de_Y_942 : decode code 942 = .ok (.lor, 1) := by decide +kernel
theorem de_Y_943 : decode code 943 = .ok (.invokevirtual 88, 3) := by decide +kernel
theorem de_Y_946 : decode code 946 = .ok (.aload_n 2, 1) := by decide +kernel
theorem de_Y_947 : decode code 947 = .ok (.aload_n 0, 1) := by decide +kernel
theorem de_Y_948 : decode code 948 = .ok (.iload 4, 2) := by decide +kernel
theorem de_Y_950 : decode code 950 = .ok (.iconst 1, 1) := by decide +kernel
theorem de_Y_951 : decode code 951 = .ok (.iadd, 1) := by decide +kernel
theorem de_Y_952 : decode code 952 = .ok (.iaload, 1) := by decide +kernel
theorem de_Y_953 : decode code 953 = .ok (.i2l, 1) := by decide +kernel
theorem de_Y_954 : decode code 954 = .ok (.bipush 32, 2) := by decide +kernel
theorem de_Y_956 : decode code 956 = .ok (.lshl, 1) := by decide +kernel
theorem de_Y_957 : decode code 957 = .ok (.aload_n 0, 1) := by decide +kernel
theorem de_Y_958 : decode code 958 = .ok (.iload 4, 2) := by decide +kernel
theorem de_Y_960 : decode code 960 = .ok (.iconst 2, 1) := by decide +kernel
theorem de_Y_961 : decode code 961 = .ok (.iadd, 1) := by decide +kernel
theorem de_Y_962 : decode code 962 = .ok (.iaload, 1) := by decide +kernel
theorem de_Y_963 : decode code 963 = .ok (.i2l, 1) := by decide +kernel
theorem de_Y_964 : decode code 964 = .ok (.ldc2_w 64, 3) := by decide +kernel
theorem de_Y_967 : decode code 967 = .ok (.land, 1) := by decide +kernel
theorem de_Y_968 : decode code 968 = .ok (.lor, 1) := by decide +kernel
theorem de_Y_969 : decode code 969 = .ok (.aload_n 0, 1) := by decide +kernel
theorem de_Y_970 : decode code 970 = .ok (.iload 4, 2) := by decide +kernel
theorem de_Y_972 : decode code 972 = .ok (.iconst 3, 1) := by decide +kernel
theorem de_Y_973 : decode code 973 = .ok (.iadd, 1) := by decide +kernel
theorem de_Y_974 : decode code 974 = .ok (.iaload, 1) := by decide +kernel
theorem de_Y_975 : decode code 975 = .ok (.i2l, 1) := by decide +kernel
theorem de_Y_976 : decode code 976 = .ok (.bipush 32, 2) := by decide +kernel
theorem de_Y_978 : decode code 978 = .ok (.lshl, 1) := by decide +kernel
theorem de_Y_979 : decode code 979 = .ok (.aload_n 0, 1) := by decide +kernel
theorem de_Y_980 : decode code 980 = .ok (.iload 4, 2) := by decide +kernel
theorem de_Y_982 : decode code 982 = .ok (.iconst 4, 1) := by decide +kernel
theorem de_Y_983 : decode code 983 = .ok (.iadd, 1) := by decide +kernel
theorem de_Y_984 : decode code 984 = .ok (.iaload, 1) := by decide +kernel
theorem de_Y_985 : decode code 985 = .ok (.i2l, 1) := by decide +kernel
theorem de_Y_986 : decode code 986 = .ok (.ldc2_w 64, 3) := by decide +kernel
theorem de_Y_989 : decode code 989 = .ok (.land, 1) := by decide +kernel
theorem de_Y_990 : decode code 990 = .ok (.lor, 1) := by decide +kernel
theorem de_Y_991 : decode code 991 = .ok (.invokevirtual 92, 3) := by decide +kernel
theorem de_Y_994 : decode code 994 = .ok (.if_icmp .eq 742, 3) := by decide +kernel
theorem de_Y_997 : decode code 997 = .ok (.iconst 0, 1) := by decide +kernel
theorem de_Y_998 : decode code 998 = .ok (.ireturn, 1) := by decide +kernel
theorem de_Y_999 : decode code 999 = .ok (.aload_n 1, 1) := by decide +kernel
theorem de_Y_1000 : decode code 1000 = .ok (.aload_n 0, 1) := by decide +kernel
theorem de_Y_1001 : decode code 1001 = .ok (.iload 4, 2) := by decide +kernel
theorem de_Y_1003 : decode code 1003 = .ok (.iconst 1, 1) := by decide +kernel
theorem de_Y_1004 : decode code 1004 = .ok (.iadd, 1) := by decide +kernel
theorem de_Y_1005 : decode code 1005 = .ok (.iaload, 1) := by decide +kernel
theorem de_Y_1006 : decode code 1006 = .ok (.aload_n 0, 1) := by decide +kernel
theorem de_Y_1007 : decode code 1007 = .ok (.iload 4, 2) := by decide +kernel
theorem de_Y_1009 : decode code 1009 = .ok (.iconst 2, 1) := by decide +kernel
theorem de_Y_1010 : decode code 1010 = .ok (.iadd, 1) := by decide +kernel
theorem de_Y_1011 : decode code 1011 = .ok (.iaload, 1) := by decide +kernel
theorem de_Y_1012 : decode code 1012 = .ok (.aload_n 3, 1) := by decide +kernel
theorem de_Y_1013 : decode code 1013 = .ok (.invokestatic 93, 3) := by decide +kernel
theorem de_Y_1016 : decode code 1016 = .ok (.istore 5, 2) := by decide +kernel
theorem de_Y_1018 : decode code 1018 = .ok (.aload_n 2, 1) := by decide +kernel
theorem de_Y_1019 : decode code 1019 = .ok (.aload_n 0, 1) := by decide +kernel
theorem de_Y_1020 : decode code 1020 = .ok (.iload 4, 2) := by decide +kernel
theorem de_Y_1022 : decode code 1022 = .ok (.iconst 1, 1) := by decide +kernel
theorem de_Y_1023 : decode code 1023 = .ok (.iadd, 1) := by decide +kernel
theorem de_Y_1024 : decode code 1024 = .ok (.iaload, 1) := by decide +kernel
theorem de_Y_1025 : decode code 1025 = .ok (.aload_n 0, 1) := by decide +kernel
theorem de_Y_1026 : decode code 1026 = .ok (.iload 4, 2) := by decide +kernel
theorem de_Y_1028 : decode code 1028 = .ok (.iconst 2, 1) := by decide +kernel
theorem de_Y_1029 : decode code 1029 = .ok (.iadd, 1) := by decide +kernel
theorem de_Y_1030 : decode code 1030 = .ok (.iaload, 1) := by decide +kernel
theorem de_Y_1031 : decode code 1031 = .ok (.invokevirtual 96, 3) := by decide +kernel
theorem de_Y_1034 : decode code 1034 = .ok (.lstore 6, 2) := by decide +kernel
theorem de_Y_1036 : decode code 1036 = .ok (.aload_n 2, 1) := by decide +kernel
theorem de_Y_1037 : decode code 1037 = .ok (.invokevirtual 72, 3) := by decide +kernel
theorem de_Y_1040 : decode code 1040 = .ok (.iload 5, 2) := by decide +kernel
theorem de_Y_1042 : decode code 1042 = .ok (.if_icmp .eq 5, 3) := by decide +kernel
theorem de_Y_1045 : decode code 1045 = .ok (.iconst 0, 1) := by decide +kernel
theorem de_Y_1046 : decode code 1046 = .ok (.ireturn, 1) := by decide +kernel
theorem de_Y_1047 : decode code 1047 = .ok (.iload 5, 2) := by decide +kernel
theorem de_Y_1049 : decode code 1049 = .ok (.ifCond .ne 14, 3) := by decide +kernel
theorem de_Y_1052 : decode code 1052 = .ok (.aload_n 3, 1) := by decide +kernel
theorem de_Y_1053 : decode code 1053 = .ok (.iconst 0, 1) := by decide +kernel
theorem de_Y_1054 : decode code 1054 = .ok (.laload, 1) := by decide +kernel
theorem de_Y_1055 : decode code 1055 = .ok (.lload 6, 2) := by decide +kernel
theorem de_Y_1057 : decode code 1057 = .ok (.lcmp, 1) := by decide +kernel
theorem de_Y_1058 : decode code 1058 = .ok (.ifCond .eq 5, 3) := by decide +kernel
theorem de_Y_1061 : decode code 1061 = .ok (.iconst 0, 1) := by decide +kernel
theorem de_Y_1062 : decode code 1062 = .ok (.ireturn, 1) := by decide +kernel
theorem de_Y_1063 : decode code 1063 = .ok (.goto 673, 3) := by decide +kernel
theorem de_Y_1066 : decode code 1066 = .ok (.aload_n 1, 1) := by decide +kernel
theorem de_Y_1067 : decode code 1067 = .ok (.aload_n 0, 1) := by decide +kernel
theorem de_Y_1068 : decode code 1068 = .ok (.iload 4, 2) := by decide +kernel
theorem de_Y_1070 : decode code 1070 = .ok (.iconst 1, 1) := by decide +kernel
theorem de_Y_1071 : decode code 1071 = .ok (.iadd, 1) := by decide +kernel
theorem de_Y_1072 : decode code 1072 = .ok (.iaload, 1) := by decide +kernel
theorem de_Y_1073 : decode code 1073 = .ok (.i2l, 1) := by decide +kernel
theorem de_Y_1074 : decode code 1074 = .ok (.bipush 32, 2) := by decide +kernel
theorem de_Y_1076 : decode code 1076 = .ok (.lshl, 1) := by decide +kernel
theorem de_Y_1077 : decode code 1077 = .ok (.aload_n 0, 1) := by decide +kernel
theorem de_Y_1078 : decode code 1078 = .ok (.iload 4, 2) := by decide +kernel
theorem de_Y_1080 : decode code 1080 = .ok (.iconst 2, 1) := by decide +kernel
theorem de_Y_1081 : decode code 1081 = .ok (.iadd, 1) := by decide +kernel
theorem de_Y_1082 : decode code 1082 = .ok (.iaload, 1) := by decide +kernel
theorem de_Y_1083 : decode code 1083 = .ok (.i2l, 1) := by decide +kernel
theorem de_Y_1084 : decode code 1084 = .ok (.ldc2_w 64, 3) := by decide +kernel
theorem de_Y_1087 : decode code 1087 = .ok (.land, 1) := by decide +kernel
theorem de_Y_1088 : decode code 1088 = .ok (.lor, 1) := by decide +kernel
theorem de_Y_1089 : decode code 1089 = .ok (.aload_n 3, 1) := by decide +kernel
theorem de_Y_1090 : decode code 1090 = .ok (.invokestatic 97, 3) := by decide +kernel
theorem de_Y_1093 : decode code 1093 = .ok (.istore 5, 2) := by decide +kernel
theorem de_Y_1095 : decode code 1095 = .ok (.aload_n 2, 1) := by decide +kernel
theorem de_Y_1096 : decode code 1096 = .ok (.aload_n 0, 1) := by decide +kernel
theorem de_Y_1097 : decode code 1097 = .ok (.iload 4, 2) := by decide +kernel
theorem de_Y_1099 : decode code 1099 = .ok (.iconst 1, 1) := by decide +kernel
theorem de_Y_1100 : decode code 1100 = .ok (.iadd, 1) := by decide +kernel
theorem de_Y_1101 : decode code 1101 = .ok (.iaload, 1) := by decide +kernel
theorem de_Y_1102 : decode code 1102 = .ok (.i2l, 1) := by decide +kernel
theorem de_Y_1103 : decode code 1103 = .ok (.bipush 32, 2) := by decide +kernel
theorem de_Y_1105 : decode code 1105 = .ok (.lshl, 1) := by decide +kernel
theorem de_Y_1106 : decode code 1106 = .ok (.aload_n 0, 1) := by decide +kernel
theorem de_Y_1107 : decode code 1107 = .ok (.iload 4, 2) := by decide +kernel
theorem de_Y_1109 : decode code 1109 = .ok (.iconst 2, 1) := by decide +kernel
theorem de_Y_1110 : decode code 1110 = .ok (.iadd, 1) := by decide +kernel
theorem de_Y_1111 : decode code 1111 = .ok (.iaload, 1) := by decide +kernel
theorem de_Y_1112 : decode code 1112 = .ok (.i2l, 1) := by decide +kernel
theorem de_Y_1113 : decode code 1113 = .ok (.ldc2_w 64, 3) := by decide +kernel
theorem de_Y_1116 : decode code 1116 = .ok (.land, 1) := by decide +kernel
theorem de_Y_1117 : decode code 1117 = .ok (.lor, 1) := by decide +kernel
theorem de_Y_1118 : decode code 1118 = .ok (.invokevirtual 100, 3) := by decide +kernel
theorem de_Y_1121 : decode code 1121 = .ok (.lstore 6, 2) := by decide +kernel
theorem de_Y_1123 : decode code 1123 = .ok (.aload_n 2, 1) := by decide +kernel
theorem de_Y_1124 : decode code 1124 = .ok (.invokevirtual 72, 3) := by decide +kernel
theorem de_Y_1127 : decode code 1127 = .ok (.iload 5, 2) := by decide +kernel
theorem de_Y_1129 : decode code 1129 = .ok (.if_icmp .eq 5, 3) := by decide +kernel
theorem de_Y_1132 : decode code 1132 = .ok (.iconst 0, 1) := by decide +kernel
theorem de_Y_1133 : decode code 1133 = .ok (.ireturn, 1) := by decide +kernel
theorem de_Y_1134 : decode code 1134 = .ok (.iload 5, 2) := by decide +kernel
theorem de_Y_1136 : decode code 1136 = .ok (.ifCond .ne 14, 3) := by decide +kernel
theorem de_Y_1139 : decode code 1139 = .ok (.aload_n 3, 1) := by decide +kernel
theorem de_Y_1140 : decode code 1140 = .ok (.iconst 0, 1) := by decide +kernel
theorem de_Y_1141 : decode code 1141 = .ok (.laload, 1) := by decide +kernel
theorem de_Y_1142 : decode code 1142 = .ok (.lload 6, 2) := by decide +kernel
theorem de_Y_1144 : decode code 1144 = .ok (.lcmp, 1) := by decide +kernel
theorem de_Y_1145 : decode code 1145 = .ok (.ifCond .eq 5, 3) := by decide +kernel
theorem de_Y_1148 : decode code 1148 = .ok (.iconst 0, 1) := by decide +kernel
theorem de_Y_1149 : decode code 1149 = .ok (.ireturn, 1) := by decide +kernel
theorem de_Y_1150 : decode code 1150 = .ok (.goto 586, 3) := by decide +kernel
theorem de_Y_1153 : decode code 1153 = .ok (.aload_n 1, 1) := by decide +kernel
theorem de_Y_1154 : decode code 1154 = .ok (.aload_n 0, 1) := by decide +kernel
theorem de_Y_1155 : decode code 1155 = .ok (.iload 4, 2) := by decide +kernel
theorem de_Y_1157 : decode code 1157 = .ok (.iconst 1, 1) := by decide +kernel
theorem de_Y_1158 : decode code 1158 = .ok (.iadd, 1) := by decide +kernel
theorem de_Y_1159 : decode code 1159 = .ok (.iaload, 1) := by decide +kernel
theorem de_Y_1160 : decode code 1160 = .ok (.i2l, 1) := by decide +kernel
theorem de_Y_1161 : decode code 1161 = .ok (.bipush 32, 2) := by decide +kernel
theorem de_Y_1163 : decode code 1163 = .ok (.lshl, 1) := by decide +kernel
theorem de_Y_1164 : decode code 1164 = .ok (.aload_n 0, 1) := by decide +kernel
theorem de_Y_1165 : decode code 1165 = .ok (.iload 4, 2) := by decide +kernel
theorem de_Y_1167 : decode code 1167 = .ok (.iconst 2, 1) := by decide +kernel
