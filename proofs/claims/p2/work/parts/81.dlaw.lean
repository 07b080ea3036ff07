theorem dW_645 : decode code 645 = .ok (.iadd, 1) := by decide +kernel
theorem dW_646 : decode code 646 = .ok (.iaload, 1) := by decide +kernel
theorem dW_647 : decode code 647 = .ok (.aload_n 0, 1) := by decide +kernel
theorem dW_648 : decode code 648 = .ok (.iload 4, 2) := by decide +kernel
theorem dW_650 : decode code 650 = .ok (.iconst 2, 1) := by decide +kernel
theorem dW_651 : decode code 651 = .ok (.iadd, 1) := by decide +kernel
theorem dW_652 : decode code 652 = .ok (.iaload, 1) := by decide +kernel
theorem dW_653 : decode code 653 = .ok (.ifCond .eq 7, 3) := by decide +kernel
theorem dW_656 : decode code 656 = .ok (.iconst 1, 1) := by decide +kernel
theorem dW_657 : decode code 657 = .ok (.goto 4, 3) := by decide +kernel
theorem dW_660 : decode code 660 = .ok (.iconst 0, 1) := by decide +kernel
theorem dW_661 : decode code 661 = .ok (.invokevirtual 198, 3) := by decide +kernel
theorem dW_664 : decode code 664 = .ok (.istore 6, 2) := by decide +kernel
theorem dW_666 : decode code 666 = .ok (.goto 1690, 3) := by decide +kernel
theorem dW_669 : decode code 669 = .ok (.aload_n 1, 1) := by decide +kernel
theorem dW_670 : decode code 670 = .ok (.aload_n 0, 1) := by decide +kernel
theorem dW_671 : decode code 671 = .ok (.iload 4, 2) := by decide +kernel
theorem dW_673 : decode code 673 = .ok (.iconst 1, 1) := by decide +kernel
theorem dW_674 : decode code 674 = .ok (.iadd, 1) := by decide +kernel
theorem dW_675 : decode code 675 = .ok (.iaload, 1) := by decide +kernel
theorem dW_676 : decode code 676 = .ok (.aload_n 0, 1) := by decide +kernel
theorem dW_677 : decode code 677 = .ok (.iload 4, 2) := by decide +kernel
theorem dW_679 : decode code 679 = .ok (.iconst 2, 1) := by decide +kernel
theorem dW_680 : decode code 680 = .ok (.iadd, 1) := by decide +kernel
theorem dW_681 : decode code 681 = .ok (.iaload, 1) := by decide +kernel
theorem dW_682 : decode code 682 = .ok (.ifCond .eq 7, 3) := by decide +kernel
theorem dW_685 : decode code 685 = .ok (.iconst 1, 1) := by decide +kernel
theorem dW_686 : decode code 686 = .ok (.goto 4, 3) := by decide +kernel
theorem dW_689 : decode code 689 = .ok (.iconst 0, 1) := by decide +kernel
theorem dW_690 : decode code 690 = .ok (.aload_n 3, 1) := by decide +kernel
theorem dW_691 : decode code 691 = .ok (.invokestatic 199, 3) := by decide +kernel
theorem dW_694 : decode code 694 = .ok (.istore 5, 2) := by decide +kernel
theorem dW_696 : decode code 696 = .ok (.aload_n 2, 1) := by decide +kernel
theorem dW_697 : decode code 697 = .ok (.aload_n 0, 1) := by decide +kernel
theorem dW_698 : decode code 698 = .ok (.iload 4, 2) := by decide +kernel
theorem dW_700 : decode code 700 = .ok (.iconst 1, 1) := by decide +kernel
theorem dW_701 : decode code 701 = .ok (.iadd, 1) := by decide +kernel
theorem dW_702 : decode code 702 = .ok (.iaload, 1) := by decide +kernel
theorem dW_703 : decode code 703 = .ok (.aload_n 0, 1) := by decide +kernel
theorem dW_704 : decode code 704 = .ok (.iload 4, 2) := by decide +kernel
theorem dW_706 : decode code 706 = .ok (.iconst 2, 1) := by decide +kernel
theorem dW_707 : decode code 707 = .ok (.iadd, 1) := by decide +kernel
theorem dW_708 : decode code 708 = .ok (.iaload, 1) := by decide +kernel
theorem dW_709 : decode code 709 = .ok (.ifCond .eq 7, 3) := by decide +kernel
theorem dW_712 : decode code 712 = .ok (.iconst 1, 1) := by decide +kernel
theorem dW_713 : decode code 713 = .ok (.goto 4, 3) := by decide +kernel
theorem dW_716 : decode code 716 = .ok (.iconst 0, 1) := by decide +kernel
theorem dW_717 : decode code 717 = .ok (.invokevirtual 201, 3) := by decide +kernel
theorem dW_720 : decode code 720 = .ok (.istore 6, 2) := by decide +kernel
theorem dW_722 : decode code 722 = .ok (.goto 1634, 3) := by decide +kernel
theorem dW_725 : decode code 725 = .ok (.aload_n 1, 1) := by decide +kernel
theorem dW_726 : decode code 726 = .ok (.aload_n 0, 1) := by decide +kernel
theorem dW_727 : decode code 727 = .ok (.iload 4, 2) := by decide +kernel
theorem dW_729 : decode code 729 = .ok (.iconst 1, 1) := by decide +kernel
theorem dW_730 : decode code 730 = .ok (.iadd, 1) := by decide +kernel
theorem dW_731 : decode code 731 = .ok (.iaload, 1) := by decide +kernel
theorem dW_732 : decode code 732 = .ok (.aload_n 3, 1) := by decide +kernel
theorem dW_733 : decode code 733 = .ok (.invokestatic 202, 3) := by decide +kernel
theorem dW_736 : decode code 736 = .ok (.istore 5, 2) := by decide +kernel
theorem dW_738 : decode code 738 = .ok (.aload_n 2, 1) := by decide +kernel
theorem dW_739 : decode code 739 = .ok (.aload_n 0, 1) := by decide +kernel
theorem dW_740 : decode code 740 = .ok (.iload 4, 2) := by decide +kernel
theorem dW_742 : decode code 742 = .ok (.iconst 1, 1) := by decide +kernel
theorem dW_743 : decode code 743 = .ok (.iadd, 1) := by decide +kernel
theorem dW_744 : decode code 744 = .ok (.iaload, 1) := by decide +kernel
theorem dW_745 : decode code 745 = .ok (.invokevirtual 205, 3) := by decide +kernel
theorem dW_748 : decode code 748 = .ok (.istore 6, 2) := by decide +kernel
theorem dW_750 : decode code 750 = .ok (.goto 1606, 3) := by decide +kernel
theorem dW_753 : decode code 753 = .ok (.aload_n 1, 1) := by decide +kernel
theorem dW_754 : decode code 754 = .ok (.aload_n 0, 1) := by decide +kernel
theorem dW_755 : decode code 755 = .ok (.iload 4, 2) := by decide +kernel
theorem dW_757 : decode code 757 = .ok (.iconst 1, 1) := by decide +kernel
theorem dW_758 : decode code 758 = .ok (.iadd, 1) := by decide +kernel
theorem dW_759 : decode code 759 = .ok (.iaload, 1) := by decide +kernel
theorem dW_760 : decode code 760 = .ok (.aload_n 0, 1) := by decide +kernel
theorem dW_761 : decode code 761 = .ok (.iload 4, 2) := by decide +kernel
theorem dW_763 : decode code 763 = .ok (.iconst 2, 1) := by decide +kernel
theorem dW_764 : decode code 764 = .ok (.iadd, 1) := by decide +kernel
theorem dW_765 : decode code 765 = .ok (.iaload, 1) := by decide +kernel
theorem dW_766 : decode code 766 = .ok (.ifCond .eq 7, 3) := by decide +kernel
theorem dW_769 : decode code 769 = .ok (.iconst 1, 1) := by decide +kernel
theorem dW_770 : decode code 770 = .ok (.goto 4, 3) := by decide +kernel
theorem dW_773 : decode code 773 = .ok (.iconst 0, 1) := by decide +kernel
theorem dW_774 : decode code 774 = .ok (.aload_n 3, 1) := by decide +kernel
theorem dW_775 : decode code 775 = .ok (.invokestatic 206, 3) := by decide +kernel
theorem dW_778 : decode code 778 = .ok (.istore 5, 2) := by decide +kernel
theorem dW_780 : decode code 780 = .ok (.aload_n 2, 1) := by decide +kernel
theorem dW_781 : decode code 781 = .ok (.aload_n 0, 1) := by decide +kernel
theorem dW_782 : decode code 782 = .ok (.iload 4, 2) := by decide +kernel
theorem dW_784 : decode code 784 = .ok (.iconst 1, 1) := by decide +kernel
theorem dW_785 : decode code 785 = .ok (.iadd, 1) := by decide +kernel
theorem dW_786 : decode code 786 = .ok (.iaload, 1) := by decide +kernel
theorem dW_787 : decode code 787 = .ok (.aload_n 0, 1) := by decide +kernel
theorem dW_788 : decode code 788 = .ok (.iload 4, 2) := by decide +kernel
theorem dW_790 : decode code 790 = .ok (.iconst 2, 1) := by decide +kernel
theorem dW_791 : decode code 791 = .ok (.iadd, 1) := by decide +kernel
theorem dW_792 : decode code 792 = .ok (.iaload, 1) := by decide +kernel
theorem dW_793 : decode code 793 = .ok (.ifCond .eq 7, 3) := by decide +kernel
theorem dW_796 : decode code 796 = .ok (.iconst 1, 1) := by decide +kernel
theorem dW_797 : decode code 797 = .ok (.goto 4, 3) := by decide +kernel
theorem dW_800 : decode code 800 = .ok (.iconst 0, 1) := by decide +kernel
theorem dW_801 : decode code 801 = .ok (.invokevirtual 208, 3) := by decide +kernel
theorem dW_804 : decode code 804 = .ok (.istore 6, 2) := by decide +kernel
theorem dW_806 : decode code 806 = .ok (.goto 1550, 3) := by decide +kernel
theorem dW_809 : decode code 809 = .ok (.aload_n 1, 1) := by decide +kernel
theorem dW_810 : decode code 810 = .ok (.aload_n 0, 1) := by decide +kernel
theorem dW_811 : decode code 811 = .ok (.iload 4, 2) := by decide +kernel
theorem dW_813 : decode code 813 = .ok (.iconst 1, 1) := by decide +kernel
theorem dW_814 : decode code 814 = .ok (.iadd, 1) := by decide +kernel
theorem dW_815 : decode code 815 = .ok (.iaload, 1) := by decide +kernel
theorem dW_816 : decode code 816 = .ok (.aload_n 0, 1) := by decide +kernel
theorem dW_817 : decode code 817 = .ok (.iload 4, 2) := by decide +kernel
theorem dW_819 : decode code 819 = .ok (.iconst 2, 1) := by decide +kernel
theorem dW_820 : decode code 820 = .ok (.iadd, 1) := by decide +kernel
theorem dW_821 : decode code 821 = .ok (.iaload, 1) := by decide +kernel
theorem dW_822 : decode code 822 = .ok (.aload_n 3, 1) := by decide +kernel
theorem dW_823 : decode code 823 = .ok (.invokestatic 209, 3) := by decide +kernel
theorem dW_826 : decode code 826 = .ok (.istore 5, 2) := by decide +kernel
theorem dW_828 : decode code 828 = .ok (.aload_n 2, 1) := by decide +kernel
theorem dW_829 : decode code 829 = .ok (.aload_n 0, 1) := by decide +kernel
theorem dW_830 : decode code 830 = .ok (.iload 4, 2) := by decide +kernel
theorem dW_832 : decode code 832 = .ok (.iconst 1, 1) := by decide +kernel
theorem dW_833 : decode code 833 = .ok (.iadd, 1) := by decide +kernel
theorem dW_834 : decode code 834 = .ok (.iaload, 1) := by decide +kernel
theorem dW_835 : decode code 835 = .ok (.aload_n 0, 1) := by decide +kernel
theorem dW_836 : decode code 836 = .ok (.iload 4, 2) := by decide +kernel
theorem dW_838 : decode code 838 = .ok (.iconst 2, 1) := by decide +kernel
theorem dW_839 : decode code 839 = .ok (.iadd, 1) := by decide +kernel
theorem dW_840 : decode code 840 = .ok (.iaload, 1) := by decide +kernel
theorem dW_841 : decode code 841 = .ok (.invokevirtual 212, 3) := by decide +kernel
theorem dW_844 : decode code 844 = .ok (.istore 6, 2) := by decide +kernel
theorem dW_846 : decode code 846 = .ok (.goto 1510, 3) := by decide +kernel
theorem dW_849 : decode code 849 = .ok (.aload_n 1, 1) := by decide +kernel
theorem dW_850 : decode code 850 = .ok (.invokevirtual 213, 3) := by decide +kernel
theorem dW_853 : decode code 853 = .ok (.pop, 1) := by decide +kernel
theorem dW_854 : decode code 854 = .ok (.aload_n 2, 1) := by decide +kernel
theorem dW_855 : decode code 855 = .ok (.invokevirtual 216, 3) := by decide +kernel
theorem dW_858 : decode code 858 = .ok (.pop, 1) := by decide +kernel
theorem dW_859 : decode code 859 = .ok (.goto 1497, 3) := by decide +kernel
theorem dW_862 : decode code 862 = .ok (.aload_n 1, 1) := by decide +kernel
theorem dW_863 : decode code 863 = .ok (.aload_n 0, 1) := by decide +kernel
theorem dW_864 : decode code 864 = .ok (.iload 4, 2) := by decide +kernel
theorem dW_866 : decode code 866 = .ok (.iconst 1, 1) := by decide +kernel
theorem dW_867 : decode code 867 = .ok (.iadd, 1) := by decide +kernel
theorem dW_868 : decode code 868 = .ok (.iaload, 1) := by decide +kernel
theorem dW_869 : decode code 869 = .ok (.aload_n 0, 1) := by decide +kernel
theorem dW_870 : decode code 870 = .ok (.iload 4, 2) := by decide +kernel
theorem dW_872 : decode code 872 = .ok (.iconst 2, 1) := by decide +kernel
theorem dW_873 : decode code 873 = .ok (.iadd, 1) := by decide +kernel
theorem dW_874 : decode code 874 = .ok (.iaload, 1) := by decide +kernel
theorem dW_875 : decode code 875 = .ok (.aload_n 0, 1) := by decide +kernel
theorem dW_876 : decode code 876 = .ok (.iload 4, 2) := by decide +kernel
theorem dW_878 : decode code 878 = .ok (.iconst 3, 1) := by decide +kernel
theorem dW_879 : decode code 879 = .ok (.iadd, 1) := by decide +kernel
theorem dW_880 : decode code 880 = .ok (.iaload, 1) := by decide +kernel
theorem dW_881 : decode code 881 = .ok (.ifCond .eq 7, 3) := by decide +kernel
theorem dW_884 : decode code 884 = .ok (.iconst 1, 1) := by decide +kernel
theorem dW_885 : decode code 885 = .ok (.goto 4, 3) := by decide +kernel
theorem dW_888 : decode code 888 = .ok (.iconst 0, 1) := by decide +kernel
theorem dW_889 : decode code 889 = .ok (.aload_n 3, 1) := by decide +kernel
theorem dW_890 : decode code 890 = .ok (.invokestatic 217, 3) := by decide +kernel
theorem dW_893 : decode code 893 = .ok (.istore 5, 2) := by decide +kernel
theorem dW_895 : decode code 895 = .ok (.aload_n 2, 1) := by decide +kernel
theorem dW_896 : decode code 896 = .ok (.aload_n 0, 1) := by decide +kernel
theorem dW_897 : decode code 897 = .ok (.iload 4, 2) := by decide +kernel
theorem dW_899 : decode code 899 = .ok (.iconst 1, 1) := by decide +kernel
theorem dW_900 : decode code 900 = .ok (.iadd, 1) := by decide +kernel
theorem dW_901 : decode code 901 = .ok (.iaload, 1) := by decide +kernel
theorem dW_902 : decode code 902 = .ok (.aload_n 0, 1) := by decide +kernel
theorem dW_903 : decode code 903 = .ok (.iload 4, 2) := by decide +kernel
theorem dW_905 : decode code 905 = .ok (.iconst 2, 1) := by decide +kernel
theorem dW_906 : decode code 906 = .ok (.iadd, 1) := by decide +kernel
theorem dW_907 : decode code 907 = .ok (.iaload, 1) := by decide +kernel
theorem dW_908 : decode code 908 = .ok (.aload_n 0, 1) := by decide +kernel
theorem dW_909 : decode code 909 = .ok (.iload 4, 2) := by decide +kernel
theorem dW_911 : decode code 911 = .ok (.iconst 3, 1) := by decide +kernel
theorem dW_912 : decode code 912 = .ok (.iadd, 1) := by decide +kernel
theorem dW_913 : decode code 913 = .ok (.iaload, 1) := by decide +kernel
theorem dW_914 : decode code 914 = .ok (.ifCond .eq 7, 3) := by decide +kernel
theorem dW_917 : decode code 917 = .ok (.iconst 1, 1) := by decide +kernel
theorem dW_918 : decode code 918 = .ok (.goto 4, 3) := by decide +kernel
theorem dW_921 : decode code 921 = .ok (.iconst 0, 1) := by decide +kernel
theorem dW_922 : decode code 922 = .ok (.invokevirtual 220, 3) := by decide +kernel
theorem dW_925 : decode code 925 = .ok (.istore 6, 2) := by decide +kernel
theorem dW_927 : decode code 927 = .ok (.goto 1429, 3) := by decide +kernel
theorem dW_930 : decode code 930 = .ok (.aload_n 1, 1) := by decide +kernel
theorem dW_931 : decode code 931 = .ok (.aload_n 0, 1) := by decide +kernel
theorem dW_932 : decode code 932 = .ok (.iload 4, 2) := by decide +kernel
theorem dW_934 : decode code 934 = .ok (.iconst 1, 1) := by decide +kernel
theorem dW_935 : decode code 935 = .ok (.iadd, 1) := by decide +kernel
theorem dW_936 : decode code 936 = .ok (.iaload, 1) := by decide +kernel
theorem dW_937 : decode code 937 = .ok (.aload_n 0, 1) := by decide +kernel
theorem dW_938 : decode code 938 = .ok (.iload 4, 2) := by decide +kernel
theorem dW_940 : decode code 940 = .ok (.iconst 2, 1) := by decide +kernel
theorem dW_941 : decode code 941 = .ok (.iadd, 1) := by decide +kernel
theorem dW_942 : decode code 942 = .ok (.iaload, 1) := by decide +kernel
theorem dW_943 : decode code 943 = .ok (.aload_n 3, 1) := by decide +kernel
theorem dW_944 : decode code 944 = .ok (.invokestatic 221, 3) := by decide +kernel
theorem dW_947 : decode code 947 = .ok (.istore 5, 2) := by decide +kernel
theorem dW_949 : decode code 949 = .ok (.aload_n 2, 1) := by decide +kernel
theorem dW_950 : decode code 950 = .ok (.aload_n 0, 1) := by decide +kernel
theorem dW_951 : decode code 951 = .ok (.iload 4, 2) := by decide +kernel
theorem dW_953 : decode code 953 = .ok (.iconst 1, 1) := by decide +kernel
theorem dW_954 : decode code 954 = .ok (.iadd, 1) := by decide +kernel
theorem dW_955 : decode code 955 = .ok (.iaload, 1) := by decide +kernel
theorem dW_956 : decode code 956 = .ok (.aload_n 0, 1) := by decide +kernel
theorem dW_957 : decode code 957 = .ok (.iload 4, 2) := by decide +kernel
theorem dW_959 : decode code 959 = .ok (.iconst 2, 1) := by decide +kernel
theorem dW_960 : decode code 960 = .ok (.iadd, 1) := by decide +kernel
theorem dW_961 : decode code 961 = .ok (.iaload, 1) := by decide +kernel
theorem dW_962 : decode code 962 = .ok (.invokevirtual 223, 3) := by decide +kernel
theorem dW_965 : decode code 965 = .ok (.istore 6, 2) := by decide +kernel
theorem dW_967 : decode code 967 = .ok (.goto 1389, 3) := by decide +kernel
theorem dW_970 : decode code 970 = .ok (.aload_n 1, 1) := by decide +kernel
theorem dW_971 : decode code 971 = .ok (.aload_n 0, 1) := by decide +kernel
theorem dW_972 : decode code 972 = .ok (.iload 4, 2) := by decide +kernel
theorem dW_974 : decode code 974 = .ok (.iconst 1, 1) := by decide +kernel
theorem dW_975 : decode code 975 = .ok (.iadd, 1) := by decide +kernel
theorem dW_976 : decode code 976 = .ok (.iaload, 1) := by decide +kernel
theorem dW_977 : decode code 977 = .ok (.aload_n 0, 1) := by decide +kernel
theorem dW_978 : decode code 978 = .ok (.iload 4, 2) := by decide +kernel
theorem dW_980 : decode code 980 = .ok (.iconst 2, 1) := by decide +kernel
theorem dW_981 : decode code 981 = .ok (.iadd, 1) := by decide +kernel
theorem dW_982 : decode code 982 = .ok (.iaload, 1) := by decide +kernel
theorem dW_983 : decode code 983 = .ok (.ifCond .eq 7, 3) := by decide +kernel
theorem dW_986 : decode code 986 = .ok (.iconst 1, 1) := by decide +kernel
theorem dW_987 : decode code 987 = .ok (.goto 4, 3) := by decide +kernel
theorem dW_990 : decode code 990 = .ok (.iconst 0, 1) := by decide +kernel
theorem dW_991 : decode code 991 = .ok (.aload_n 0, 1) := by decide +kernel
theorem dW_992 : decode code 992 = .ok (.iload 4, 2) := by decide +kernel
theorem dW_994 : decode code 994 = .ok (.iconst 3, 1) := by decide +kernel
theorem dW_995 : decode code 995 = .ok (.iadd, 1) := by decide +kernel
theorem dW_996 : decode code 996 = .ok (.iaload, 1) := by decide +kernel
theorem dW_997 : decode code 997 = .ok (.aload_n 0, 1) := by decide +kernel
theorem dW_998 : decode code 998 = .ok (.iload 4, 2) := by decide +kernel
theorem dW_1000 : decode code 1000 = .ok (.iconst 4, 1) := by decide +kernel
theorem dW_1001 : decode code 1001 = .ok (.iadd, 1) := by decide +kernel
theorem dW_1002 : decode code 1002 = .ok (.iaload, 1) := by decide +kernel
theorem dW_1003 : decode code 1003 = .ok (.aload_n 3, 1) := by decide +kernel
theorem dW_1004 : decode code 1004 = .ok (.invokestatic 224, 3) := by decide +kernel
theorem dW_1007 : decode code 1007 = .ok (.istore 5, 2) := by decide +kernel
theorem dW_1009 : decode code 1009 = .ok (.aload_n 2, 1) := by decide +kernel
theorem dW_1010 : decode code 1010 = .ok (.aload_n 0, 1) := by decide +kernel
theorem dW_1011 : decode code 1011 = .ok (.iload 4, 2) := by decide +kernel
theorem dW_1013 : decode code 1013 = .ok (.iconst 1, 1) := by decide +kernel
theorem dW_1014 : decode code 1014 = .ok (.iadd, 1) := by decide +kernel
theorem dW_1015 : decode code 1015 = .ok (.iaload, 1) := by decide +kernel
theorem dW_1016 : decode code 1016 = .ok (.aload_n 0, 1) := by decide +kernel
theorem dW_1017 : decode code 1017 = .ok (.iload 4, 2) := by decide +kernel
theorem dW_1019 : decode code 1019 = .ok (.iconst 2, 1) := by decide +kernel
theorem dW_1020 : decode code 1020 = .ok (.iadd, 1) := by decide +kernel
theorem dW_1021 : decode code 1021 = .ok (.iaload, 1) := by decide +kernel
theorem dW_1022 : decode code 1022 = .ok (.ifCond .eq 7, 3) := by decide +kernel
theorem dW_1025 : decode code 1025 = .ok (.iconst 1, 1) := by decide +kernel
theorem dW_1026 : decode code 1026 = .ok (.goto 4, 3) := by decide +kernel
theorem dW_1029 : decode code 1029 = .ok (.iconst 0, 1) := by decide +kernel
theorem dW_1030 : decode code 1030 = .ok (.aload_n 0, 1) := by decide +kernel
theorem dW_1031 : decode code 1031 = .ok (.iload 4, 2) := by decide +kernel
theorem dW_1033 : decode code 1033 = .ok (.iconst 3, 1) := by decide +kernel
theorem dW_1034 : decode code 1034 = .ok (.iadd, 1) := by decide +kernel
theorem dW_1035 : decode code 1035 = .ok (.iaload, 1) := by decide +kernel
theorem dW_1036 : decode code 1036 = .ok (.aload_n 0, 1) := by decide +kernel
theorem dW_1037 : decode code 1037 = .ok (.iload 4, 2) := by decide +kernel
theorem dW_1039 : decode code 1039 = .ok (.iconst 4, 1) := by decide +kernel
theorem dW_1040 : decode code 1040 = .ok (.iadd, 1) := by decide +kernel
theorem dW_1041 : decode code 1041 = .ok (.iaload, 1) := by decide +kernel
theorem dW_1042 : decode code 1042 = .ok (.invokevirtual 226, 3) := by decide +kernel
theorem dW_1045 : decode code 1045 = .ok (.istore 6, 2) := by decide +kernel
theorem dW_1047 : decode code 1047 = .ok (.goto 1309, 3) := by decide +kernel
theorem dW_1050 : decode code 1050 = .ok (.aload_n 1, 1) := by decide +kernel
theorem dW_1051 : decode code 1051 = .ok (.aload_n 0, 1) := by decide +kernel
theorem dW_1052 : decode code 1052 = .ok (.iload 4, 2) := by decide +kernel
theorem dW_1054 : decode code 1054 = .ok (.iconst 1, 1) := by decide +kernel
theorem dW_1055 : decode code 1055 = .ok (.iadd, 1) := by decide +kernel
theorem dW_1056 : decode code 1056 = .ok (.iaload, 1) := by decide +kernel
theorem dW_1057 : decode code 1057 = .ok (.aload_n 0, 1) := by decide +kernel
theorem dW_1058 : decode code 1058 = .ok (.iload 4, 2) := by decide +kernel
theorem dW_1060 : decode code 1060 = .ok (.iconst 2, 1) := by decide +kernel
theorem dW_1061 : decode code 1061 = .ok (.iadd, 1) := by decide +kernel
theorem dW_1062 : decode code 1062 = .ok (.iaload, 1) := by decide +kernel
theorem dW_1063 : decode code 1063 = .ok (.ifCond .eq 7, 3) := by decide +kernel
theorem dW_1066 : decode code 1066 = .ok (.iconst 1, 1) := by decide +kernel
theorem dW_1067 : decode code 1067 = .ok (.goto 4, 3) := by decide +kernel
theorem dW_1070 : decode code 1070 = .ok (.iconst 0, 1) := by decide +kernel
theorem dW_1071 : decode code 1071 = .ok (.aload_n 0, 1) := by decide +kernel
theorem dW_1072 : decode code 1072 = .ok (.iload 4, 2) := by decide +kernel
theorem dW_1074 : decode code 1074 = .ok (.iconst 3, 1) := by decide +kernel
theorem dW_1075 : decode code 1075 = .ok (.iadd, 1) := by decide +kernel
theorem dW_1076 : decode code 1076 = .ok (.iaload, 1) := by decide +kernel
theorem dW_1077 : decode code 1077 = .ok (.aload_n 3, 1) := by decide +kernel
theorem dW_1078 : decode code 1078 = .ok (.invokestatic 227, 3) := by decide +kernel
theorem dW_1081 : decode code 1081 = .ok (.istore 5, 2) := by decide +kernel
theorem dW_1083 : decode code 1083 = .ok (.aload_n 2, 1) := by decide +kernel
theorem dW_1084 : decode code 1084 = .ok (.aload_n 0, 1) := by decide +kernel
theorem dW_1085 : decode code 1085 = .ok (.iload 4, 2) := by decide +kernel
theorem dW_1087 : decode code 1087 = .ok (.iconst 1, 1) := by decide +kernel
theorem dW_1088 : decode code 1088 = .ok (.iadd, 1) := by decide +kernel
theorem dW_1089 : decode code 1089 = .ok (.iaload, 1) := by decide +kernel
theorem dW_1090 : decode code 1090 = .ok (.aload_n 0, 1) := by decide +kernel
theorem dW_1091 : decode code 1091 = .ok (.iload 4, 2) := by decide +kernel
