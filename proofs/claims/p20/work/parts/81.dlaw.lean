theorem dW_642 : decode code 642 = .ok (.iload 4, 2) := by decide +kernel
theorem dW_644 : decode code 644 = .ok (.iconst 1, 1) := by decide +kernel
theorem dW_645 : decode code 645 = .ok (.iadd, 1) := by decide +kernel
theorem dW_646 : decode code 646 = .ok (.iaload, 1) := by decide +kernel
theorem dW_647 : decode code 647 = .ok (.aload_n 0, 1) := by decide +kernel
theorem dW_648 : decode code 648 = .ok (.iload 4, 2) := by decide +kernel
theorem dW_650 : decode code 650 = .ok (.iconst 2, 1) := by decide +kernel
theorem dW_651 : decode code 651 = .ok (.iadd, 1) := by decide +kernel
theorem dW_652 : decode code 652 = .ok (.iaload, 1) := by decide +kernel
theorem dW_653 : decode code 653 = .ok (.ifCond .eq 7, 3) := by decide +kernel
theorem dW_656 : decode code 656 = .ok (.iconst 1, 1) := by decide +kernel
theorem dW_657 : decode code 657 = .ok (.goto 4, 3) := by decide +kernel
theorem dW_660 : decode code 660 = .ok (.iconst 0, 1) := by decide +kernel
theorem dW_661 : decode code 661 = .ok (.aload_n 3, 1) := by decide +kernel
theorem dW_662 : decode code 662 = .ok (.invokestatic 196, 3) := by decide +kernel
theorem dW_665 : decode code 665 = .ok (.istore 5, 2) := by decide +kernel
theorem dW_667 : decode code 667 = .ok (.aload_n 2, 1) := by decide +kernel
theorem dW_668 : decode code 668 = .ok (.aload_n 0, 1) := by decide +kernel
theorem dW_669 : decode code 669 = .ok (.iload 4, 2) := by decide +kernel
theorem dW_671 : decode code 671 = .ok (.iconst 1, 1) := by decide +kernel
theorem dW_672 : decode code 672 = .ok (.iadd, 1) := by decide +kernel
theorem dW_673 : decode code 673 = .ok (.iaload, 1) := by decide +kernel
theorem dW_674 : decode code 674 = .ok (.aload_n 0, 1) := by decide +kernel
theorem dW_675 : decode code 675 = .ok (.iload 4, 2) := by decide +kernel
theorem dW_677 : decode code 677 = .ok (.iconst 2, 1) := by decide +kernel
theorem dW_678 : decode code 678 = .ok (.iadd, 1) := by decide +kernel
theorem dW_679 : decode code 679 = .ok (.iaload, 1) := by decide +kernel
theorem dW_680 : decode code 680 = .ok (.ifCond .eq 7, 3) := by decide +kernel
theorem dW_683 : decode code 683 = .ok (.iconst 1, 1) := by decide +kernel
theorem dW_684 : decode code 684 = .ok (.goto 4, 3) := by decide +kernel
theorem dW_687 : decode code 687 = .ok (.iconst 0, 1) := by decide +kernel
theorem dW_688 : decode code 688 = .ok (.invokevirtual 198, 3) := by decide +kernel
theorem dW_691 : decode code 691 = .ok (.istore 6, 2) := by decide +kernel
theorem dW_693 : decode code 693 = .ok (.goto 1634, 3) := by decide +kernel
theorem dW_696 : decode code 696 = .ok (.aload_n 1, 1) := by decide +kernel
theorem dW_697 : decode code 697 = .ok (.aload_n 0, 1) := by decide +kernel
theorem dW_698 : decode code 698 = .ok (.iload 4, 2) := by decide +kernel
theorem dW_700 : decode code 700 = .ok (.iconst 1, 1) := by decide +kernel
theorem dW_701 : decode code 701 = .ok (.iadd, 1) := by decide +kernel
theorem dW_702 : decode code 702 = .ok (.iaload, 1) := by decide +kernel
theorem dW_703 : decode code 703 = .ok (.aload_n 3, 1) := by decide +kernel
theorem dW_704 : decode code 704 = .ok (.invokestatic 199, 3) := by decide +kernel
theorem dW_707 : decode code 707 = .ok (.istore 5, 2) := by decide +kernel
theorem dW_709 : decode code 709 = .ok (.aload_n 2, 1) := by decide +kernel
theorem dW_710 : decode code 710 = .ok (.aload_n 0, 1) := by decide +kernel
theorem dW_711 : decode code 711 = .ok (.iload 4, 2) := by decide +kernel
theorem dW_713 : decode code 713 = .ok (.iconst 1, 1) := by decide +kernel
theorem dW_714 : decode code 714 = .ok (.iadd, 1) := by decide +kernel
theorem dW_715 : decode code 715 = .ok (.iaload, 1) := by decide +kernel
theorem dW_716 : decode code 716 = .ok (.invokevirtual 202, 3) := by decide +kernel
theorem dW_719 : decode code 719 = .ok (.istore 6, 2) := by decide +kernel
theorem dW_721 : decode code 721 = .ok (.goto 1606, 3) := by decide +kernel
theorem dW_724 : decode code 724 = .ok (.aload_n 1, 1) := by decide +kernel
theorem dW_725 : decode code 725 = .ok (.aload_n 0, 1) := by decide +kernel
theorem dW_726 : decode code 726 = .ok (.iload 4, 2) := by decide +kernel
theorem dW_728 : decode code 728 = .ok (.iconst 1, 1) := by decide +kernel
theorem dW_729 : decode code 729 = .ok (.iadd, 1) := by decide +kernel
theorem dW_730 : decode code 730 = .ok (.iaload, 1) := by decide +kernel
theorem dW_731 : decode code 731 = .ok (.aload_n 0, 1) := by decide +kernel
theorem dW_732 : decode code 732 = .ok (.iload 4, 2) := by decide +kernel
theorem dW_734 : decode code 734 = .ok (.iconst 2, 1) := by decide +kernel
theorem dW_735 : decode code 735 = .ok (.iadd, 1) := by decide +kernel
theorem dW_736 : decode code 736 = .ok (.iaload, 1) := by decide +kernel
theorem dW_737 : decode code 737 = .ok (.ifCond .eq 7, 3) := by decide +kernel
theorem dW_740 : decode code 740 = .ok (.iconst 1, 1) := by decide +kernel
theorem dW_741 : decode code 741 = .ok (.goto 4, 3) := by decide +kernel
theorem dW_744 : decode code 744 = .ok (.iconst 0, 1) := by decide +kernel
theorem dW_745 : decode code 745 = .ok (.aload_n 3, 1) := by decide +kernel
theorem dW_746 : decode code 746 = .ok (.invokestatic 203, 3) := by decide +kernel
theorem dW_749 : decode code 749 = .ok (.istore 5, 2) := by decide +kernel
theorem dW_751 : decode code 751 = .ok (.aload_n 2, 1) := by decide +kernel
theorem dW_752 : decode code 752 = .ok (.aload_n 0, 1) := by decide +kernel
theorem dW_753 : decode code 753 = .ok (.iload 4, 2) := by decide +kernel
theorem dW_755 : decode code 755 = .ok (.iconst 1, 1) := by decide +kernel
theorem dW_756 : decode code 756 = .ok (.iadd, 1) := by decide +kernel
theorem dW_757 : decode code 757 = .ok (.iaload, 1) := by decide +kernel
theorem dW_758 : decode code 758 = .ok (.aload_n 0, 1) := by decide +kernel
theorem dW_759 : decode code 759 = .ok (.iload 4, 2) := by decide +kernel
theorem dW_761 : decode code 761 = .ok (.iconst 2, 1) := by decide +kernel
theorem dW_762 : decode code 762 = .ok (.iadd, 1) := by decide +kernel
theorem dW_763 : decode code 763 = .ok (.iaload, 1) := by decide +kernel
theorem dW_764 : decode code 764 = .ok (.ifCond .eq 7, 3) := by decide +kernel
theorem dW_767 : decode code 767 = .ok (.iconst 1, 1) := by decide +kernel
theorem dW_768 : decode code 768 = .ok (.goto 4, 3) := by decide +kernel
theorem dW_771 : decode code 771 = .ok (.iconst 0, 1) := by decide +kernel
theorem dW_772 : decode code 772 = .ok (.invokevirtual 205, 3) := by decide +kernel
theorem dW_775 : decode code 775 = .ok (.istore 6, 2) := by decide +kernel
theorem dW_777 : decode code 777 = .ok (.goto 1550, 3) := by decide +kernel
theorem dW_780 : decode code 780 = .ok (.aload_n 1, 1) := by decide +kernel
theorem dW_781 : decode code 781 = .ok (.aload_n 0, 1) := by decide +kernel
theorem dW_782 : decode code 782 = .ok (.iload 4, 2) := by decide +kernel
theorem dW_784 : decode code 784 = .ok (.iconst 1, 1) := by decide +kernel
theorem dW_785 : decode code 785 = .ok (.iadd, 1) := by decide +kernel
theorem dW_786 : decode code 786 = .ok (.iaload, 1) := by decide +kernel
theorem dW_787 : decode code 787 = .ok (.aload_n 0, 1) := by decide +kernel
theorem dW_788 : decode code 788 = .ok (.iload 4, 2) := by decide +kernel
theorem dW_790 : decode code 790 = .ok (.iconst 2, 1) := by decide +kernel
theorem dW_791 : decode code 791 = .ok (.iadd, 1) := by decide +kernel
theorem dW_792 : decode code 792 = .ok (.iaload, 1) := by decide +kernel
theorem dW_793 : decode code 793 = .ok (.aload_n 3, 1) := by decide +kernel
theorem dW_794 : decode code 794 = .ok (.invokestatic 206, 3) := by decide +kernel
theorem dW_797 : decode code 797 = .ok (.istore 5, 2) := by decide +kernel
theorem dW_799 : decode code 799 = .ok (.aload_n 2, 1) := by decide +kernel
theorem dW_800 : decode code 800 = .ok (.aload_n 0, 1) := by decide +kernel
theorem dW_801 : decode code 801 = .ok (.iload 4, 2) := by decide +kernel
theorem dW_803 : decode code 803 = .ok (.iconst 1, 1) := by decide +kernel
theorem dW_804 : decode code 804 = .ok (.iadd, 1) := by decide +kernel
theorem dW_805 : decode code 805 = .ok (.iaload, 1) := by decide +kernel
theorem dW_806 : decode code 806 = .ok (.aload_n 0, 1) := by decide +kernel
theorem dW_807 : decode code 807 = .ok (.iload 4, 2) := by decide +kernel
theorem dW_809 : decode code 809 = .ok (.iconst 2, 1) := by decide +kernel
theorem dW_810 : decode code 810 = .ok (.iadd, 1) := by decide +kernel
theorem dW_811 : decode code 811 = .ok (.iaload, 1) := by decide +kernel
theorem dW_812 : decode code 812 = .ok (.invokevirtual 209, 3) := by decide +kernel
theorem dW_815 : decode code 815 = .ok (.istore 6, 2) := by decide +kernel
theorem dW_817 : decode code 817 = .ok (.goto 1510, 3) := by decide +kernel
theorem dW_820 : decode code 820 = .ok (.aload_n 1, 1) := by decide +kernel
theorem dW_821 : decode code 821 = .ok (.invokevirtual 210, 3) := by decide +kernel
theorem dW_824 : decode code 824 = .ok (.pop, 1) := by decide +kernel
theorem dW_825 : decode code 825 = .ok (.aload_n 2, 1) := by decide +kernel
theorem dW_826 : decode code 826 = .ok (.invokevirtual 213, 3) := by decide +kernel
theorem dW_829 : decode code 829 = .ok (.pop, 1) := by decide +kernel
theorem dW_830 : decode code 830 = .ok (.goto 1497, 3) := by decide +kernel
theorem dW_833 : decode code 833 = .ok (.aload_n 1, 1) := by decide +kernel
theorem dW_834 : decode code 834 = .ok (.aload_n 0, 1) := by decide +kernel
theorem dW_835 : decode code 835 = .ok (.iload 4, 2) := by decide +kernel
theorem dW_837 : decode code 837 = .ok (.iconst 1, 1) := by decide +kernel
theorem dW_838 : decode code 838 = .ok (.iadd, 1) := by decide +kernel
theorem dW_839 : decode code 839 = .ok (.iaload, 1) := by decide +kernel
theorem dW_840 : decode code 840 = .ok (.aload_n 0, 1) := by decide +kernel
theorem dW_841 : decode code 841 = .ok (.iload 4, 2) := by decide +kernel
theorem dW_843 : decode code 843 = .ok (.iconst 2, 1) := by decide +kernel
theorem dW_844 : decode code 844 = .ok (.iadd, 1) := by decide +kernel
theorem dW_845 : decode code 845 = .ok (.iaload, 1) := by decide +kernel
theorem dW_846 : decode code 846 = .ok (.aload_n 0, 1) := by decide +kernel
theorem dW_847 : decode code 847 = .ok (.iload 4, 2) := by decide +kernel
theorem dW_849 : decode code 849 = .ok (.iconst 3, 1) := by decide +kernel
theorem dW_850 : decode code 850 = .ok (.iadd, 1) := by decide +kernel
theorem dW_851 : decode code 851 = .ok (.iaload, 1) := by decide +kernel
theorem dW_852 : decode code 852 = .ok (.ifCond .eq 7, 3) := by decide +kernel
theorem dW_855 : decode code 855 = .ok (.iconst 1, 1) := by decide +kernel
theorem dW_856 : decode code 856 = .ok (.goto 4, 3) := by decide +kernel
theorem dW_859 : decode code 859 = .ok (.iconst 0, 1) := by decide +kernel
theorem dW_860 : decode code 860 = .ok (.aload_n 3, 1) := by decide +kernel
theorem dW_861 : decode code 861 = .ok (.invokestatic 214, 3) := by decide +kernel
theorem dW_864 : decode code 864 = .ok (.istore 5, 2) := by decide +kernel
theorem dW_866 : decode code 866 = .ok (.aload_n 2, 1) := by decide +kernel
theorem dW_867 : decode code 867 = .ok (.aload_n 0, 1) := by decide +kernel
theorem dW_868 : decode code 868 = .ok (.iload 4, 2) := by decide +kernel
theorem dW_870 : decode code 870 = .ok (.iconst 1, 1) := by decide +kernel
theorem dW_871 : decode code 871 = .ok (.iadd, 1) := by decide +kernel
theorem dW_872 : decode code 872 = .ok (.iaload, 1) := by decide +kernel
theorem dW_873 : decode code 873 = .ok (.aload_n 0, 1) := by decide +kernel
theorem dW_874 : decode code 874 = .ok (.iload 4, 2) := by decide +kernel
theorem dW_876 : decode code 876 = .ok (.iconst 2, 1) := by decide +kernel
theorem dW_877 : decode code 877 = .ok (.iadd, 1) := by decide +kernel
theorem dW_878 : decode code 878 = .ok (.iaload, 1) := by decide +kernel
theorem dW_879 : decode code 879 = .ok (.aload_n 0, 1) := by decide +kernel
theorem dW_880 : decode code 880 = .ok (.iload 4, 2) := by decide +kernel
theorem dW_882 : decode code 882 = .ok (.iconst 3, 1) := by decide +kernel
theorem dW_883 : decode code 883 = .ok (.iadd, 1) := by decide +kernel
theorem dW_884 : decode code 884 = .ok (.iaload, 1) := by decide +kernel
theorem dW_885 : decode code 885 = .ok (.ifCond .eq 7, 3) := by decide +kernel
theorem dW_888 : decode code 888 = .ok (.iconst 1, 1) := by decide +kernel
theorem dW_889 : decode code 889 = .ok (.goto 4, 3) := by decide +kernel
theorem dW_892 : decode code 892 = .ok (.iconst 0, 1) := by decide +kernel
theorem dW_893 : decode code 893 = .ok (.invokevirtual 217, 3) := by decide +kernel
theorem dW_896 : decode code 896 = .ok (.istore 6, 2) := by decide +kernel
theorem dW_898 : decode code 898 = .ok (.goto 1429, 3) := by decide +kernel
theorem dW_901 : decode code 901 = .ok (.aload_n 1, 1) := by decide +kernel
theorem dW_902 : decode code 902 = .ok (.aload_n 0, 1) := by decide +kernel
theorem dW_903 : decode code 903 = .ok (.iload 4, 2) := by decide +kernel
theorem dW_905 : decode code 905 = .ok (.iconst 1, 1) := by decide +kernel
theorem dW_906 : decode code 906 = .ok (.iadd, 1) := by decide +kernel
theorem dW_907 : decode code 907 = .ok (.iaload, 1) := by decide +kernel
theorem dW_908 : decode code 908 = .ok (.aload_n 0, 1) := by decide +kernel
theorem dW_909 : decode code 909 = .ok (.iload 4, 2) := by decide +kernel
theorem dW_911 : decode code 911 = .ok (.iconst 2, 1) := by decide +kernel
theorem dW_912 : decode code 912 = .ok (.iadd, 1) := by decide +kernel
theorem dW_913 : decode code 913 = .ok (.iaload, 1) := by decide +kernel
theorem dW_914 : decode code 914 = .ok (.aload_n 3, 1) := by decide +kernel
theorem dW_915 : decode code 915 = .ok (.invokestatic 218, 3) := by decide +kernel
theorem dW_918 : decode code 918 = .ok (.istore 5, 2) := by decide +kernel
theorem dW_920 : decode code 920 = .ok (.aload_n 2, 1) := by decide +kernel
theorem dW_921 : decode code 921 = .ok (.aload_n 0, 1) := by decide +kernel
theorem dW_922 : decode code 922 = .ok (.iload 4, 2) := by decide +kernel
theorem dW_924 : decode code 924 = .ok (.iconst 1, 1) := by decide +kernel
theorem dW_925 : decode code 925 = .ok (.iadd, 1) := by decide +kernel
theorem dW_926 : decode code 926 = .ok (.iaload, 1) := by decide +kernel
theorem dW_927 : decode code 927 = .ok (.aload_n 0, 1) := by decide +kernel
theorem dW_928 : decode code 928 = .ok (.iload 4, 2) := by decide +kernel
theorem dW_930 : decode code 930 = .ok (.iconst 2, 1) := by decide +kernel
theorem dW_931 : decode code 931 = .ok (.iadd, 1) := by decide +kernel
theorem dW_932 : decode code 932 = .ok (.iaload, 1) := by decide +kernel
theorem dW_933 : decode code 933 = .ok (.invokevirtual 220, 3) := by decide +kernel
theorem dW_936 : decode code 936 = .ok (.istore 6, 2) := by decide +kernel
theorem dW_938 : decode code 938 = .ok (.goto 1389, 3) := by decide +kernel
theorem dW_941 : decode code 941 = .ok (.aload_n 1, 1) := by decide +kernel
theorem dW_942 : decode code 942 = .ok (.aload_n 0, 1) := by decide +kernel
theorem dW_943 : decode code 943 = .ok (.iload 4, 2) := by decide +kernel
theorem dW_945 : decode code 945 = .ok (.iconst 1, 1) := by decide +kernel
theorem dW_946 : decode code 946 = .ok (.iadd, 1) := by decide +kernel
theorem dW_947 : decode code 947 = .ok (.iaload, 1) := by decide +kernel
theorem dW_948 : decode code 948 = .ok (.aload_n 0, 1) := by decide +kernel
theorem dW_949 : decode code 949 = .ok (.iload 4, 2) := by decide +kernel
theorem dW_951 : decode code 951 = .ok (.iconst 2, 1) := by decide +kernel
theorem dW_952 : decode code 952 = .ok (.iadd, 1) := by decide +kernel
theorem dW_953 : decode code 953 = .ok (.iaload, 1) := by decide +kernel
theorem dW_954 : decode code 954 = .ok (.ifCond .eq 7, 3) := by decide +kernel
theorem dW_957 : decode code 957 = .ok (.iconst 1, 1) := by decide +kernel
theorem dW_958 : decode code 958 = .ok (.goto 4, 3) := by decide +kernel
theorem dW_961 : decode code 961 = .ok (.iconst 0, 1) := by decide +kernel
theorem dW_962 : decode code 962 = .ok (.aload_n 0, 1) := by decide +kernel
theorem dW_963 : decode code 963 = .ok (.iload 4, 2) := by decide +kernel
theorem dW_965 : decode code 965 = .ok (.iconst 3, 1) := by decide +kernel
theorem dW_966 : decode code 966 = .ok (.iadd, 1) := by decide +kernel
theorem dW_967 : decode code 967 = .ok (.iaload, 1) := by decide +kernel
theorem dW_968 : decode code 968 = .ok (.aload_n 0, 1) := by decide +kernel
theorem dW_969 : decode code 969 = .ok (.iload 4, 2) := by decide +kernel
theorem dW_971 : decode code 971 = .ok (.iconst 4, 1) := by decide +kernel
theorem dW_972 : decode code 972 = .ok (.iadd, 1) := by decide +kernel
theorem dW_973 : decode code 973 = .ok (.iaload, 1) := by decide +kernel
theorem dW_974 : decode code 974 = .ok (.aload_n 3, 1) := by decide +kernel
theorem dW_975 : decode code 975 = .ok (.invokestatic 221, 3) := by decide +kernel
theorem dW_978 : decode code 978 = .ok (.istore 5, 2) := by decide +kernel
theorem dW_980 : decode code 980 = .ok (.aload_n 2, 1) := by decide +kernel
theorem dW_981 : decode code 981 = .ok (.aload_n 0, 1) := by decide +kernel
theorem dW_982 : decode code 982 = .ok (.iload 4, 2) := by decide +kernel
theorem dW_984 : decode code 984 = .ok (.iconst 1, 1) := by decide +kernel
theorem dW_985 : decode code 985 = .ok (.iadd, 1) := by decide +kernel
theorem dW_986 : decode code 986 = .ok (.iaload, 1) := by decide +kernel
theorem dW_987 : decode code 987 = .ok (.aload_n 0, 1) := by decide +kernel
theorem dW_988 : decode code 988 = .ok (.iload 4, 2) := by decide +kernel
theorem dW_990 : decode code 990 = .ok (.iconst 2, 1) := by decide +kernel
theorem dW_991 : decode code 991 = .ok (.iadd, 1) := by decide +kernel
theorem dW_992 : decode code 992 = .ok (.iaload, 1) := by decide +kernel
theorem dW_993 : decode code 993 = .ok (.ifCond .eq 7, 3) := by decide +kernel
theorem dW_996 : decode code 996 = .ok (.iconst 1, 1) := by decide +kernel
theorem dW_997 : decode code 997 = .ok (.goto 4, 3) := by decide +kernel
theorem dW_1000 : decode code 1000 = .ok (.iconst 0, 1) := by decide +kernel
theorem dW_1001 : decode code 1001 = .ok (.aload_n 0, 1) := by decide +kernel
theorem dW_1002 : decode code 1002 = .ok (.iload 4, 2) := by decide +kernel
theorem dW_1004 : decode code 1004 = .ok (.iconst 3, 1) := by decide +kernel
theorem dW_1005 : decode code 1005 = .ok (.iadd, 1) := by decide +kernel
theorem dW_1006 : decode code 1006 = .ok (.iaload, 1) := by decide +kernel
theorem dW_1007 : decode code 1007 = .ok (.aload_n 0, 1) := by decide +kernel
theorem dW_1008 : decode code 1008 = .ok (.iload 4, 2) := by decide +kernel
theorem dW_1010 : decode code 1010 = .ok (.iconst 4, 1) := by decide +kernel
theorem dW_1011 : decode code 1011 = .ok (.iadd, 1) := by decide +kernel
theorem dW_1012 : decode code 1012 = .ok (.iaload, 1) := by decide +kernel
theorem dW_1013 : decode code 1013 = .ok (.invokevirtual 223, 3) := by decide +kernel
theorem dW_1016 : decode code 1016 = .ok (.istore 6, 2) := by decide +kernel
theorem dW_1018 : decode code 1018 = .ok (.goto 1309, 3) := by decide +kernel
theorem dW_1021 : decode code 1021 = .ok (.aload_n 1, 1) := by decide +kernel
theorem dW_1022 : decode code 1022 = .ok (.aload_n 0, 1) := by decide +kernel
theorem dW_1023 : decode code 1023 = .ok (.iload 4, 2) := by decide +kernel
theorem dW_1025 : decode code 1025 = .ok (.iconst 1, 1) := by decide +kernel
theorem dW_1026 : decode code 1026 = .ok (.iadd, 1) := by decide +kernel
theorem dW_1027 : decode code 1027 = .ok (.iaload, 1) := by decide +kernel
theorem dW_1028 : decode code 1028 = .ok (.aload_n 0, 1) := by decide +kernel
theorem dW_1029 : decode code 1029 = .ok (.iload 4, 2) := by decide +kernel
theorem dW_1031 : decode code 1031 = .ok (.iconst 2, 1) := by decide +kernel
theorem dW_1032 : decode code 1032 = .ok (.iadd, 1) := by decide +kernel
theorem dW_1033 : decode code 1033 = .ok (.iaload, 1) := by decide +kernel
theorem dW_1034 : decode code 1034 = .ok (.ifCond .eq 7, 3) := by decide +kernel
theorem dW_1037 : decode code 1037 = .ok (.iconst 1, 1) := by decide +kernel
theorem dW_1038 : decode code 1038 = .ok (.goto 4, 3) := by decide +kernel
theorem dW_1041 : decode code 1041 = .ok (.iconst 0, 1) := by decide +kernel
theorem dW_1042 : decode code 1042 = .ok (.aload_n 0, 1) := by decide +kernel
theorem dW_1043 : decode code 1043 = .ok (.iload 4, 2) := by decide +kernel
theorem dW_1045 : decode code 1045 = .ok (.iconst 3, 1) := by decide +kernel
theorem dW_1046 : decode code 1046 = .ok (.iadd, 1) := by decide +kernel
theorem dW_1047 : decode code 1047 = .ok (.iaload, 1) := by decide +kernel
theorem dW_1048 : decode code 1048 = .ok (.aload_n 3, 1) := by decide +kernel
theorem dW_1049 : decode code 1049 = .ok (.invokestatic 224, 3) := by decide +kernel
theorem dW_1052 : decode code 1052 = .ok (.istore 5, 2) := by decide +kernel
theorem dW_1054 : decode code 1054 = .ok (.aload_n 2, 1) := by decide +kernel
theorem dW_1055 : decode code 1055 = .ok (.aload_n 0, 1) := by decide +kernel
theorem dW_1056 : decode code 1056 = .ok (.iload 4, 2) := by decide +kernel
theorem dW_1058 : decode code 1058 = .ok (.iconst 1, 1) := by decide +kernel
theorem dW_1059 : decode code 1059 = .ok (.iadd, 1) := by decide +kernel
theorem dW_1060 : decode code 1060 = .ok (.iaload, 1) := by decide +kernel
theorem dW_1061 : decode code 1061 = .ok (.aload_n 0, 1) := by decide +kernel
theorem dW_1062 : decode code 1062 = .ok (.iload 4, 2) := by decide +kernel
theorem dW_1064 : decode code 1064 = .ok (.iconst 2, 1) := by decide +kernel
theorem dW_1065 : decode code 1065 = .ok (.iadd, 1) := by decide +kernel
theorem dW_1066 : decode code 1066 = .ok (.iaload, 1) := by decide +kernel
theorem dW_1067 : decode code 1067 = .ok (.ifCond .eq 7, 3) := by decide +kernel
theorem dW_1070 : decode code 1070 = .ok (.iconst 1, 1) := by decide +kernel
theorem dW_1071 : decode code 1071 = .ok (.goto 4, 3) := by decide +kernel
theorem dW_1074 : decode code 1074 = .ok (.iconst 0, 1) := by decide +kernel
theorem dW_1075 : decode code 1075 = .ok (.aload_n 0, 1) := by decide +kernel
theorem dW_1076 : decode code 1076 = .ok (.iload 4, 2) := by decide +kernel
theorem dW_1078 : decode code 1078 = .ok (.iconst 3, 1) := by decide +kernel
theorem dW_1079 : decode code 1079 = .ok (.iadd, 1) := by decide +kernel
theorem dW_1080 : decode code 1080 = .ok (.iaload, 1) := by decide +kernel
theorem dW_1081 : decode code 1081 = .ok (.invokevirtual 227, 3) := by decide +kernel
theorem dW_1084 : decode code 1084 = .ok (.istore 6, 2) := by decide +kernel
theorem dW_1086 : decode code 1086 = .ok (.goto 1241, 3) := by decide +kernel
theorem dW_1089 : decode code 1089 = .ok (.aload_n 1, 1) := by decide +kernel
