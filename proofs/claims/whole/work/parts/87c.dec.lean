theorem dl_721 : decode code 721 = .ok (.iadd, 1) := by decide +kernel
theorem dl_722 : decode code 722 = .ok (.iaload, 1) := by decide +kernel
theorem dl_723 : decode code 723 = .ok (.aload_n 0, 1) := by decide +kernel
theorem dl_724 : decode code 724 = .ok (.iload_n 3, 1) := by decide +kernel
theorem dl_725 : decode code 725 = .ok (.iconst 4, 1) := by decide +kernel
theorem dl_726 : decode code 726 = .ok (.iadd, 1) := by decide +kernel
theorem dl_727 : decode code 727 = .ok (.iaload, 1) := by decide +kernel
theorem dl_728 : decode code 728 = .ok (.aload_n 0, 1) := by decide +kernel
theorem dl_729 : decode code 729 = .ok (.iload_n 3, 1) := by decide +kernel
theorem dl_730 : decode code 730 = .ok (.iconst 5, 1) := by decide +kernel
theorem dl_731 : decode code 731 = .ok (.iadd, 1) := by decide +kernel
theorem dl_732 : decode code 732 = .ok (.iaload, 1) := by decide +kernel
theorem dl_733 : decode code 733 = .ok (.aload_n 0, 1) := by decide +kernel
theorem dl_734 : decode code 734 = .ok (.iload_n 3, 1) := by decide +kernel
theorem dl_735 : decode code 735 = .ok (.bipush 6, 2) := by decide +kernel
theorem dl_737 : decode code 737 = .ok (.iadd, 1) := by decide +kernel
theorem dl_738 : decode code 738 = .ok (.iaload, 1) := by decide +kernel
theorem dl_739 : decode code 739 = .ok (.invokevirtual 76, 3) := by decide +kernel
theorem dl_742 : decode code 742 = .ok (.lcmp, 1) := by decide +kernel
theorem dl_743 : decode code 743 = .ok (.ifCond .eq (569), 3) := by decide +kernel
theorem dl_746 : decode code 746 = .ok (.iconst 0, 1) := by decide +kernel
theorem dl_747 : decode code 747 = .ok (.ireturn, 1) := by decide +kernel
theorem dl_748 : decode code 748 = .ok (.aload_n 1, 1) := by decide +kernel
theorem dl_749 : decode code 749 = .ok (.aload_n 0, 1) := by decide +kernel
theorem dl_750 : decode code 750 = .ok (.iload_n 3, 1) := by decide +kernel
theorem dl_751 : decode code 751 = .ok (.iconst 1, 1) := by decide +kernel
theorem dl_752 : decode code 752 = .ok (.iadd, 1) := by decide +kernel
theorem dl_753 : decode code 753 = .ok (.iaload, 1) := by decide +kernel
theorem dl_754 : decode code 754 = .ok (.aload_n 0, 1) := by decide +kernel
theorem dl_755 : decode code 755 = .ok (.iload_n 3, 1) := by decide +kernel
theorem dl_756 : decode code 756 = .ok (.iconst 2, 1) := by decide +kernel
theorem dl_757 : decode code 757 = .ok (.iadd, 1) := by decide +kernel
theorem dl_758 : decode code 758 = .ok (.iaload, 1) := by decide +kernel
theorem dl_759 : decode code 759 = .ok (.aload_n 0, 1) := by decide +kernel
theorem dl_760 : decode code 760 = .ok (.iload_n 3, 1) := by decide +kernel
theorem dl_761 : decode code 761 = .ok (.iconst 3, 1) := by decide +kernel
theorem dl_762 : decode code 762 = .ok (.iadd, 1) := by decide +kernel
theorem dl_763 : decode code 763 = .ok (.iaload, 1) := by decide +kernel
theorem dl_764 : decode code 764 = .ok (.aload_n 0, 1) := by decide +kernel
theorem dl_765 : decode code 765 = .ok (.iload_n 3, 1) := by decide +kernel
theorem dl_766 : decode code 766 = .ok (.iconst 4, 1) := by decide +kernel
theorem dl_767 : decode code 767 = .ok (.iadd, 1) := by decide +kernel
theorem dl_768 : decode code 768 = .ok (.iaload, 1) := by decide +kernel
theorem dl_769 : decode code 769 = .ok (.invokevirtual 77, 3) := by decide +kernel
theorem dl_772 : decode code 772 = .ok (.aload_n 2, 1) := by decide +kernel
theorem dl_773 : decode code 773 = .ok (.aload_n 0, 1) := by decide +kernel
theorem dl_774 : decode code 774 = .ok (.iload_n 3, 1) := by decide +kernel
theorem dl_775 : decode code 775 = .ok (.iconst 1, 1) := by decide +kernel
theorem dl_776 : decode code 776 = .ok (.iadd, 1) := by decide +kernel
theorem dl_777 : decode code 777 = .ok (.iaload, 1) := by decide +kernel
theorem dl_778 : decode code 778 = .ok (.aload_n 0, 1) := by decide +kernel
theorem dl_779 : decode code 779 = .ok (.iload_n 3, 1) := by decide +kernel
theorem dl_780 : decode code 780 = .ok (.iconst 2, 1) := by decide +kernel
theorem dl_781 : decode code 781 = .ok (.iadd, 1) := by decide +kernel
theorem dl_782 : decode code 782 = .ok (.iaload, 1) := by decide +kernel
theorem dl_783 : decode code 783 = .ok (.aload_n 0, 1) := by decide +kernel
theorem dl_784 : decode code 784 = .ok (.iload_n 3, 1) := by decide +kernel
theorem dl_785 : decode code 785 = .ok (.iconst 3, 1) := by decide +kernel
theorem dl_786 : decode code 786 = .ok (.iadd, 1) := by decide +kernel
theorem dl_787 : decode code 787 = .ok (.iaload, 1) := by decide +kernel
theorem dl_788 : decode code 788 = .ok (.aload_n 0, 1) := by decide +kernel
theorem dl_789 : decode code 789 = .ok (.iload_n 3, 1) := by decide +kernel
theorem dl_790 : decode code 790 = .ok (.iconst 4, 1) := by decide +kernel
theorem dl_791 : decode code 791 = .ok (.iadd, 1) := by decide +kernel
theorem dl_792 : decode code 792 = .ok (.iaload, 1) := by decide +kernel
theorem dl_793 : decode code 793 = .ok (.invokevirtual 80, 3) := by decide +kernel
theorem dl_796 : decode code 796 = .ok (.if_icmp .eq (516), 3) := by decide +kernel
theorem dl_799 : decode code 799 = .ok (.iconst 0, 1) := by decide +kernel
theorem dl_800 : decode code 800 = .ok (.ireturn, 1) := by decide +kernel
theorem dl_801 : decode code 801 = .ok (.aload_n 1, 1) := by decide +kernel
theorem dl_802 : decode code 802 = .ok (.aload_n 0, 1) := by decide +kernel
theorem dl_803 : decode code 803 = .ok (.iload_n 3, 1) := by decide +kernel
theorem dl_804 : decode code 804 = .ok (.iconst 1, 1) := by decide +kernel
theorem dl_805 : decode code 805 = .ok (.iadd, 1) := by decide +kernel
theorem dl_806 : decode code 806 = .ok (.iaload, 1) := by decide +kernel
theorem dl_807 : decode code 807 = .ok (.aload_n 0, 1) := by decide +kernel
theorem dl_808 : decode code 808 = .ok (.iload_n 3, 1) := by decide +kernel
theorem dl_809 : decode code 809 = .ok (.iconst 2, 1) := by decide +kernel
theorem dl_810 : decode code 810 = .ok (.iadd, 1) := by decide +kernel
theorem dl_811 : decode code 811 = .ok (.iaload, 1) := by decide +kernel
theorem dl_812 : decode code 812 = .ok (.aload_n 0, 1) := by decide +kernel
theorem dl_813 : decode code 813 = .ok (.iload_n 3, 1) := by decide +kernel
theorem dl_814 : decode code 814 = .ok (.iconst 3, 1) := by decide +kernel
theorem dl_815 : decode code 815 = .ok (.iadd, 1) := by decide +kernel
theorem dl_816 : decode code 816 = .ok (.iaload, 1) := by decide +kernel
theorem dl_817 : decode code 817 = .ok (.aload_n 0, 1) := by decide +kernel
theorem dl_818 : decode code 818 = .ok (.iload_n 3, 1) := by decide +kernel
theorem dl_819 : decode code 819 = .ok (.iconst 4, 1) := by decide +kernel
theorem dl_820 : decode code 820 = .ok (.iadd, 1) := by decide +kernel
theorem dl_821 : decode code 821 = .ok (.iaload, 1) := by decide +kernel
theorem dl_822 : decode code 822 = .ok (.invokevirtual 81, 3) := by decide +kernel
theorem dl_825 : decode code 825 = .ok (.aload_n 2, 1) := by decide +kernel
theorem dl_826 : decode code 826 = .ok (.aload_n 0, 1) := by decide +kernel
theorem dl_827 : decode code 827 = .ok (.iload_n 3, 1) := by decide +kernel
theorem dl_828 : decode code 828 = .ok (.iconst 1, 1) := by decide +kernel
theorem dl_829 : decode code 829 = .ok (.iadd, 1) := by decide +kernel
theorem dl_830 : decode code 830 = .ok (.iaload, 1) := by decide +kernel
theorem dl_831 : decode code 831 = .ok (.aload_n 0, 1) := by decide +kernel
theorem dl_832 : decode code 832 = .ok (.iload_n 3, 1) := by decide +kernel
theorem dl_833 : decode code 833 = .ok (.iconst 2, 1) := by decide +kernel
theorem dl_834 : decode code 834 = .ok (.iadd, 1) := by decide +kernel
theorem dl_835 : decode code 835 = .ok (.iaload, 1) := by decide +kernel
theorem dl_836 : decode code 836 = .ok (.aload_n 0, 1) := by decide +kernel
theorem dl_837 : decode code 837 = .ok (.iload_n 3, 1) := by decide +kernel
theorem dl_838 : decode code 838 = .ok (.iconst 3, 1) := by decide +kernel
theorem dl_839 : decode code 839 = .ok (.iadd, 1) := by decide +kernel
theorem dl_840 : decode code 840 = .ok (.iaload, 1) := by decide +kernel
theorem dl_841 : decode code 841 = .ok (.aload_n 0, 1) := by decide +kernel
theorem dl_842 : decode code 842 = .ok (.iload_n 3, 1) := by decide +kernel
theorem dl_843 : decode code 843 = .ok (.iconst 4, 1) := by decide +kernel
theorem dl_844 : decode code 844 = .ok (.iadd, 1) := by decide +kernel
theorem dl_845 : decode code 845 = .ok (.iaload, 1) := by decide +kernel
theorem dl_846 : decode code 846 = .ok (.invokevirtual 84, 3) := by decide +kernel
theorem dl_849 : decode code 849 = .ok (.lcmp, 1) := by decide +kernel
theorem dl_850 : decode code 850 = .ok (.ifCond .eq (462), 3) := by decide +kernel
theorem dl_853 : decode code 853 = .ok (.iconst 0, 1) := by decide +kernel
theorem dl_854 : decode code 854 = .ok (.ireturn, 1) := by decide +kernel
theorem dl_855 : decode code 855 = .ok (.aload_n 1, 1) := by decide +kernel
theorem dl_856 : decode code 856 = .ok (.aload_n 0, 1) := by decide +kernel
theorem dl_857 : decode code 857 = .ok (.iload_n 3, 1) := by decide +kernel
theorem dl_858 : decode code 858 = .ok (.iconst 1, 1) := by decide +kernel
theorem dl_859 : decode code 859 = .ok (.iadd, 1) := by decide +kernel
theorem dl_860 : decode code 860 = .ok (.iaload, 1) := by decide +kernel
theorem dl_861 : decode code 861 = .ok (.invokevirtual 85, 3) := by decide +kernel
theorem dl_864 : decode code 864 = .ok (.aload_n 2, 1) := by decide +kernel
theorem dl_865 : decode code 865 = .ok (.aload_n 0, 1) := by decide +kernel
theorem dl_866 : decode code 866 = .ok (.iload_n 3, 1) := by decide +kernel
theorem dl_867 : decode code 867 = .ok (.iconst 1, 1) := by decide +kernel
theorem dl_868 : decode code 868 = .ok (.iadd, 1) := by decide +kernel
theorem dl_869 : decode code 869 = .ok (.iaload, 1) := by decide +kernel
theorem dl_870 : decode code 870 = .ok (.invokevirtual 89, 3) := by decide +kernel
theorem dl_873 : decode code 873 = .ok (.if_icmp .eq (439), 3) := by decide +kernel
theorem dl_876 : decode code 876 = .ok (.iconst 0, 1) := by decide +kernel
theorem dl_877 : decode code 877 = .ok (.ireturn, 1) := by decide +kernel
theorem dl_878 : decode code 878 = .ok (.aload_n 1, 1) := by decide +kernel
theorem dl_879 : decode code 879 = .ok (.aload_n 0, 1) := by decide +kernel
theorem dl_880 : decode code 880 = .ok (.iload_n 3, 1) := by decide +kernel
theorem dl_881 : decode code 881 = .ok (.iconst 1, 1) := by decide +kernel
theorem dl_882 : decode code 882 = .ok (.iadd, 1) := by decide +kernel
theorem dl_883 : decode code 883 = .ok (.iaload, 1) := by decide +kernel
theorem dl_884 : decode code 884 = .ok (.invokevirtual 90, 3) := by decide +kernel
theorem dl_887 : decode code 887 = .ok (.aload_n 2, 1) := by decide +kernel
theorem dl_888 : decode code 888 = .ok (.aload_n 0, 1) := by decide +kernel
theorem dl_889 : decode code 889 = .ok (.iload_n 3, 1) := by decide +kernel
theorem dl_890 : decode code 890 = .ok (.iconst 1, 1) := by decide +kernel
theorem dl_891 : decode code 891 = .ok (.iadd, 1) := by decide +kernel
theorem dl_892 : decode code 892 = .ok (.iaload, 1) := by decide +kernel
theorem dl_893 : decode code 893 = .ok (.invokevirtual 94, 3) := by decide +kernel
theorem dl_896 : decode code 896 = .ok (.lcmp, 1) := by decide +kernel
theorem dl_897 : decode code 897 = .ok (.ifCond .eq (415), 3) := by decide +kernel
theorem dl_900 : decode code 900 = .ok (.iconst 0, 1) := by decide +kernel
theorem dl_901 : decode code 901 = .ok (.ireturn, 1) := by decide +kernel
theorem dl_902 : decode code 902 = .ok (.aload_n 1, 1) := by decide +kernel
theorem dl_903 : decode code 903 = .ok (.aload_n 0, 1) := by decide +kernel
theorem dl_904 : decode code 904 = .ok (.iload_n 3, 1) := by decide +kernel
theorem dl_905 : decode code 905 = .ok (.iconst 1, 1) := by decide +kernel
theorem dl_906 : decode code 906 = .ok (.iadd, 1) := by decide +kernel
theorem dl_907 : decode code 907 = .ok (.iaload, 1) := by decide +kernel
theorem dl_908 : decode code 908 = .ok (.aload_n 0, 1) := by decide +kernel
theorem dl_909 : decode code 909 = .ok (.iload_n 3, 1) := by decide +kernel
theorem dl_910 : decode code 910 = .ok (.iconst 2, 1) := by decide +kernel
theorem dl_911 : decode code 911 = .ok (.iadd, 1) := by decide +kernel
theorem dl_912 : decode code 912 = .ok (.iaload, 1) := by decide +kernel
theorem dl_913 : decode code 913 = .ok (.i2l, 1) := by decide +kernel
theorem dl_914 : decode code 914 = .ok (.bipush 32, 2) := by decide +kernel
theorem dl_916 : decode code 916 = .ok (.lshl, 1) := by decide +kernel
theorem dl_917 : decode code 917 = .ok (.aload_n 0, 1) := by decide +kernel
theorem dl_918 : decode code 918 = .ok (.iload_n 3, 1) := by decide +kernel
theorem dl_919 : decode code 919 = .ok (.iconst 3, 1) := by decide +kernel
theorem dl_920 : decode code 920 = .ok (.iadd, 1) := by decide +kernel
theorem dl_921 : decode code 921 = .ok (.iaload, 1) := by decide +kernel
theorem dl_922 : decode code 922 = .ok (.i2l, 1) := by decide +kernel
theorem dl_923 : decode code 923 = .ok (.ldc2_w 95, 3) := by decide +kernel
theorem dl_926 : decode code 926 = .ok (.land, 1) := by decide +kernel
theorem dl_927 : decode code 927 = .ok (.lor, 1) := by decide +kernel
theorem dl_928 : decode code 928 = .ok (.invokevirtual 97, 3) := by decide +kernel
theorem dl_931 : decode code 931 = .ok (.aload_n 2, 1) := by decide +kernel
theorem dl_932 : decode code 932 = .ok (.aload_n 0, 1) := by decide +kernel
theorem dl_933 : decode code 933 = .ok (.iload_n 3, 1) := by decide +kernel
theorem dl_934 : decode code 934 = .ok (.iconst 1, 1) := by decide +kernel
theorem dl_935 : decode code 935 = .ok (.iadd, 1) := by decide +kernel
theorem dl_936 : decode code 936 = .ok (.iaload, 1) := by decide +kernel
theorem dl_937 : decode code 937 = .ok (.aload_n 0, 1) := by decide +kernel
theorem dl_938 : decode code 938 = .ok (.iload_n 3, 1) := by decide +kernel
theorem dl_939 : decode code 939 = .ok (.iconst 2, 1) := by decide +kernel
theorem dl_940 : decode code 940 = .ok (.iadd, 1) := by decide +kernel
theorem dl_941 : decode code 941 = .ok (.iaload, 1) := by decide +kernel
theorem dl_942 : decode code 942 = .ok (.i2l, 1) := by decide +kernel
theorem dl_943 : decode code 943 = .ok (.bipush 32, 2) := by decide +kernel
theorem dl_945 : decode code 945 = .ok (.lshl, 1) := by decide +kernel
theorem dl_946 : decode code 946 = .ok (.aload_n 0, 1) := by decide +kernel
theorem dl_947 : decode code 947 = .ok (.iload_n 3, 1) := by decide +kernel
theorem dl_948 : decode code 948 = .ok (.iconst 3, 1) := by decide +kernel
theorem dl_949 : decode code 949 = .ok (.iadd, 1) := by decide +kernel
theorem dl_950 : decode code 950 = .ok (.iaload, 1) := by decide +kernel
theorem dl_951 : decode code 951 = .ok (.i2l, 1) := by decide +kernel
theorem dl_952 : decode code 952 = .ok (.ldc2_w 95, 3) := by decide +kernel
theorem dl_955 : decode code 955 = .ok (.land, 1) := by decide +kernel
theorem dl_956 : decode code 956 = .ok (.lor, 1) := by decide +kernel
theorem dl_957 : decode code 957 = .ok (.invokevirtual 101, 3) := by decide +kernel
theorem dl_960 : decode code 960 = .ok (.if_icmp .eq (352), 3) := by decide +kernel
theorem dl_963 : decode code 963 = .ok (.iconst 0, 1) := by decide +kernel
theorem dl_964 : decode code 964 = .ok (.ireturn, 1) := by decide +kernel
theorem dl_965 : decode code 965 = .ok (.aload_n 1, 1) := by decide +kernel
theorem dl_966 : decode code 966 = .ok (.aload_n 0, 1) := by decide +kernel
theorem dl_967 : decode code 967 = .ok (.iload_n 3, 1) := by decide +kernel
theorem dl_968 : decode code 968 = .ok (.iconst 1, 1) := by decide +kernel
theorem dl_969 : decode code 969 = .ok (.iadd, 1) := by decide +kernel
theorem dl_970 : decode code 970 = .ok (.iaload, 1) := by decide +kernel
theorem dl_971 : decode code 971 = .ok (.invokevirtual 102, 3) := by decide +kernel
theorem dl_974 : decode code 974 = .ok (.aload_n 2, 1) := by decide +kernel
theorem dl_975 : decode code 975 = .ok (.aload_n 0, 1) := by decide +kernel
theorem dl_976 : decode code 976 = .ok (.iload_n 3, 1) := by decide +kernel
theorem dl_977 : decode code 977 = .ok (.iconst 1, 1) := by decide +kernel
theorem dl_978 : decode code 978 = .ok (.iadd, 1) := by decide +kernel
theorem dl_979 : decode code 979 = .ok (.iaload, 1) := by decide +kernel
theorem dl_980 : decode code 980 = .ok (.invokevirtual 105, 3) := by decide +kernel
theorem dl_983 : decode code 983 = .ok (.if_icmp .eq (329), 3) := by decide +kernel
theorem dl_986 : decode code 986 = .ok (.iconst 0, 1) := by decide +kernel
theorem dl_987 : decode code 987 = .ok (.ireturn, 1) := by decide +kernel
theorem dl_988 : decode code 988 = .ok (.aload_n 1, 1) := by decide +kernel
theorem dl_989 : decode code 989 = .ok (.aload_n 0, 1) := by decide +kernel
theorem dl_990 : decode code 990 = .ok (.iload_n 3, 1) := by decide +kernel
theorem dl_991 : decode code 991 = .ok (.iconst 1, 1) := by decide +kernel
theorem dl_992 : decode code 992 = .ok (.iadd, 1) := by decide +kernel
theorem dl_993 : decode code 993 = .ok (.iaload, 1) := by decide +kernel
theorem dl_994 : decode code 994 = .ok (.aload_n 0, 1) := by decide +kernel
theorem dl_995 : decode code 995 = .ok (.iload_n 3, 1) := by decide +kernel
theorem dl_996 : decode code 996 = .ok (.iconst 2, 1) := by decide +kernel
theorem dl_997 : decode code 997 = .ok (.iadd, 1) := by decide +kernel
theorem dl_998 : decode code 998 = .ok (.iaload, 1) := by decide +kernel
theorem dl_999 : decode code 999 = .ok (.aload_n 0, 1) := by decide +kernel
theorem dl_1000 : decode code 1000 = .ok (.iload_n 3, 1) := by decide +kernel
theorem dl_1001 : decode code 1001 = .ok (.iconst 3, 1) := by decide +kernel
theorem dl_1002 : decode code 1002 = .ok (.iadd, 1) := by decide +kernel
theorem dl_1003 : decode code 1003 = .ok (.iaload, 1) := by decide +kernel
theorem dl_1004 : decode code 1004 = .ok (.invokevirtual 106, 3) := by decide +kernel
theorem dl_1007 : decode code 1007 = .ok (.aload_n 2, 1) := by decide +kernel
theorem dl_1008 : decode code 1008 = .ok (.aload_n 0, 1) := by decide +kernel
theorem dl_1009 : decode code 1009 = .ok (.iload_n 3, 1) := by decide +kernel
theorem dl_1010 : decode code 1010 = .ok (.iconst 1, 1) := by decide +kernel
theorem dl_1011 : decode code 1011 = .ok (.iadd, 1) := by decide +kernel
theorem dl_1012 : decode code 1012 = .ok (.iaload, 1) := by decide +kernel
theorem dl_1013 : decode code 1013 = .ok (.aload_n 0, 1) := by decide +kernel
theorem dl_1014 : decode code 1014 = .ok (.iload_n 3, 1) := by decide +kernel
theorem dl_1015 : decode code 1015 = .ok (.iconst 2, 1) := by decide +kernel
theorem dl_1016 : decode code 1016 = .ok (.iadd, 1) := by decide +kernel
theorem dl_1017 : decode code 1017 = .ok (.iaload, 1) := by decide +kernel
theorem dl_1018 : decode code 1018 = .ok (.aload_n 0, 1) := by decide +kernel
theorem dl_1019 : decode code 1019 = .ok (.iload_n 3, 1) := by decide +kernel
theorem dl_1020 : decode code 1020 = .ok (.iconst 3, 1) := by decide +kernel
