theorem d_lw_law_863 : decode code 863 = .ok (.aload_n 2, 1) := by decide +kernel
theorem d_lw_law_864 : decode code 864 = .ok (.aload_n 0, 1) := by decide +kernel
theorem d_lw_law_865 : decode code 865 = .ok (.iload 4, 2) := by decide +kernel
theorem d_lw_law_867 : decode code 867 = .ok (.iconst 1, 1) := by decide +kernel
theorem d_lw_law_868 : decode code 868 = .ok (.iadd, 1) := by decide +kernel
theorem d_lw_law_869 : decode code 869 = .ok (.iaload, 1) := by decide +kernel
theorem d_lw_law_870 : decode code 870 = .ok (.aload_n 0, 1) := by decide +kernel
theorem d_lw_law_871 : decode code 871 = .ok (.iload 4, 2) := by decide +kernel
theorem d_lw_law_873 : decode code 873 = .ok (.iconst 2, 1) := by decide +kernel
theorem d_lw_law_874 : decode code 874 = .ok (.iadd, 1) := by decide +kernel
theorem d_lw_law_875 : decode code 875 = .ok (.iaload, 1) := by decide +kernel
theorem d_lw_law_876 : decode code 876 = .ok (.invokevirtual 100, 3) := by decide +kernel
theorem d_lw_law_879 : decode code 879 = .ok (.istore 6, 2) := by decide +kernel
theorem d_lw_law_881 : decode code 881 = .ok (.aload_n 2, 1) := by decide +kernel
theorem d_lw_law_882 : decode code 882 = .ok (.invokevirtual 55, 3) := by decide +kernel
theorem d_lw_law_885 : decode code 885 = .ok (.iload 5, 2) := by decide +kernel
theorem d_lw_law_887 : decode code 887 = .ok (.if_icmp .eq 5, 3) := by decide +kernel
theorem d_lw_law_890 : decode code 890 = .ok (.iconst 0, 1) := by decide +kernel
theorem d_lw_law_891 : decode code 891 = .ok (.ireturn, 1) := by decide +kernel
theorem d_lw_law_892 : decode code 892 = .ok (.iload 5, 2) := by decide +kernel
theorem d_lw_law_894 : decode code 894 = .ok (.ifCond .ne 15, 3) := by decide +kernel
theorem d_lw_law_897 : decode code 897 = .ok (.aload_n 3, 1) := by decide +kernel
theorem d_lw_law_898 : decode code 898 = .ok (.iconst 0, 1) := by decide +kernel
theorem d_lw_law_899 : decode code 899 = .ok (.laload, 1) := by decide +kernel
theorem d_lw_law_900 : decode code 900 = .ok (.iload 6, 2) := by decide +kernel
theorem d_lw_law_902 : decode code 902 = .ok (.i2l, 1) := by decide +kernel
theorem d_lw_law_903 : decode code 903 = .ok (.lcmp, 1) := by decide +kernel
theorem d_lw_law_904 : decode code 904 = .ok (.ifCond .eq 5, 3) := by decide +kernel
theorem d_lw_law_907 : decode code 907 = .ok (.iconst 0, 1) := by decide +kernel
theorem d_lw_law_908 : decode code 908 = .ok (.ireturn, 1) := by decide +kernel
theorem d_lw_law_909 : decode code 909 = .ok (.goto 108, 3) := by decide +kernel
theorem d_lw_law_912 : decode code 912 = .ok (.aload_n 1, 1) := by decide +kernel
theorem d_lw_law_913 : decode code 913 = .ok (.aload_n 0, 1) := by decide +kernel
theorem d_lw_law_914 : decode code 914 = .ok (.iload 4, 2) := by decide +kernel
theorem d_lw_law_916 : decode code 916 = .ok (.iconst 1, 1) := by decide +kernel
theorem d_lw_law_917 : decode code 917 = .ok (.iadd, 1) := by decide +kernel
theorem d_lw_law_918 : decode code 918 = .ok (.iaload, 1) := by decide +kernel
theorem d_lw_law_919 : decode code 919 = .ok (.aload_n 0, 1) := by decide +kernel
theorem d_lw_law_920 : decode code 920 = .ok (.iload 4, 2) := by decide +kernel
theorem d_lw_law_922 : decode code 922 = .ok (.iconst 2, 1) := by decide +kernel
theorem d_lw_law_923 : decode code 923 = .ok (.iadd, 1) := by decide +kernel
theorem d_lw_law_924 : decode code 924 = .ok (.iaload, 1) := by decide +kernel
theorem d_lw_law_925 : decode code 925 = .ok (.aload_n 0, 1) := by decide +kernel
theorem d_lw_law_926 : decode code 926 = .ok (.iload 4, 2) := by decide +kernel
theorem d_lw_law_928 : decode code 928 = .ok (.iconst 3, 1) := by decide +kernel
theorem d_lw_law_929 : decode code 929 = .ok (.iadd, 1) := by decide +kernel
theorem d_lw_law_930 : decode code 930 = .ok (.iaload, 1) := by decide +kernel
theorem d_lw_law_931 : decode code 931 = .ok (.aload_n 3, 1) := by decide +kernel
theorem d_lw_law_932 : decode code 932 = .ok (.invokestatic 101, 3) := by decide +kernel
theorem d_lw_law_935 : decode code 935 = .ok (.istore 5, 2) := by decide +kernel
theorem d_lw_law_937 : decode code 937 = .ok (.aload_n 2, 1) := by decide +kernel
theorem d_lw_law_938 : decode code 938 = .ok (.aload_n 0, 1) := by decide +kernel
theorem d_lw_law_939 : decode code 939 = .ok (.iload 4, 2) := by decide +kernel
theorem d_lw_law_941 : decode code 941 = .ok (.iconst 1, 1) := by decide +kernel
theorem d_lw_law_942 : decode code 942 = .ok (.iadd, 1) := by decide +kernel
theorem d_lw_law_943 : decode code 943 = .ok (.iaload, 1) := by decide +kernel
theorem d_lw_law_944 : decode code 944 = .ok (.aload_n 0, 1) := by decide +kernel
theorem d_lw_law_945 : decode code 945 = .ok (.iload 4, 2) := by decide +kernel
theorem d_lw_law_947 : decode code 947 = .ok (.iconst 2, 1) := by decide +kernel
theorem d_lw_law_948 : decode code 948 = .ok (.iadd, 1) := by decide +kernel
theorem d_lw_law_949 : decode code 949 = .ok (.iaload, 1) := by decide +kernel
theorem d_lw_law_950 : decode code 950 = .ok (.aload_n 0, 1) := by decide +kernel
theorem d_lw_law_951 : decode code 951 = .ok (.iload 4, 2) := by decide +kernel
theorem d_lw_law_953 : decode code 953 = .ok (.iconst 3, 1) := by decide +kernel
theorem d_lw_law_954 : decode code 954 = .ok (.iadd, 1) := by decide +kernel
theorem d_lw_law_955 : decode code 955 = .ok (.iaload, 1) := by decide +kernel
theorem d_lw_law_956 : decode code 956 = .ok (.invokevirtual 103, 3) := by decide +kernel
theorem d_lw_law_959 : decode code 959 = .ok (.istore 6, 2) := by decide +kernel
theorem d_lw_law_961 : decode code 961 = .ok (.aload_n 2, 1) := by decide +kernel
theorem d_lw_law_962 : decode code 962 = .ok (.invokevirtual 55, 3) := by decide +kernel
theorem d_lw_law_965 : decode code 965 = .ok (.iload 5, 2) := by decide +kernel
theorem d_lw_law_967 : decode code 967 = .ok (.if_icmp .eq 5, 3) := by decide +kernel
theorem d_lw_law_970 : decode code 970 = .ok (.iconst 0, 1) := by decide +kernel
theorem d_lw_law_971 : decode code 971 = .ok (.ireturn, 1) := by decide +kernel
theorem d_lw_law_972 : decode code 972 = .ok (.iload 5, 2) := by decide +kernel
theorem d_lw_law_974 : decode code 974 = .ok (.ifCond .ne 15, 3) := by decide +kernel
theorem d_lw_law_977 : decode code 977 = .ok (.aload_n 3, 1) := by decide +kernel
theorem d_lw_law_978 : decode code 978 = .ok (.iconst 0, 1) := by decide +kernel
theorem d_lw_law_979 : decode code 979 = .ok (.laload, 1) := by decide +kernel
theorem d_lw_law_980 : decode code 980 = .ok (.iload 6, 2) := by decide +kernel
theorem d_lw_law_982 : decode code 982 = .ok (.i2l, 1) := by decide +kernel
theorem d_lw_law_983 : decode code 983 = .ok (.lcmp, 1) := by decide +kernel
theorem d_lw_law_984 : decode code 984 = .ok (.ifCond .eq 5, 3) := by decide +kernel
theorem d_lw_law_987 : decode code 987 = .ok (.iconst 0, 1) := by decide +kernel
theorem d_lw_law_988 : decode code 988 = .ok (.ireturn, 1) := by decide +kernel
theorem d_lw_law_989 : decode code 989 = .ok (.goto 28, 3) := by decide +kernel
theorem d_lw_law_992 : decode code 992 = .ok (.aload_n 1, 1) := by decide +kernel
theorem d_lw_law_993 : decode code 993 = .ok (.aload_n 0, 1) := by decide +kernel
theorem d_lw_law_994 : decode code 994 = .ok (.iload 4, 2) := by decide +kernel
theorem d_lw_law_996 : decode code 996 = .ok (.iconst 1, 1) := by decide +kernel
theorem d_lw_law_997 : decode code 997 = .ok (.iadd, 1) := by decide +kernel
theorem d_lw_law_998 : decode code 998 = .ok (.iaload, 1) := by decide +kernel
theorem d_lw_law_999 : decode code 999 = .ok (.invokevirtual 104, 3) := by decide +kernel
theorem d_lw_law_1002 : decode code 1002 = .ok (.aload_n 2, 1) := by decide +kernel
theorem d_lw_law_1003 : decode code 1003 = .ok (.aload_n 0, 1) := by decide +kernel
theorem d_lw_law_1004 : decode code 1004 = .ok (.iload 4, 2) := by decide +kernel
theorem d_lw_law_1006 : decode code 1006 = .ok (.iconst 1, 1) := by decide +kernel
theorem d_lw_law_1007 : decode code 1007 = .ok (.iadd, 1) := by decide +kernel
theorem d_lw_law_1008 : decode code 1008 = .ok (.iaload, 1) := by decide +kernel
theorem d_lw_law_1009 : decode code 1009 = .ok (.invokevirtual 108, 3) := by decide +kernel
theorem d_lw_law_1012 : decode code 1012 = .ok (.if_icmp .eq 5, 3) := by decide +kernel
theorem d_lw_law_1015 : decode code 1015 = .ok (.iconst 0, 1) := by decide +kernel
theorem d_lw_law_1016 : decode code 1016 = .ok (.ireturn, 1) := by decide +kernel
theorem d_lw_law_1017 : decode code 1017 = .ok (.iinc 4 5, 3) := by decide +kernel
theorem d_lw_law_1020 : decode code 1020 = .ok (.goto (-997), 3) := by decide +kernel
theorem d_lw_law_1023 : decode code 1023 = .ok (.iconst 1, 1) := by decide +kernel
theorem d_lw_law_1024 : decode code 1024 = .ok (.ireturn, 1) := by decide +kernel
