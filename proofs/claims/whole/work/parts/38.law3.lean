theorem d_A_law_834 : decode b_A_law 834 = .ok (.aload_n 0, 1) := by decide +kernel
theorem d_A_law_835 : decode b_A_law 835 = .ok (.iload 5, 2) := by decide +kernel
theorem d_A_law_837 : decode b_A_law 837 = .ok (.iconst 2, 1) := by decide +kernel
theorem d_A_law_838 : decode b_A_law 838 = .ok (.iadd, 1) := by decide +kernel
theorem d_A_law_839 : decode b_A_law 839 = .ok (.iaload, 1) := by decide +kernel
theorem d_A_law_840 : decode b_A_law 840 = .ok (.aload_n 0, 1) := by decide +kernel
theorem d_A_law_841 : decode b_A_law 841 = .ok (.iload 5, 2) := by decide +kernel
theorem d_A_law_843 : decode b_A_law 843 = .ok (.iconst 3, 1) := by decide +kernel
theorem d_A_law_844 : decode b_A_law 844 = .ok (.iadd, 1) := by decide +kernel
theorem d_A_law_845 : decode b_A_law 845 = .ok (.iaload, 1) := by decide +kernel
theorem d_A_law_846 : decode b_A_law 846 = .ok (.invokevirtual 105, 3) := by decide +kernel
theorem d_A_law_849 : decode b_A_law 849 = .ok (.istore 7, 2) := by decide +kernel
theorem d_A_law_851 : decode b_A_law 851 = .ok (.aload_n 2, 1) := by decide +kernel
theorem d_A_law_852 : decode b_A_law 852 = .ok (.invokevirtual 69, 3) := by decide +kernel
theorem d_A_law_855 : decode b_A_law 855 = .ok (.iload 6, 2) := by decide +kernel
theorem d_A_law_857 : decode b_A_law 857 = .ok (.if_icmp .eq 5, 3) := by decide +kernel
theorem d_A_law_860 : decode b_A_law 860 = .ok (.iconst 0, 1) := by decide +kernel
theorem d_A_law_861 : decode b_A_law 861 = .ok (.ireturn, 1) := by decide +kernel
theorem d_A_law_862 : decode b_A_law 862 = .ok (.iload 6, 2) := by decide +kernel
theorem d_A_law_864 : decode b_A_law 864 = .ok (.ifCond .ne 15, 3) := by decide +kernel
theorem d_A_law_867 : decode b_A_law 867 = .ok (.aload_n 3, 1) := by decide +kernel
theorem d_A_law_868 : decode b_A_law 868 = .ok (.iconst 0, 1) := by decide +kernel
theorem d_A_law_869 : decode b_A_law 869 = .ok (.laload, 1) := by decide +kernel
theorem d_A_law_870 : decode b_A_law 870 = .ok (.iload 7, 2) := by decide +kernel
theorem d_A_law_872 : decode b_A_law 872 = .ok (.i2l, 1) := by decide +kernel
theorem d_A_law_873 : decode b_A_law 873 = .ok (.lcmp, 1) := by decide +kernel
theorem d_A_law_874 : decode b_A_law 874 = .ok (.ifCond .eq 5, 3) := by decide +kernel
theorem d_A_law_877 : decode b_A_law 877 = .ok (.iconst 0, 1) := by decide +kernel
theorem d_A_law_878 : decode b_A_law 878 = .ok (.ireturn, 1) := by decide +kernel
theorem d_A_law_879 : decode b_A_law 879 = .ok (.goto 197, 3) := by decide +kernel
theorem d_A_law_882 : decode b_A_law 882 = .ok (.aload_n 1, 1) := by decide +kernel
theorem d_A_law_883 : decode b_A_law 883 = .ok (.aload_n 0, 1) := by decide +kernel
theorem d_A_law_884 : decode b_A_law 884 = .ok (.iload 5, 2) := by decide +kernel
theorem d_A_law_886 : decode b_A_law 886 = .ok (.iconst 1, 1) := by decide +kernel
theorem d_A_law_887 : decode b_A_law 887 = .ok (.iadd, 1) := by decide +kernel
theorem d_A_law_888 : decode b_A_law 888 = .ok (.iaload, 1) := by decide +kernel
theorem d_A_law_889 : decode b_A_law 889 = .ok (.aload_n 3, 1) := by decide +kernel
theorem d_A_law_890 : decode b_A_law 890 = .ok (.invokestatic 106, 3) := by decide +kernel
theorem d_A_law_893 : decode b_A_law 893 = .ok (.istore 6, 2) := by decide +kernel
theorem d_A_law_895 : decode b_A_law 895 = .ok (.aload_n 2, 1) := by decide +kernel
theorem d_A_law_896 : decode b_A_law 896 = .ok (.aload_n 0, 1) := by decide +kernel
theorem d_A_law_897 : decode b_A_law 897 = .ok (.iload 5, 2) := by decide +kernel
theorem d_A_law_899 : decode b_A_law 899 = .ok (.iconst 1, 1) := by decide +kernel
theorem d_A_law_900 : decode b_A_law 900 = .ok (.iadd, 1) := by decide +kernel
theorem d_A_law_901 : decode b_A_law 901 = .ok (.iaload, 1) := by decide +kernel
theorem d_A_law_902 : decode b_A_law 902 = .ok (.invokevirtual 108, 3) := by decide +kernel
theorem d_A_law_905 : decode b_A_law 905 = .ok (.istore 7, 2) := by decide +kernel
theorem d_A_law_907 : decode b_A_law 907 = .ok (.aload_n 2, 1) := by decide +kernel
theorem d_A_law_908 : decode b_A_law 908 = .ok (.invokevirtual 69, 3) := by decide +kernel
theorem d_A_law_911 : decode b_A_law 911 = .ok (.iload 6, 2) := by decide +kernel
theorem d_A_law_913 : decode b_A_law 913 = .ok (.if_icmp .eq 5, 3) := by decide +kernel
theorem d_A_law_916 : decode b_A_law 916 = .ok (.iconst 0, 1) := by decide +kernel
theorem d_A_law_917 : decode b_A_law 917 = .ok (.ireturn, 1) := by decide +kernel
theorem d_A_law_918 : decode b_A_law 918 = .ok (.iload 6, 2) := by decide +kernel
theorem d_A_law_920 : decode b_A_law 920 = .ok (.ifCond .ne 15, 3) := by decide +kernel
theorem d_A_law_923 : decode b_A_law 923 = .ok (.aload_n 3, 1) := by decide +kernel
theorem d_A_law_924 : decode b_A_law 924 = .ok (.iconst 0, 1) := by decide +kernel
theorem d_A_law_925 : decode b_A_law 925 = .ok (.laload, 1) := by decide +kernel
theorem d_A_law_926 : decode b_A_law 926 = .ok (.iload 7, 2) := by decide +kernel
theorem d_A_law_928 : decode b_A_law 928 = .ok (.i2l, 1) := by decide +kernel
theorem d_A_law_929 : decode b_A_law 929 = .ok (.lcmp, 1) := by decide +kernel
theorem d_A_law_930 : decode b_A_law 930 = .ok (.ifCond .eq 5, 3) := by decide +kernel
theorem d_A_law_933 : decode b_A_law 933 = .ok (.iconst 0, 1) := by decide +kernel
theorem d_A_law_934 : decode b_A_law 934 = .ok (.ireturn, 1) := by decide +kernel
theorem d_A_law_935 : decode b_A_law 935 = .ok (.goto 141, 3) := by decide +kernel
theorem d_A_law_938 : decode b_A_law 938 = .ok (.aload_n 1, 1) := by decide +kernel
theorem d_A_law_939 : decode b_A_law 939 = .ok (.invokevirtual 109, 3) := by decide +kernel
theorem d_A_law_942 : decode b_A_law 942 = .ok (.aload_n 2, 1) := by decide +kernel
theorem d_A_law_943 : decode b_A_law 943 = .ok (.invokevirtual 112, 3) := by decide +kernel
theorem d_A_law_946 : decode b_A_law 946 = .ok (.if_icmp .eq 130, 3) := by decide +kernel
theorem d_A_law_949 : decode b_A_law 949 = .ok (.iconst 0, 1) := by decide +kernel
theorem d_A_law_950 : decode b_A_law 950 = .ok (.ireturn, 1) := by decide +kernel
theorem d_A_law_951 : decode b_A_law 951 = .ok (.aload_n 1, 1) := by decide +kernel
theorem d_A_law_952 : decode b_A_law 952 = .ok (.aload_n 0, 1) := by decide +kernel
theorem d_A_law_953 : decode b_A_law 953 = .ok (.iload 5, 2) := by decide +kernel
theorem d_A_law_955 : decode b_A_law 955 = .ok (.iconst 1, 1) := by decide +kernel
theorem d_A_law_956 : decode b_A_law 956 = .ok (.iadd, 1) := by decide +kernel
theorem d_A_law_957 : decode b_A_law 957 = .ok (.iaload, 1) := by decide +kernel
theorem d_A_law_958 : decode b_A_law 958 = .ok (.aload_n 3, 1) := by decide +kernel
theorem d_A_law_959 : decode b_A_law 959 = .ok (.invokestatic 113, 3) := by decide +kernel
theorem d_A_law_962 : decode b_A_law 962 = .ok (.istore 6, 2) := by decide +kernel
theorem d_A_law_964 : decode b_A_law 964 = .ok (.aload_n 2, 1) := by decide +kernel
theorem d_A_law_965 : decode b_A_law 965 = .ok (.aload_n 0, 1) := by decide +kernel
theorem d_A_law_966 : decode b_A_law 966 = .ok (.iload 5, 2) := by decide +kernel
theorem d_A_law_968 : decode b_A_law 968 = .ok (.iconst 1, 1) := by decide +kernel
theorem d_A_law_969 : decode b_A_law 969 = .ok (.iadd, 1) := by decide +kernel
theorem d_A_law_970 : decode b_A_law 970 = .ok (.iaload, 1) := by decide +kernel
theorem d_A_law_971 : decode b_A_law 971 = .ok (.invokevirtual 115, 3) := by decide +kernel
theorem d_A_law_974 : decode b_A_law 974 = .ok (.istore 7, 2) := by decide +kernel
theorem d_A_law_976 : decode b_A_law 976 = .ok (.aload_n 2, 1) := by decide +kernel
theorem d_A_law_977 : decode b_A_law 977 = .ok (.invokevirtual 69, 3) := by decide +kernel
theorem d_A_law_980 : decode b_A_law 980 = .ok (.iload 6, 2) := by decide +kernel
theorem d_A_law_982 : decode b_A_law 982 = .ok (.if_icmp .eq 5, 3) := by decide +kernel
theorem d_A_law_985 : decode b_A_law 985 = .ok (.iconst 0, 1) := by decide +kernel
theorem d_A_law_986 : decode b_A_law 986 = .ok (.ireturn, 1) := by decide +kernel
theorem d_A_law_987 : decode b_A_law 987 = .ok (.iload 6, 2) := by decide +kernel
theorem d_A_law_989 : decode b_A_law 989 = .ok (.ifCond .ne 15, 3) := by decide +kernel
theorem d_A_law_992 : decode b_A_law 992 = .ok (.aload_n 3, 1) := by decide +kernel
theorem d_A_law_993 : decode b_A_law 993 = .ok (.iconst 0, 1) := by decide +kernel
theorem d_A_law_994 : decode b_A_law 994 = .ok (.laload, 1) := by decide +kernel
theorem d_A_law_995 : decode b_A_law 995 = .ok (.iload 7, 2) := by decide +kernel
theorem d_A_law_997 : decode b_A_law 997 = .ok (.i2l, 1) := by decide +kernel
theorem d_A_law_998 : decode b_A_law 998 = .ok (.lcmp, 1) := by decide +kernel
theorem d_A_law_999 : decode b_A_law 999 = .ok (.ifCond .eq 5, 3) := by decide +kernel
theorem d_A_law_1002 : decode b_A_law 1002 = .ok (.iconst 0, 1) := by decide +kernel
theorem d_A_law_1003 : decode b_A_law 1003 = .ok (.ireturn, 1) := by decide +kernel
theorem d_A_law_1004 : decode b_A_law 1004 = .ok (.goto 72, 3) := by decide +kernel
theorem d_A_law_1007 : decode b_A_law 1007 = .ok (.aload_n 1, 1) := by decide +kernel
theorem d_A_law_1008 : decode b_A_law 1008 = .ok (.invokevirtual 116, 3) := by decide +kernel
theorem d_A_law_1011 : decode b_A_law 1011 = .ok (.aload_n 2, 1) := by decide +kernel
theorem d_A_law_1012 : decode b_A_law 1012 = .ok (.invokevirtual 119, 3) := by decide +kernel
theorem d_A_law_1015 : decode b_A_law 1015 = .ok (.if_icmp .eq 61, 3) := by decide +kernel
theorem d_A_law_1018 : decode b_A_law 1018 = .ok (.iconst 0, 1) := by decide +kernel
theorem d_A_law_1019 : decode b_A_law 1019 = .ok (.ireturn, 1) := by decide +kernel
theorem d_A_law_1020 : decode b_A_law 1020 = .ok (.aload_n 1, 1) := by decide +kernel
theorem d_A_law_1021 : decode b_A_law 1021 = .ok (.aload_n 0, 1) := by decide +kernel
theorem d_A_law_1022 : decode b_A_law 1022 = .ok (.iload 5, 2) := by decide +kernel
theorem d_A_law_1024 : decode b_A_law 1024 = .ok (.iconst 1, 1) := by decide +kernel
theorem d_A_law_1025 : decode b_A_law 1025 = .ok (.iadd, 1) := by decide +kernel
theorem d_A_law_1026 : decode b_A_law 1026 = .ok (.iaload, 1) := by decide +kernel
theorem d_A_law_1027 : decode b_A_law 1027 = .ok (.aload_n 3, 1) := by decide +kernel
theorem d_A_law_1028 : decode b_A_law 1028 = .ok (.invokestatic 120, 3) := by decide +kernel
theorem d_A_law_1031 : decode b_A_law 1031 = .ok (.istore 6, 2) := by decide +kernel
theorem d_A_law_1033 : decode b_A_law 1033 = .ok (.aload_n 2, 1) := by decide +kernel
theorem d_A_law_1034 : decode b_A_law 1034 = .ok (.aload_n 0, 1) := by decide +kernel
theorem d_A_law_1035 : decode b_A_law 1035 = .ok (.iload 5, 2) := by decide +kernel
theorem d_A_law_1037 : decode b_A_law 1037 = .ok (.iconst 1, 1) := by decide +kernel
theorem d_A_law_1038 : decode b_A_law 1038 = .ok (.iadd, 1) := by decide +kernel
theorem d_A_law_1039 : decode b_A_law 1039 = .ok (.iaload, 1) := by decide +kernel
theorem d_A_law_1040 : decode b_A_law 1040 = .ok (.invokevirtual 122, 3) := by decide +kernel
theorem d_A_law_1043 : decode b_A_law 1043 = .ok (.istore 7, 2) := by decide +kernel
theorem d_A_law_1045 : decode b_A_law 1045 = .ok (.aload_n 2, 1) := by decide +kernel
theorem d_A_law_1046 : decode b_A_law 1046 = .ok (.invokevirtual 69, 3) := by decide +kernel
theorem d_A_law_1049 : decode b_A_law 1049 = .ok (.iload 6, 2) := by decide +kernel
theorem d_A_law_1051 : decode b_A_law 1051 = .ok (.if_icmp .eq 5, 3) := by decide +kernel
theorem d_A_law_1054 : decode b_A_law 1054 = .ok (.iconst 0, 1) := by decide +kernel
theorem d_A_law_1055 : decode b_A_law 1055 = .ok (.ireturn, 1) := by decide +kernel
theorem d_A_law_1056 : decode b_A_law 1056 = .ok (.iload 6, 2) := by decide +kernel
theorem d_A_law_1058 : decode b_A_law 1058 = .ok (.ifCond .ne 15, 3) := by decide +kernel
theorem d_A_law_1061 : decode b_A_law 1061 = .ok (.aload_n 3, 1) := by decide +kernel
theorem d_A_law_1062 : decode b_A_law 1062 = .ok (.iconst 0, 1) := by decide +kernel
theorem d_A_law_1063 : decode b_A_law 1063 = .ok (.laload, 1) := by decide +kernel
theorem d_A_law_1064 : decode b_A_law 1064 = .ok (.iload 7, 2) := by decide +kernel
theorem d_A_law_1066 : decode b_A_law 1066 = .ok (.i2l, 1) := by decide +kernel
theorem d_A_law_1067 : decode b_A_law 1067 = .ok (.lcmp, 1) := by decide +kernel
theorem d_A_law_1068 : decode b_A_law 1068 = .ok (.ifCond .eq 5, 3) := by decide +kernel
theorem d_A_law_1071 : decode b_A_law 1071 = .ok (.iconst 0, 1) := by decide +kernel
theorem d_A_law_1072 : decode b_A_law 1072 = .ok (.ireturn, 1) := by decide +kernel
theorem d_A_law_1073 : decode b_A_law 1073 = .ok (.goto 3, 3) := by decide +kernel
theorem d_A_law_1076 : decode b_A_law 1076 = .ok (.iinc 5 6, 3) := by decide +kernel
theorem d_A_law_1079 : decode b_A_law 1079 = .ok (.goto (-1051), 3) := by decide +kernel
theorem d_A_law_1082 : decode b_A_law 1082 = .ok (.iconst 1, 1) := by decide +kernel
theorem d_A_law_1083 : decode b_A_law 1083 = .ok (.ireturn, 1) := by decide +kernel

