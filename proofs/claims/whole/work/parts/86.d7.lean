/-! law: decode rows -/
theorem dLW_law_925 : decode cLW_law 925 = .ok (.iaload, 1) := by decide +kernel
theorem dLW_law_926 : decode cLW_law 926 = .ok (.aload_n 0, 1) := by decide +kernel
theorem dLW_law_927 : decode cLW_law 927 = .ok (.iload 4, 2) := by decide +kernel
theorem dLW_law_929 : decode cLW_law 929 = .ok (.iconst 2, 1) := by decide +kernel
theorem dLW_law_930 : decode cLW_law 930 = .ok (.iadd, 1) := by decide +kernel
theorem dLW_law_931 : decode cLW_law 931 = .ok (.iaload, 1) := by decide +kernel
theorem dLW_law_932 : decode cLW_law 932 = .ok (.aload_n 3, 1) := by decide +kernel
theorem dLW_law_933 : decode cLW_law 933 = .ok (.invokestatic 114, 3) := by decide +kernel
theorem dLW_law_936 : decode cLW_law 936 = .ok (.istore 5, 2) := by decide +kernel
theorem dLW_law_938 : decode cLW_law 938 = .ok (.aload_n 2, 1) := by decide +kernel
theorem dLW_law_939 : decode cLW_law 939 = .ok (.aload_n 0, 1) := by decide +kernel
theorem dLW_law_940 : decode cLW_law 940 = .ok (.iload 4, 2) := by decide +kernel
theorem dLW_law_942 : decode cLW_law 942 = .ok (.iconst 1, 1) := by decide +kernel
theorem dLW_law_943 : decode cLW_law 943 = .ok (.iadd, 1) := by decide +kernel
theorem dLW_law_944 : decode cLW_law 944 = .ok (.iaload, 1) := by decide +kernel
theorem dLW_law_945 : decode cLW_law 945 = .ok (.aload_n 0, 1) := by decide +kernel
theorem dLW_law_946 : decode cLW_law 946 = .ok (.iload 4, 2) := by decide +kernel
theorem dLW_law_948 : decode cLW_law 948 = .ok (.iconst 2, 1) := by decide +kernel
theorem dLW_law_949 : decode cLW_law 949 = .ok (.iadd, 1) := by decide +kernel
theorem dLW_law_950 : decode cLW_law 950 = .ok (.iaload, 1) := by decide +kernel
theorem dLW_law_951 : decode cLW_law 951 = .ok (.invokevirtual 116, 3) := by decide +kernel
theorem dLW_law_954 : decode cLW_law 954 = .ok (.lstore 6, 2) := by decide +kernel
theorem dLW_law_956 : decode cLW_law 956 = .ok (.aload_n 2, 1) := by decide +kernel
theorem dLW_law_957 : decode cLW_law 957 = .ok (.invokevirtual 76, 3) := by decide +kernel
theorem dLW_law_960 : decode cLW_law 960 = .ok (.iload 5, 2) := by decide +kernel
theorem dLW_law_962 : decode cLW_law 962 = .ok (.if_icmp .eq 5, 3) := by decide +kernel
theorem dLW_law_965 : decode cLW_law 965 = .ok (.iconst 0, 1) := by decide +kernel
theorem dLW_law_966 : decode cLW_law 966 = .ok (.ireturn, 1) := by decide +kernel
theorem dLW_law_967 : decode cLW_law 967 = .ok (.iload 5, 2) := by decide +kernel
theorem dLW_law_969 : decode cLW_law 969 = .ok (.ifCond .ne 14, 3) := by decide +kernel
theorem dLW_law_972 : decode cLW_law 972 = .ok (.aload_n 3, 1) := by decide +kernel
theorem dLW_law_973 : decode cLW_law 973 = .ok (.iconst 0, 1) := by decide +kernel
theorem dLW_law_974 : decode cLW_law 974 = .ok (.laload, 1) := by decide +kernel
theorem dLW_law_975 : decode cLW_law 975 = .ok (.lload 6, 2) := by decide +kernel
theorem dLW_law_977 : decode cLW_law 977 = .ok (.lcmp, 1) := by decide +kernel
theorem dLW_law_978 : decode cLW_law 978 = .ok (.ifCond .eq 5, 3) := by decide +kernel
theorem dLW_law_981 : decode cLW_law 981 = .ok (.iconst 0, 1) := by decide +kernel
theorem dLW_law_982 : decode cLW_law 982 = .ok (.ireturn, 1) := by decide +kernel
theorem dLW_law_983 : decode cLW_law 983 = .ok (.goto 359, 3) := by decide +kernel
theorem dLW_law_986 : decode cLW_law 986 = .ok (.aload_n 1, 1) := by decide +kernel
theorem dLW_law_987 : decode cLW_law 987 = .ok (.aload_n 0, 1) := by decide +kernel
theorem dLW_law_988 : decode cLW_law 988 = .ok (.iload 4, 2) := by decide +kernel
theorem dLW_law_990 : decode cLW_law 990 = .ok (.iconst 1, 1) := by decide +kernel
theorem dLW_law_991 : decode cLW_law 991 = .ok (.iadd, 1) := by decide +kernel
theorem dLW_law_992 : decode cLW_law 992 = .ok (.iaload, 1) := by decide +kernel
theorem dLW_law_993 : decode cLW_law 993 = .ok (.aload_n 0, 1) := by decide +kernel
theorem dLW_law_994 : decode cLW_law 994 = .ok (.iload 4, 2) := by decide +kernel
theorem dLW_law_996 : decode cLW_law 996 = .ok (.iconst 2, 1) := by decide +kernel
theorem dLW_law_997 : decode cLW_law 997 = .ok (.iadd, 1) := by decide +kernel
theorem dLW_law_998 : decode cLW_law 998 = .ok (.iaload, 1) := by decide +kernel
theorem dLW_law_999 : decode cLW_law 999 = .ok (.aload_n 0, 1) := by decide +kernel
theorem dLW_law_1000 : decode cLW_law 1000 = .ok (.iload 4, 2) := by decide +kernel
theorem dLW_law_1002 : decode cLW_law 1002 = .ok (.iconst 3, 1) := by decide +kernel
theorem dLW_law_1003 : decode cLW_law 1003 = .ok (.iadd, 1) := by decide +kernel
theorem dLW_law_1004 : decode cLW_law 1004 = .ok (.iaload, 1) := by decide +kernel
theorem dLW_law_1005 : decode cLW_law 1005 = .ok (.aload_n 3, 1) := by decide +kernel
theorem dLW_law_1006 : decode cLW_law 1006 = .ok (.invokestatic 117, 3) := by decide +kernel
theorem dLW_law_1009 : decode cLW_law 1009 = .ok (.istore 5, 2) := by decide +kernel
theorem dLW_law_1011 : decode cLW_law 1011 = .ok (.aload_n 2, 1) := by decide +kernel
theorem dLW_law_1012 : decode cLW_law 1012 = .ok (.aload_n 0, 1) := by decide +kernel
theorem dLW_law_1013 : decode cLW_law 1013 = .ok (.iload 4, 2) := by decide +kernel
theorem dLW_law_1015 : decode cLW_law 1015 = .ok (.iconst 1, 1) := by decide +kernel
theorem dLW_law_1016 : decode cLW_law 1016 = .ok (.iadd, 1) := by decide +kernel
theorem dLW_law_1017 : decode cLW_law 1017 = .ok (.iaload, 1) := by decide +kernel
theorem dLW_law_1018 : decode cLW_law 1018 = .ok (.aload_n 0, 1) := by decide +kernel
theorem dLW_law_1019 : decode cLW_law 1019 = .ok (.iload 4, 2) := by decide +kernel
theorem dLW_law_1021 : decode cLW_law 1021 = .ok (.iconst 2, 1) := by decide +kernel
theorem dLW_law_1022 : decode cLW_law 1022 = .ok (.iadd, 1) := by decide +kernel
theorem dLW_law_1023 : decode cLW_law 1023 = .ok (.iaload, 1) := by decide +kernel
theorem dLW_law_1024 : decode cLW_law 1024 = .ok (.aload_n 0, 1) := by decide +kernel
theorem dLW_law_1025 : decode cLW_law 1025 = .ok (.iload 4, 2) := by decide +kernel
theorem dLW_law_1027 : decode cLW_law 1027 = .ok (.iconst 3, 1) := by decide +kernel
theorem dLW_law_1028 : decode cLW_law 1028 = .ok (.iadd, 1) := by decide +kernel
theorem dLW_law_1029 : decode cLW_law 1029 = .ok (.iaload, 1) := by decide +kernel
theorem dLW_law_1030 : decode cLW_law 1030 = .ok (.invokevirtual 120, 3) := by decide +kernel
theorem dLW_law_1033 : decode cLW_law 1033 = .ok (.lstore 6, 2) := by decide +kernel
theorem dLW_law_1035 : decode cLW_law 1035 = .ok (.aload_n 2, 1) := by decide +kernel
theorem dLW_law_1036 : decode cLW_law 1036 = .ok (.invokevirtual 76, 3) := by decide +kernel
theorem dLW_law_1039 : decode cLW_law 1039 = .ok (.iload 5, 2) := by decide +kernel
theorem dLW_law_1041 : decode cLW_law 1041 = .ok (.if_icmp .eq 5, 3) := by decide +kernel
theorem dLW_law_1044 : decode cLW_law 1044 = .ok (.iconst 0, 1) := by decide +kernel
theorem dLW_law_1045 : decode cLW_law 1045 = .ok (.ireturn, 1) := by decide +kernel
theorem dLW_law_1046 : decode cLW_law 1046 = .ok (.iload 5, 2) := by decide +kernel
theorem dLW_law_1048 : decode cLW_law 1048 = .ok (.ifCond .ne 14, 3) := by decide +kernel
theorem dLW_law_1051 : decode cLW_law 1051 = .ok (.aload_n 3, 1) := by decide +kernel
theorem dLW_law_1052 : decode cLW_law 1052 = .ok (.iconst 0, 1) := by decide +kernel
theorem dLW_law_1053 : decode cLW_law 1053 = .ok (.laload, 1) := by decide +kernel
theorem dLW_law_1054 : decode cLW_law 1054 = .ok (.lload 6, 2) := by decide +kernel
theorem dLW_law_1056 : decode cLW_law 1056 = .ok (.lcmp, 1) := by decide +kernel
theorem dLW_law_1057 : decode cLW_law 1057 = .ok (.ifCond .eq 5, 3) := by decide +kernel
theorem dLW_law_1060 : decode cLW_law 1060 = .ok (.iconst 0, 1) := by decide +kernel
theorem dLW_law_1061 : decode cLW_law 1061 = .ok (.ireturn, 1) := by decide +kernel
theorem dLW_law_1062 : decode cLW_law 1062 = .ok (.goto 280, 3) := by decide +kernel
theorem dLW_law_1065 : decode cLW_law 1065 = .ok (.aload_n 1, 1) := by decide +kernel
theorem dLW_law_1066 : decode cLW_law 1066 = .ok (.aload_n 0, 1) := by decide +kernel
theorem dLW_law_1067 : decode cLW_law 1067 = .ok (.iload 4, 2) := by decide +kernel
