theorem dL_law_914 : decode cL_law 914 = .ok (.iadd, 1) := by decide +kernel
theorem dL_law_915 : decode cL_law 915 = .ok (.iaload, 1) := by decide +kernel
theorem dL_law_916 : decode cL_law 916 = .ok (.invokevirtual 118, 3) := by decide +kernel
theorem dL_law_919 : decode cL_law 919 = .ok (.istore 6, 2) := by decide +kernel
theorem dL_law_921 : decode cL_law 921 = .ok (.aload_n 2, 1) := by decide +kernel
theorem dL_law_922 : decode cL_law 922 = .ok (.invokevirtual 70, 3) := by decide +kernel
theorem dL_law_925 : decode cL_law 925 = .ok (.iload 5, 2) := by decide +kernel
theorem dL_law_927 : decode cL_law 927 = .ok (.if_icmp .eq 5, 3) := by decide +kernel
theorem dL_law_930 : decode cL_law 930 = .ok (.iconst 0, 1) := by decide +kernel
theorem dL_law_931 : decode cL_law 931 = .ok (.ireturn, 1) := by decide +kernel
theorem dL_law_932 : decode cL_law 932 = .ok (.iload 5, 2) := by decide +kernel
theorem dL_law_934 : decode cL_law 934 = .ok (.ifCond .ne 15, 3) := by decide +kernel
theorem dL_law_937 : decode cL_law 937 = .ok (.aload_n 3, 1) := by decide +kernel
theorem dL_law_938 : decode cL_law 938 = .ok (.iconst 0, 1) := by decide +kernel
theorem dL_law_939 : decode cL_law 939 = .ok (.laload, 1) := by decide +kernel
theorem dL_law_940 : decode cL_law 940 = .ok (.iload 6, 2) := by decide +kernel
theorem dL_law_942 : decode cL_law 942 = .ok (.i2l, 1) := by decide +kernel
theorem dL_law_943 : decode cL_law 943 = .ok (.lcmp, 1) := by decide +kernel
theorem dL_law_944 : decode cL_law 944 = .ok (.ifCond .eq 5, 3) := by decide +kernel
theorem dL_law_947 : decode cL_law 947 = .ok (.iconst 0, 1) := by decide +kernel
theorem dL_law_948 : decode cL_law 948 = .ok (.ireturn, 1) := by decide +kernel
theorem dL_law_949 : decode cL_law 949 = .ok (.goto 152, 3) := by decide +kernel
theorem dL_law_952 : decode cL_law 952 = .ok (.aload_n 1, 1) := by decide +kernel
theorem dL_law_953 : decode cL_law 953 = .ok (.aload_n 0, 1) := by decide +kernel
theorem dL_law_954 : decode cL_law 954 = .ok (.iload 4, 2) := by decide +kernel
theorem dL_law_956 : decode cL_law 956 = .ok (.iconst 1, 1) := by decide +kernel
theorem dL_law_957 : decode cL_law 957 = .ok (.iadd, 1) := by decide +kernel
theorem dL_law_958 : decode cL_law 958 = .ok (.iaload, 1) := by decide +kernel
theorem dL_law_959 : decode cL_law 959 = .ok (.invokevirtual 119, 3) := by decide +kernel
theorem dL_law_962 : decode cL_law 962 = .ok (.aload_n 2, 1) := by decide +kernel
theorem dL_law_963 : decode cL_law 963 = .ok (.aload_n 0, 1) := by decide +kernel
theorem dL_law_964 : decode cL_law 964 = .ok (.iload 4, 2) := by decide +kernel
theorem dL_law_966 : decode cL_law 966 = .ok (.iconst 1, 1) := by decide +kernel
theorem dL_law_967 : decode cL_law 967 = .ok (.iadd, 1) := by decide +kernel
theorem dL_law_968 : decode cL_law 968 = .ok (.iaload, 1) := by decide +kernel
theorem dL_law_969 : decode cL_law 969 = .ok (.invokevirtual 122, 3) := by decide +kernel
theorem dL_law_972 : decode cL_law 972 = .ok (.if_icmp .eq 129, 3) := by decide +kernel
theorem dL_law_975 : decode cL_law 975 = .ok (.iconst 0, 1) := by decide +kernel
theorem dL_law_976 : decode cL_law 976 = .ok (.ireturn, 1) := by decide +kernel
theorem dL_law_977 : decode cL_law 977 = .ok (.aload_n 1, 1) := by decide +kernel
theorem dL_law_978 : decode cL_law 978 = .ok (.aload_n 0, 1) := by decide +kernel
theorem dL_law_979 : decode cL_law 979 = .ok (.iload 4, 2) := by decide +kernel
theorem dL_law_981 : decode cL_law 981 = .ok (.iconst 1, 1) := by decide +kernel
theorem dL_law_982 : decode cL_law 982 = .ok (.iadd, 1) := by decide +kernel
theorem dL_law_983 : decode cL_law 983 = .ok (.iaload, 1) := by decide +kernel
theorem dL_law_984 : decode cL_law 984 = .ok (.aload_n 3, 1) := by decide +kernel
theorem dL_law_985 : decode cL_law 985 = .ok (.invokestatic 123, 3) := by decide +kernel
theorem dL_law_988 : decode cL_law 988 = .ok (.istore 5, 2) := by decide +kernel
theorem dL_law_990 : decode cL_law 990 = .ok (.aload_n 2, 1) := by decide +kernel
theorem dL_law_991 : decode cL_law 991 = .ok (.aload_n 0, 1) := by decide +kernel
theorem dL_law_992 : decode cL_law 992 = .ok (.iload 4, 2) := by decide +kernel
theorem dL_law_994 : decode cL_law 994 = .ok (.iconst 1, 1) := by decide +kernel
theorem dL_law_995 : decode cL_law 995 = .ok (.iadd, 1) := by decide +kernel
theorem dL_law_996 : decode cL_law 996 = .ok (.iaload, 1) := by decide +kernel
theorem dL_law_997 : decode cL_law 997 = .ok (.invokevirtual 125, 3) := by decide +kernel
theorem dL_law_1000 : decode cL_law 1000 = .ok (.istore 6, 2) := by decide +kernel
theorem dL_law_1002 : decode cL_law 1002 = .ok (.aload_n 2, 1) := by decide +kernel
theorem dL_law_1003 : decode cL_law 1003 = .ok (.invokevirtual 70, 3) := by decide +kernel
theorem dL_law_1006 : decode cL_law 1006 = .ok (.iload 5, 2) := by decide +kernel
theorem dL_law_1008 : decode cL_law 1008 = .ok (.if_icmp .eq 5, 3) := by decide +kernel
theorem dL_law_1011 : decode cL_law 1011 = .ok (.iconst 0, 1) := by decide +kernel
theorem dL_law_1012 : decode cL_law 1012 = .ok (.ireturn, 1) := by decide +kernel
theorem dL_law_1013 : decode cL_law 1013 = .ok (.iload 5, 2) := by decide +kernel
theorem dL_law_1015 : decode cL_law 1015 = .ok (.ifCond .ne 15, 3) := by decide +kernel
theorem dL_law_1018 : decode cL_law 1018 = .ok (.aload_n 3, 1) := by decide +kernel
theorem dL_law_1019 : decode cL_law 1019 = .ok (.iconst 0, 1) := by decide +kernel
theorem dL_law_1020 : decode cL_law 1020 = .ok (.laload, 1) := by decide +kernel
theorem dL_law_1021 : decode cL_law 1021 = .ok (.iload 6, 2) := by decide +kernel
theorem dL_law_1023 : decode cL_law 1023 = .ok (.i2l, 1) := by decide +kernel
theorem dL_law_1024 : decode cL_law 1024 = .ok (.lcmp, 1) := by decide +kernel
theorem dL_law_1025 : decode cL_law 1025 = .ok (.ifCond .eq 5, 3) := by decide +kernel
theorem dL_law_1028 : decode cL_law 1028 = .ok (.iconst 0, 1) := by decide +kernel
theorem dL_law_1029 : decode cL_law 1029 = .ok (.ireturn, 1) := by decide +kernel
theorem dL_law_1030 : decode cL_law 1030 = .ok (.goto 71, 3) := by decide +kernel
theorem dL_law_1033 : decode cL_law 1033 = .ok (.aload_n 1, 1) := by decide +kernel
theorem dL_law_1034 : decode cL_law 1034 = .ok (.aload_n 0, 1) := by decide +kernel
theorem dL_law_1035 : decode cL_law 1035 = .ok (.iload 4, 2) := by decide +kernel
theorem dL_law_1037 : decode cL_law 1037 = .ok (.iconst 1, 1) := by decide +kernel
theorem dL_law_1038 : decode cL_law 1038 = .ok (.iadd, 1) := by decide +kernel
theorem dL_law_1039 : decode cL_law 1039 = .ok (.iaload, 1) := by decide +kernel
theorem dL_law_1040 : decode cL_law 1040 = .ok (.aload_n 0, 1) := by decide +kernel
theorem dL_law_1041 : decode cL_law 1041 = .ok (.iload 4, 2) := by decide +kernel
theorem dL_law_1043 : decode cL_law 1043 = .ok (.iconst 2, 1) := by decide +kernel
theorem dL_law_1044 : decode cL_law 1044 = .ok (.iadd, 1) := by decide +kernel
theorem dL_law_1045 : decode cL_law 1045 = .ok (.iaload, 1) := by decide +kernel
theorem dL_law_1046 : decode cL_law 1046 = .ok (.aload_n 3, 1) := by decide +kernel
theorem dL_law_1047 : decode cL_law 1047 = .ok (.invokestatic 126, 3) := by decide +kernel
theorem dL_law_1050 : decode cL_law 1050 = .ok (.istore 5, 2) := by decide +kernel
theorem dL_law_1052 : decode cL_law 1052 = .ok (.aload_n 2, 1) := by decide +kernel
theorem dL_law_1053 : decode cL_law 1053 = .ok (.aload_n 0, 1) := by decide +kernel
theorem dL_law_1054 : decode cL_law 1054 = .ok (.iload 4, 2) := by decide +kernel
theorem dL_law_1056 : decode cL_law 1056 = .ok (.iconst 1, 1) := by decide +kernel
theorem dL_law_1057 : decode cL_law 1057 = .ok (.iadd, 1) := by decide +kernel
theorem dL_law_1058 : decode cL_law 1058 = .ok (.iaload, 1) := by decide +kernel
theorem dL_law_1059 : decode cL_law 1059 = .ok (.aload_n 0, 1) := by decide +kernel
theorem dL_law_1060 : decode cL_law 1060 = .ok (.iload 4, 2) := by decide +kernel
theorem dL_law_1062 : decode cL_law 1062 = .ok (.iconst 2, 1) := by decide +kernel
theorem dL_law_1063 : decode cL_law 1063 = .ok (.iadd, 1) := by decide +kernel
theorem dL_law_1064 : decode cL_law 1064 = .ok (.iaload, 1) := by decide +kernel
theorem dL_law_1065 : decode cL_law 1065 = .ok (.invokevirtual 128, 3) := by decide +kernel
theorem dL_law_1068 : decode cL_law 1068 = .ok (.istore 6, 2) := by decide +kernel
theorem dL_law_1070 : decode cL_law 1070 = .ok (.aload_n 2, 1) := by decide +kernel
theorem dL_law_1071 : decode cL_law 1071 = .ok (.invokevirtual 70, 3) := by decide +kernel
theorem dL_law_1074 : decode cL_law 1074 = .ok (.iload 5, 2) := by decide +kernel
theorem dL_law_1076 : decode cL_law 1076 = .ok (.if_icmp .eq 5, 3) := by decide +kernel
theorem dL_law_1079 : decode cL_law 1079 = .ok (.iconst 0, 1) := by decide +kernel
theorem dL_law_1080 : decode cL_law 1080 = .ok (.ireturn, 1) := by decide +kernel
theorem dL_law_1081 : decode cL_law 1081 = .ok (.iload 5, 2) := by decide +kernel
theorem dL_law_1083 : decode cL_law 1083 = .ok (.ifCond .ne 15, 3) := by decide +kernel
theorem dL_law_1086 : decode cL_law 1086 = .ok (.aload_n 3, 1) := by decide +kernel
theorem dL_law_1087 : decode cL_law 1087 = .ok (.iconst 0, 1) := by decide +kernel
theorem dL_law_1088 : decode cL_law 1088 = .ok (.laload, 1) := by decide +kernel
theorem dL_law_1089 : decode cL_law 1089 = .ok (.iload 6, 2) := by decide +kernel
theorem dL_law_1091 : decode cL_law 1091 = .ok (.i2l, 1) := by decide +kernel
theorem dL_law_1092 : decode cL_law 1092 = .ok (.lcmp, 1) := by decide +kernel
theorem dL_law_1093 : decode cL_law 1093 = .ok (.ifCond .eq 5, 3) := by decide +kernel
theorem dL_law_1096 : decode cL_law 1096 = .ok (.iconst 0, 1) := by decide +kernel
theorem dL_law_1097 : decode cL_law 1097 = .ok (.ireturn, 1) := by decide +kernel
theorem dL_law_1098 : decode cL_law 1098 = .ok (.goto 3, 3) := by decide +kernel
theorem dL_law_1101 : decode cL_law 1101 = .ok (.iinc 4 6, 3) := by decide +kernel
theorem dL_law_1104 : decode cL_law 1104 = .ok (.goto (-1081), 3) := by decide +kernel
theorem dL_law_1107 : decode cL_law 1107 = .ok (.iconst 1, 1) := by decide +kernel
theorem dL_law_1108 : decode cL_law 1108 = .ok (.ireturn, 1) := by decide +kernel
theorem dL_print_0 : decode cL_print 0 = .ok (.aload_n 2, 1) := by decide +kernel
theorem dL_print_1 : decode cL_print 1 = .ok (.iconst 0, 1) := by decide +kernel
theorem dL_print_2 : decode cL_print 2 = .ok (.aload_n 0, 1) := by decide +kernel
theorem dL_print_3 : decode cL_print 3 = .ok (.iload_n 1, 1) := by decide +kernel
theorem dL_print_4 : decode cL_print 4 = .ok (.invokevirtual 46, 3) := by decide +kernel
theorem dL_print_7 : decode cL_print 7 = .ok (.i2l, 1) := by decide +kernel
theorem dL_print_8 : decode cL_print 8 = .ok (.lastore, 1) := by decide +kernel
theorem dL_print_9 : decode cL_print 9 = .ok (.goto 6, 3) := by decide +kernel
theorem dL_print_12 : decode cL_print 12 = .ok (.astore_n 3, 1) := by decide +kernel
theorem dL_print_13 : decode cL_print 13 = .ok (.iconst 1, 1) := by decide +kernel
theorem dL_print_14 : decode cL_print 14 = .ok (.ireturn, 1) := by decide +kernel
theorem dL_print_15 : decode cL_print 15 = .ok (.iconst 0, 1) := by decide +kernel
theorem dL_print_16 : decode cL_print 16 = .ok (.ireturn, 1) := by decide +kernel
theorem dL_put_0 : decode cL_put 0 = .ok (.aload_n 3, 1) := by decide +kernel
theorem dL_put_1 : decode cL_put 1 = .ok (.iconst 0, 1) := by decide +kernel
theorem dL_put_2 : decode cL_put 2 = .ok (.aload_n 0, 1) := by decide +kernel
theorem dL_put_3 : decode cL_put 3 = .ok (.iload_n 1, 1) := by decide +kernel
theorem dL_put_4 : decode cL_put 4 = .ok (.iload_n 2, 1) := by decide +kernel
theorem dL_put_5 : decode cL_put 5 = .ok (.invokevirtual 15, 3) := by decide +kernel
theorem dL_put_8 : decode cL_put 8 = .ok (.i2l, 1) := by decide +kernel
theorem dL_put_9 : decode cL_put 9 = .ok (.lastore, 1) := by decide +kernel
theorem dL_put_10 : decode cL_put 10 = .ok (.goto 7, 3) := by decide +kernel
theorem dL_put_13 : decode cL_put 13 = .ok (.astore 4, 2) := by decide +kernel
theorem dL_put_15 : decode cL_put 15 = .ok (.iconst 1, 1) := by decide +kernel
theorem dL_put_16 : decode cL_put 16 = .ok (.ireturn, 1) := by decide +kernel
theorem dL_put_17 : decode cL_put 17 = .ok (.iconst 0, 1) := by decide +kernel
theorem dL_put_18 : decode cL_put 18 = .ok (.ireturn, 1) := by decide +kernel
theorem dL_record_0 : decode cL_record 0 = .ok (.aload_n 3, 1) := by decide +kernel
theorem dL_record_1 : decode cL_record 1 = .ok (.iconst 0, 1) := by decide +kernel
theorem dL_record_2 : decode cL_record 2 = .ok (.aload_n 0, 1) := by decide +kernel
theorem dL_record_3 : decode cL_record 3 = .ok (.iload_n 1, 1) := by decide +kernel
theorem dL_record_4 : decode cL_record 4 = .ok (.iload_n 2, 1) := by decide +kernel
theorem dL_record_5 : decode cL_record 5 = .ok (.invokevirtual 27, 3) := by decide +kernel
theorem dL_record_8 : decode cL_record 8 = .ok (.i2l, 1) := by decide +kernel
theorem dL_record_9 : decode cL_record 9 = .ok (.lastore, 1) := by decide +kernel
theorem dL_record_10 : decode cL_record 10 = .ok (.goto 11, 3) := by decide +kernel
theorem dL_record_13 : decode cL_record 13 = .ok (.astore 4, 2) := by decide +kernel
theorem dL_record_15 : decode cL_record 15 = .ok (.iconst 1, 1) := by decide +kernel
theorem dL_record_16 : decode cL_record 16 = .ok (.ireturn, 1) := by decide +kernel
theorem dL_record_17 : decode cL_record 17 = .ok (.astore 4, 2) := by decide +kernel
theorem dL_record_19 : decode cL_record 19 = .ok (.iconst 2, 1) := by decide +kernel
theorem dL_record_20 : decode cL_record 20 = .ok (.ireturn, 1) := by decide +kernel
theorem dL_record_21 : decode cL_record 21 = .ok (.iconst 0, 1) := by decide +kernel
theorem dL_record_22 : decode cL_record 22 = .ok (.ireturn, 1) := by decide +kernel
theorem dL_run_0 : decode cL_run 0 = .ok (.aload_n 2, 1) := by decide +kernel
theorem dL_run_1 : decode cL_run 1 = .ok (.iconst 0, 1) := by decide +kernel
theorem dL_run_2 : decode cL_run 2 = .ok (.aload_n 0, 1) := by decide +kernel
theorem dL_run_3 : decode cL_run 3 = .ok (.iload_n 1, 1) := by decide +kernel
theorem dL_run_4 : decode cL_run 4 = .ok (.invokevirtual 22, 3) := by decide +kernel
theorem dL_run_7 : decode cL_run 7 = .ok (.i2l, 1) := by decide +kernel
theorem dL_run_8 : decode cL_run 8 = .ok (.lastore, 1) := by decide +kernel
theorem dL_run_9 : decode cL_run 9 = .ok (.goto 9, 3) := by decide +kernel
theorem dL_run_12 : decode cL_run 12 = .ok (.astore_n 3, 1) := by decide +kernel
theorem dL_run_13 : decode cL_run 13 = .ok (.iconst 1, 1) := by decide +kernel
theorem dL_run_14 : decode cL_run 14 = .ok (.ireturn, 1) := by decide +kernel
theorem dL_run_15 : decode cL_run 15 = .ok (.astore_n 3, 1) := by decide +kernel
theorem dL_run_16 : decode cL_run 16 = .ok (.iconst 2, 1) := by decide +kernel
theorem dL_run_17 : decode cL_run 17 = .ok (.ireturn, 1) := by decide +kernel
theorem dL_run_18 : decode cL_run 18 = .ok (.iconst 0, 1) := by decide +kernel
theorem dL_run_19 : decode cL_run 19 = .ok (.ireturn, 1) := by decide +kernel
theorem dL_same_0 : decode cL_same 0 = .ok (.aload_n 3, 1) := by decide +kernel
theorem dL_same_1 : decode cL_same 1 = .ok (.iconst 0, 1) := by decide +kernel
theorem dL_same_2 : decode cL_same 2 = .ok (.aload_n 0, 1) := by decide +kernel
theorem dL_same_3 : decode cL_same 3 = .ok (.iload_n 1, 1) := by decide +kernel
theorem dL_same_4 : decode cL_same 4 = .ok (.iload_n 2, 1) := by decide +kernel
theorem dL_same_5 : decode cL_same 5 = .ok (.invokevirtual 42, 3) := by decide +kernel
theorem dL_same_8 : decode cL_same 8 = .ok (.ifCond .eq 7, 3) := by decide +kernel
theorem dL_same_11 : decode cL_same 11 = .ok (.lconst 1, 1) := by decide +kernel
theorem dL_same_12 : decode cL_same 12 = .ok (.goto 4, 3) := by decide +kernel
theorem dL_same_15 : decode cL_same 15 = .ok (.lconst 0, 1) := by decide +kernel
theorem dL_same_16 : decode cL_same 16 = .ok (.lastore, 1) := by decide +kernel
theorem dL_same_17 : decode cL_same 17 = .ok (.goto 7, 3) := by decide +kernel
theorem dL_same_20 : decode cL_same 20 = .ok (.astore 4, 2) := by decide +kernel
theorem dL_same_22 : decode cL_same 22 = .ok (.iconst 1, 1) := by decide +kernel
theorem dL_same_23 : decode cL_same 23 = .ok (.ireturn, 1) := by decide +kernel
theorem dL_same_24 : decode cL_same 24 = .ok (.iconst 0, 1) := by decide +kernel
theorem dL_same_25 : decode cL_same 25 = .ok (.ireturn, 1) := by decide +kernel
theorem dL_show_0 : decode cL_show 0 = .ok (.aload_n 3, 1) := by decide +kernel
theorem dL_show_1 : decode cL_show 1 = .ok (.iconst 0, 1) := by decide +kernel
theorem dL_show_2 : decode cL_show 2 = .ok (.aload_n 0, 1) := by decide +kernel
theorem dL_show_3 : decode cL_show 3 = .ok (.iload_n 1, 1) := by decide +kernel
theorem dL_show_4 : decode cL_show 4 = .ok (.iload_n 2, 1) := by decide +kernel
theorem dL_show_5 : decode cL_show 5 = .ok (.invokevirtual 52, 3) := by decide +kernel
theorem dL_show_8 : decode cL_show 8 = .ok (.i2l, 1) := by decide +kernel
theorem dL_show_9 : decode cL_show 9 = .ok (.lastore, 1) := by decide +kernel
theorem dL_show_10 : decode cL_show 10 = .ok (.goto 7, 3) := by decide +kernel
theorem dL_show_13 : decode cL_show 13 = .ok (.astore 4, 2) := by decide +kernel
theorem dL_show_15 : decode cL_show 15 = .ok (.iconst 1, 1) := by decide +kernel
theorem dL_show_16 : decode cL_show 16 = .ok (.ireturn, 1) := by decide +kernel
theorem dL_show_17 : decode cL_show 17 = .ok (.iconst 0, 1) := by decide +kernel
theorem dL_show_18 : decode cL_show 18 = .ok (.ireturn, 1) := by decide +kernel
theorem dL_source_0 : decode cL_source 0 = .ok (.aload_n 3, 1) := by decide +kernel
theorem dL_source_1 : decode cL_source 1 = .ok (.iconst 0, 1) := by decide +kernel
theorem dL_source_2 : decode cL_source 2 = .ok (.aload_n 0, 1) := by decide +kernel
theorem dL_source_3 : decode cL_source 3 = .ok (.iload_n 1, 1) := by decide +kernel
theorem dL_source_4 : decode cL_source 4 = .ok (.iload_n 2, 1) := by decide +kernel
theorem dL_source_5 : decode cL_source 5 = .ok (.invokevirtual 32, 3) := by decide +kernel
theorem dL_source_8 : decode cL_source 8 = .ok (.i2l, 1) := by decide +kernel
theorem dL_source_9 : decode cL_source 9 = .ok (.lastore, 1) := by decide +kernel
theorem dL_source_10 : decode cL_source 10 = .ok (.goto 7, 3) := by decide +kernel
theorem dL_source_13 : decode cL_source 13 = .ok (.astore 4, 2) := by decide +kernel
theorem dL_source_15 : decode cL_source 15 = .ok (.iconst 1, 1) := by decide +kernel
theorem dL_source_16 : decode cL_source 16 = .ok (.ireturn, 1) := by decide +kernel
theorem dL_source_17 : decode cL_source 17 = .ok (.iconst 0, 1) := by decide +kernel
theorem dL_source_18 : decode cL_source 18 = .ok (.ireturn, 1) := by decide +kernel
theorem dL_value_0 : decode cL_value 0 = .ok (.aload_n 3, 1) := by decide +kernel
theorem dL_value_1 : decode cL_value 1 = .ok (.iconst 0, 1) := by decide +kernel
theorem dL_value_2 : decode cL_value 2 = .ok (.aload_n 0, 1) := by decide +kernel
theorem dL_value_3 : decode cL_value 3 = .ok (.iload_n 1, 1) := by decide +kernel
theorem dL_value_4 : decode cL_value 4 = .ok (.iload_n 2, 1) := by decide +kernel
theorem dL_value_5 : decode cL_value 5 = .ok (.invokevirtual 35, 3) := by decide +kernel
theorem dL_value_8 : decode cL_value 8 = .ok (.i2l, 1) := by decide +kernel
theorem dL_value_9 : decode cL_value 9 = .ok (.lastore, 1) := by decide +kernel
theorem dL_value_10 : decode cL_value 10 = .ok (.goto 7, 3) := by decide +kernel
theorem dL_value_13 : decode cL_value 13 = .ok (.astore 4, 2) := by decide +kernel
theorem dL_value_15 : decode cL_value 15 = .ok (.iconst 1, 1) := by decide +kernel
theorem dL_value_16 : decode cL_value 16 = .ok (.ireturn, 1) := by decide +kernel
theorem dL_value_17 : decode cL_value 17 = .ok (.iconst 0, 1) := by decide +kernel
theorem dL_value_18 : decode cL_value 18 = .ok (.ireturn, 1) := by decide +kernel
theorem dX0_init_0 : decode cX0_init 0 = .ok (.aload_n 0, 1) := by decide +kernel
theorem dX0_init_1 : decode cX0_init 1 = .ok (.invokespecial 3, 3) := by decide +kernel
theorem dX0_init_4 : decode cX0_init 4 = .ok (.aload_n 0, 1) := by decide +kernel
theorem dX0_init_5 : decode cX0_init 5 = .ok (.bipush 60, 2) := by decide +kernel
theorem dX0_init_7 : decode cX0_init 7 = .ok (.newarray .int, 2) := by decide +kernel
theorem dX0_init_9 : decode cX0_init 9 = .ok (.putfield 9, 3) := by decide +kernel
theorem dX0_init_12 : decode cX0_init 12 = .ok (.aload_n 0, 1) := by decide +kernel
theorem dX0_init_13 : decode cX0_init 13 = .ok (.bipush 60, 2) := by decide +kernel
theorem dX0_init_15 : decode cX0_init 15 = .ok (.anewarray 15, 3) := by decide +kernel
theorem dX0_init_18 : decode cX0_init 18 = .ok (.putfield 17, 3) := by decide +kernel
theorem dX0_init_21 : decode cX0_init 21 = .ok (.return_, 1) := by decide +kernel
theorem dX10_forget_0 : decode cX10_forget 0 = .ok (.aload_n 0, 1) := by decide +kernel
theorem dX10_forget_1 : decode cX10_forget 1 = .ok (.iconst 0, 1) := by decide +kernel
theorem dX10_forget_2 : decode cX10_forget 2 = .ok (.putfield 21, 3) := by decide +kernel
theorem dX10_forget_5 : decode cX10_forget 5 = .ok (.aload_n 0, 1) := by decide +kernel
theorem dX10_forget_6 : decode cX10_forget 6 = .ok (.iconst 0, 1) := by decide +kernel
theorem dX10_forget_7 : decode cX10_forget 7 = .ok (.putfield 30, 3) := by decide +kernel
theorem dX10_forget_10 : decode cX10_forget 10 = .ok (.return_, 1) := by decide +kernel
theorem dX10_init_0 : decode cX10_init 0 = .ok (.aload_n 0, 1) := by decide +kernel
theorem dX10_init_1 : decode cX10_init 1 = .ok (.invokespecial 3, 3) := by decide +kernel
theorem dX10_init_4 : decode cX10_init 4 = .ok (.aload_n 0, 1) := by decide +kernel
theorem dX10_init_5 : decode cX10_init 5 = .ok (.iconst (-1), 1) := by decide +kernel
theorem dX10_init_6 : decode cX10_init 6 = .ok (.putfield 9, 3) := by decide +kernel
theorem dX10_init_9 : decode cX10_init 9 = .ok (.aload_n 0, 1) := by decide +kernel
theorem dX10_init_10 : decode cX10_init 10 = .ok (.bipush 17, 2) := by decide +kernel
theorem dX10_init_12 : decode cX10_init 12 = .ok (.anewarray 15, 3) := by decide +kernel
theorem dX10_init_15 : decode cX10_init 15 = .ok (.putfield 17, 3) := by decide +kernel
theorem dX10_init_18 : decode cX10_init 18 = .ok (.aload_n 0, 1) := by decide +kernel
theorem dX10_init_19 : decode cX10_init 19 = .ok (.iconst 0, 1) := by decide +kernel
theorem dX10_init_20 : decode cX10_init 20 = .ok (.putfield 21, 3) := by decide +kernel
theorem dX10_init_23 : decode cX10_init 23 = .ok (.aload_n 0, 1) := by decide +kernel
theorem dX10_init_24 : decode cX10_init 24 = .ok (.bipush 40, 2) := by decide +kernel
theorem dX10_init_26 : decode cX10_init 26 = .ok (.anewarray 24, 3) := by decide +kernel
theorem dX10_init_29 : decode cX10_init 29 = .ok (.putfield 26, 3) := by decide +kernel
theorem dX10_init_32 : decode cX10_init 32 = .ok (.aload_n 0, 1) := by decide +kernel
theorem dX10_init_33 : decode cX10_init 33 = .ok (.iconst 0, 1) := by decide +kernel
theorem dX10_init_34 : decode cX10_init 34 = .ok (.putfield 30, 3) := by decide +kernel
theorem dX10_init_37 : decode cX10_init 37 = .ok (.return_, 1) := by decide +kernel
theorem dX11_blame_0 : decode cX11_blame 0 = .ok (.iload_n 1, 1) := by decide +kernel
theorem dX11_blame_1 : decode cX11_blame 1 = .ok (.ifCond .ne 11, 3) := by decide +kernel
theorem dX11_blame_4 : decode cX11_blame 4 = .ok (.aload_n 0, 1) := by decide +kernel
theorem dX11_blame_5 : decode cX11_blame 5 = .ok (.getfield 60, 3) := by decide +kernel
theorem dX11_blame_8 : decode cX11_blame 8 = .ok (.getfield 157, 3) := by decide +kernel
theorem dX11_blame_11 : decode cX11_blame 11 = .ok (.ireturn, 1) := by decide +kernel
theorem dX11_blame_12 : decode cX11_blame 12 = .ok (.iload_n 1, 1) := by decide +kernel
theorem dX11_blame_13 : decode cX11_blame 13 = .ok (.iconst 5, 1) := by decide +kernel
theorem dX11_blame_14 : decode cX11_blame 14 = .ok (.if_icmp .ne 11, 3) := by decide +kernel
theorem dX11_blame_17 : decode cX11_blame 17 = .ok (.aload_n 0, 1) := by decide +kernel
theorem dX11_blame_18 : decode cX11_blame 18 = .ok (.getfield 60, 3) := by decide +kernel
theorem dX11_blame_21 : decode cX11_blame 21 = .ok (.getfield 164, 3) := by decide +kernel
theorem dX11_blame_24 : decode cX11_blame 24 = .ok (.ireturn, 1) := by decide +kernel
theorem dX11_blame_25 : decode cX11_blame 25 = .ok (.aload_n 0, 1) := by decide +kernel
theorem dX11_blame_26 : decode cX11_blame 26 = .ok (.getfield 60, 3) := by decide +kernel
theorem dX11_blame_29 : decode cX11_blame 29 = .ok (.getfield 157, 3) := by decide +kernel
theorem dX11_blame_32 : decode cX11_blame 32 = .ok (.ifCond .ne 5, 3) := by decide +kernel
theorem dX11_blame_35 : decode cX11_blame 35 = .ok (.iconst (-1), 1) := by decide +kernel
theorem dX11_blame_36 : decode cX11_blame 36 = .ok (.ireturn, 1) := by decide +kernel
theorem dX11_blame_37 : decode cX11_blame 37 = .ok (.iload_n 1, 1) := by decide +kernel
theorem dX11_blame_38 : decode cX11_blame 38 = .ok (.tableswitch 62 1 4 #[30, 38, 46, 54], 30) := by decide +kernel
theorem dX11_blame_68 : decode cX11_blame 68 = .ok (.aload_n 0, 1) := by decide +kernel
theorem dX11_blame_69 : decode cX11_blame 69 = .ok (.getfield 60, 3) := by decide +kernel
theorem dX11_blame_72 : decode cX11_blame 72 = .ok (.getfield 217, 3) := by decide +kernel
theorem dX11_blame_75 : decode cX11_blame 75 = .ok (.ireturn, 1) := by decide +kernel
theorem dX11_blame_76 : decode cX11_blame 76 = .ok (.aload_n 0, 1) := by decide +kernel
theorem dX11_blame_77 : decode cX11_blame 77 = .ok (.getfield 60, 3) := by decide +kernel
theorem dX11_blame_80 : decode cX11_blame 80 = .ok (.getfield 220, 3) := by decide +kernel
theorem dX11_blame_83 : decode cX11_blame 83 = .ok (.ireturn, 1) := by decide +kernel
theorem dX11_blame_84 : decode cX11_blame 84 = .ok (.aload_n 0, 1) := by decide +kernel
theorem dX11_blame_85 : decode cX11_blame 85 = .ok (.getfield 60, 3) := by decide +kernel
theorem dX11_blame_88 : decode cX11_blame 88 = .ok (.getfield 223, 3) := by decide +kernel
theorem dX11_blame_91 : decode cX11_blame 91 = .ok (.ireturn, 1) := by decide +kernel
theorem dX11_blame_92 : decode cX11_blame 92 = .ok (.aload_n 0, 1) := by decide +kernel
theorem dX11_blame_93 : decode cX11_blame 93 = .ok (.getfield 60, 3) := by decide +kernel
theorem dX11_blame_96 : decode cX11_blame 96 = .ok (.getfield 226, 3) := by decide +kernel
theorem dX11_blame_99 : decode cX11_blame 99 = .ok (.ireturn, 1) := by decide +kernel
theorem dX11_blame_100 : decode cX11_blame 100 = .ok (.iconst (-1), 1) := by decide +kernel
theorem dX11_blame_101 : decode cX11_blame 101 = .ok (.ireturn, 1) := by decide +kernel
theorem dX11_clear_0 : decode cX11_clear 0 = .ok (.iload_n 1, 1) := by decide +kernel
theorem dX11_clear_1 : decode cX11_clear 1 = .ok (.invokestatic 117, 3) := by decide +kernel
theorem dX11_clear_4 : decode cX11_clear 4 = .ok (.ifCond .ne 11, 3) := by decide +kernel
theorem dX11_clear_7 : decode cX11_clear 7 = .ok (.new 101, 3) := by decide +kernel
theorem dX11_clear_10 : decode cX11_clear 10 = .ok (.dup, 1) := by decide +kernel
theorem dX11_clear_11 : decode cX11_clear 11 = .ok (.invokespecial 103, 3) := by decide +kernel
theorem dX11_clear_14 : decode cX11_clear 14 = .ok (.athrow, 1) := by decide +kernel
theorem dX11_clear_15 : decode cX11_clear 15 = .ok (.aload_n 0, 1) := by decide +kernel
theorem dX11_clear_16 : decode cX11_clear 16 = .ok (.getfield 49, 3) := by decide +kernel
theorem dX11_clear_19 : decode cX11_clear 19 = .ok (.iload_n 1, 1) := by decide +kernel
theorem dX11_clear_20 : decode cX11_clear 20 = .ok (.aaload, 1) := by decide +kernel
theorem dX11_clear_21 : decode cX11_clear 21 = .ok (.getfield 145, 3) := by decide +kernel
theorem dX11_clear_24 : decode cX11_clear 24 = .ok (.istore_n 2, 1) := by decide +kernel
theorem dX11_clear_25 : decode cX11_clear 25 = .ok (.aload_n 0, 1) := by decide +kernel
theorem dX11_clear_26 : decode cX11_clear 26 = .ok (.getfield 49, 3) := by decide +kernel
theorem dX11_clear_29 : decode cX11_clear 29 = .ok (.iload_n 1, 1) := by decide +kernel
theorem dX11_clear_30 : decode cX11_clear 30 = .ok (.aaload, 1) := by decide +kernel
theorem dX11_clear_31 : decode cX11_clear 31 = .ok (.iconst 0, 1) := by decide +kernel
theorem dX11_clear_32 : decode cX11_clear 32 = .ok (.putfield 145, 3) := by decide +kernel
theorem dX11_clear_35 : decode cX11_clear 35 = .ok (.iload_n 2, 1) := by decide +kernel
theorem dX11_clear_36 : decode cX11_clear 36 = .ok (.ireturn, 1) := by decide +kernel
theorem dX11_count_0 : decode cX11_count 0 = .ok (.iload_n 1, 1) := by decide +kernel
theorem dX11_count_1 : decode cX11_count 1 = .ok (.tableswitch 102 0 8 #[51, 56, 61, 66, 74, 74, 74, 86, 94], 51) := by decide +kernel
theorem dX11_count_52 : decode cX11_count 52 = .ok (.aload_n 0, 1) := by decide +kernel
theorem dX11_count_53 : decode cX11_count 53 = .ok (.getfield 32, 3) := by decide +kernel
theorem dX11_count_56 : decode cX11_count 56 = .ok (.ireturn, 1) := by decide +kernel
theorem dX11_count_57 : decode cX11_count 57 = .ok (.aload_n 0, 1) := by decide +kernel
theorem dX11_count_58 : decode cX11_count 58 = .ok (.getfield 83, 3) := by decide +kernel
theorem dX11_count_61 : decode cX11_count 61 = .ok (.ireturn, 1) := by decide +kernel
theorem dX11_count_62 : decode cX11_count 62 = .ok (.aload_n 0, 1) := by decide +kernel
theorem dX11_count_63 : decode cX11_count 63 = .ok (.getfield 15, 3) := by decide +kernel
theorem dX11_count_66 : decode cX11_count 66 = .ok (.ireturn, 1) := by decide +kernel
theorem dX11_count_67 : decode cX11_count 67 = .ok (.aload_n 0, 1) := by decide +kernel
theorem dX11_count_68 : decode cX11_count 68 = .ok (.getfield 22, 3) := by decide +kernel
theorem dX11_count_71 : decode cX11_count 71 = .ok (.invokevirtual 233, 3) := by decide +kernel
theorem dX11_count_74 : decode cX11_count 74 = .ok (.ireturn, 1) := by decide +kernel
theorem dX11_count_75 : decode cX11_count 75 = .ok (.aload_n 0, 1) := by decide +kernel
theorem dX11_count_76 : decode cX11_count 76 = .ok (.getfield 49, 3) := by decide +kernel
theorem dX11_count_79 : decode cX11_count 79 = .ok (.iload_n 1, 1) := by decide +kernel
theorem dX11_count_80 : decode cX11_count 80 = .ok (.iconst 4, 1) := by decide +kernel
theorem dX11_count_81 : decode cX11_count 81 = .ok (.isub, 1) := by decide +kernel
theorem dX11_count_82 : decode cX11_count 82 = .ok (.aaload, 1) := by decide +kernel
theorem dX11_count_83 : decode cX11_count 83 = .ok (.getfield 145, 3) := by decide +kernel
theorem dX11_count_86 : decode cX11_count 86 = .ok (.ireturn, 1) := by decide +kernel
theorem dX11_count_87 : decode cX11_count 87 = .ok (.aload_n 0, 1) := by decide +kernel
theorem dX11_count_88 : decode cX11_count 88 = .ok (.getfield 73, 3) := by decide +kernel
theorem dX11_count_91 : decode cX11_count 91 = .ok (.getfield 236, 3) := by decide +kernel
theorem dX11_count_94 : decode cX11_count 94 = .ok (.ireturn, 1) := by decide +kernel
theorem dX11_count_95 : decode cX11_count 95 = .ok (.aload_n 0, 1) := by decide +kernel
theorem dX11_count_96 : decode cX11_count 96 = .ok (.getfield 73, 3) := by decide +kernel
theorem dX11_count_99 : decode cX11_count 99 = .ok (.getfield 239, 3) := by decide +kernel
theorem dX11_count_102 : decode cX11_count 102 = .ok (.ireturn, 1) := by decide +kernel
theorem dX11_count_103 : decode cX11_count 103 = .ok (.iconst (-1), 1) := by decide +kernel
theorem dX11_count_104 : decode cX11_count 104 = .ok (.ireturn, 1) := by decide +kernel
theorem dX11_describe_0 : decode cX11_describe 0 = .ok (.aload_n 0, 1) := by decide +kernel
theorem dX11_describe_1 : decode cX11_describe 1 = .ok (.iload_n 1, 1) := by decide +kernel
theorem dX11_describe_2 : decode cX11_describe 2 = .ok (.invokevirtual 97, 3) := by decide +kernel
theorem dX11_describe_5 : decode cX11_describe 5 = .ok (.ifCond .ne 11, 3) := by decide +kernel
theorem dX11_describe_8 : decode cX11_describe 8 = .ok (.new 101, 3) := by decide +kernel
theorem dX11_describe_11 : decode cX11_describe 11 = .ok (.dup, 1) := by decide +kernel
theorem dX11_describe_12 : decode cX11_describe 12 = .ok (.invokespecial 103, 3) := by decide +kernel
theorem dX11_describe_15 : decode cX11_describe 15 = .ok (.athrow, 1) := by decide +kernel
theorem dX11_describe_16 : decode cX11_describe 16 = .ok (.aload_n 0, 1) := by decide +kernel
theorem dX11_describe_17 : decode cX11_describe 17 = .ok (.iconst 0, 1) := by decide +kernel
theorem dX11_describe_18 : decode cX11_describe 18 = .ok (.putfield 15, 3) := by decide +kernel
theorem dX11_describe_21 : decode cX11_describe 21 = .ok (.aload_n 0, 1) := by decide +kernel
theorem dX11_describe_22 : decode cX11_describe 22 = .ok (.getfield 43, 3) := by decide +kernel
theorem dX11_describe_25 : decode cX11_describe 25 = .ok (.aload_n 0, 1) := by decide +kernel
theorem dX11_describe_26 : decode cX11_describe 26 = .ok (.getfield 11, 3) := by decide +kernel
theorem dX11_describe_29 : decode cX11_describe 29 = .ok (.iload_n 1, 1) := by decide +kernel
theorem dX11_describe_30 : decode cX11_describe 30 = .ok (.aload_n 0, 1) := by decide +kernel
theorem dX11_describe_31 : decode cX11_describe 31 = .ok (.getfield 28, 3) := by decide +kernel
theorem dX11_describe_34 : decode cX11_describe 34 = .ok (.aload_n 0, 1) := by decide +kernel
theorem dX11_describe_35 : decode cX11_describe 35 = .ok (.getfield 32, 3) := by decide +kernel
theorem dX11_describe_38 : decode cX11_describe 38 = .ok (.aload_n 0, 1) := by decide +kernel
theorem dX11_describe_39 : decode cX11_describe 39 = .ok (.getfield 36, 3) := by decide +kernel
theorem dX11_describe_42 : decode cX11_describe 42 = .ok (.invokevirtual 104, 3) := by decide +kernel
theorem dX11_describe_45 : decode cX11_describe 45 = .ok (.ifCond .ne 14, 3) := by decide +kernel
theorem dX11_describe_48 : decode cX11_describe 48 = .ok (.aload_n 0, 1) := by decide +kernel
theorem dX11_describe_49 : decode cX11_describe 49 = .ok (.getfield 43, 3) := by decide +kernel
theorem dX11_describe_52 : decode cX11_describe 52 = .ok (.getfield 108, 3) := by decide +kernel
theorem dX11_describe_55 : decode cX11_describe 55 = .ok (.bipush 10, 2) := by decide +kernel
theorem dX11_describe_57 : decode cX11_describe 57 = .ok (.isub, 1) := by decide +kernel
theorem dX11_describe_58 : decode cX11_describe 58 = .ok (.ireturn, 1) := by decide +kernel
theorem dX11_describe_59 : decode cX11_describe 59 = .ok (.aload_n 0, 1) := by decide +kernel
theorem dX11_describe_60 : decode cX11_describe 60 = .ok (.getfield 32, 3) := by decide +kernel
theorem dX11_describe_63 : decode cX11_describe 63 = .ok (.aload_n 0, 1) := by decide +kernel
theorem dX11_describe_64 : decode cX11_describe 64 = .ok (.getfield 28, 3) := by decide +kernel
theorem dX11_describe_67 : decode cX11_describe 67 = .ok (.arraylength, 1) := by decide +kernel
theorem dX11_describe_68 : decode cX11_describe 68 = .ok (.if_icmp .ge 48, 3) := by decide +kernel
theorem dX11_describe_71 : decode cX11_describe 71 = .ok (.aload_n 0, 1) := by decide +kernel
theorem dX11_describe_72 : decode cX11_describe 72 = .ok (.getfield 36, 3) := by decide +kernel
theorem dX11_describe_75 : decode cX11_describe 75 = .ok (.aload_n 0, 1) := by decide +kernel
theorem dX11_describe_76 : decode cX11_describe 76 = .ok (.getfield 32, 3) := by decide +kernel
theorem dX11_describe_79 : decode cX11_describe 79 = .ok (.putfield 111, 3) := by decide +kernel
theorem dX11_describe_82 : decode cX11_describe 82 = .ok (.aload_n 0, 1) := by decide +kernel
theorem dX11_describe_83 : decode cX11_describe 83 = .ok (.getfield 28, 3) := by decide +kernel
theorem dX11_describe_86 : decode cX11_describe 86 = .ok (.aload_n 0, 1) := by decide +kernel
theorem dX11_describe_87 : decode cX11_describe 87 = .ok (.getfield 32, 3) := by decide +kernel
theorem dX11_describe_90 : decode cX11_describe 90 = .ok (.aload_n 0, 1) := by decide +kernel
theorem dX11_describe_91 : decode cX11_describe 91 = .ok (.getfield 36, 3) := by decide +kernel
theorem dX11_describe_94 : decode cX11_describe 94 = .ok (.aastore, 1) := by decide +kernel
theorem dX11_describe_95 : decode cX11_describe 95 = .ok (.aload_n 0, 1) := by decide +kernel
theorem dX11_describe_96 : decode cX11_describe 96 = .ok (.dup, 1) := by decide +kernel
theorem dX11_describe_97 : decode cX11_describe 97 = .ok (.getfield 32, 3) := by decide +kernel
theorem dX11_describe_100 : decode cX11_describe 100 = .ok (.iconst 1, 1) := by decide +kernel
theorem dX11_describe_101 : decode cX11_describe 101 = .ok (.iadd, 1) := by decide +kernel
theorem dX11_describe_102 : decode cX11_describe 102 = .ok (.putfield 32, 3) := by decide +kernel
theorem dX11_describe_105 : decode cX11_describe 105 = .ok (.aload_n 0, 1) := by decide +kernel
theorem dX11_describe_106 : decode cX11_describe 106 = .ok (.new 26, 3) := by decide +kernel
theorem dX11_describe_109 : decode cX11_describe 109 = .ok (.dup, 1) := by decide +kernel
theorem dX11_describe_110 : decode cX11_describe 110 = .ok (.invokespecial 35, 3) := by decide +kernel
theorem dX11_describe_113 : decode cX11_describe 113 = .ok (.putfield 36, 3) := by decide +kernel
theorem dX11_describe_116 : decode cX11_describe 116 = .ok (.aload_n 0, 1) := by decide +kernel
theorem dX11_describe_117 : decode cX11_describe 117 = .ok (.getfield 32, 3) := by decide +kernel
theorem dX11_describe_120 : decode cX11_describe 120 = .ok (.iconst 1, 1) := by decide +kernel
theorem dX11_describe_121 : decode cX11_describe 121 = .ok (.isub, 1) := by decide +kernel
theorem dX11_describe_122 : decode cX11_describe 122 = .ok (.ireturn, 1) := by decide +kernel
theorem dX11_ends_0 : decode cX11_ends 0 = .ok (.aload_n 0, 1) := by decide +kernel
theorem dX11_ends_1 : decode cX11_ends 1 = .ok (.iload_n 1, 1) := by decide +kernel
theorem dX11_ends_2 : decode cX11_ends 2 = .ok (.invokevirtual 148, 3) := by decide +kernel
theorem dX11_ends_5 : decode cX11_ends 5 = .ok (.ifCond .ne 11, 3) := by decide +kernel
theorem dX11_ends_8 : decode cX11_ends 8 = .ok (.new 101, 3) := by decide +kernel
theorem dX11_ends_11 : decode cX11_ends 11 = .ok (.dup, 1) := by decide +kernel
theorem dX11_ends_12 : decode cX11_ends 12 = .ok (.invokespecial 103, 3) := by decide +kernel
theorem dX11_ends_15 : decode cX11_ends 15 = .ok (.athrow, 1) := by decide +kernel
theorem dX11_ends_16 : decode cX11_ends 16 = .ok (.aload_n 0, 1) := by decide +kernel
theorem dX11_ends_17 : decode cX11_ends 17 = .ok (.iload_n 1, 1) := by decide +kernel
theorem dX11_ends_18 : decode cX11_ends 18 = .ok (.invokevirtual 154, 3) := by decide +kernel
theorem dX11_ends_21 : decode cX11_ends 21 = .ok (.aload_n 0, 1) := by decide +kernel
theorem dX11_ends_22 : decode cX11_ends 22 = .ok (.getfield 60, 3) := by decide +kernel
theorem dX11_ends_25 : decode cX11_ends 25 = .ok (.invokevirtual 288, 3) := by decide +kernel
theorem dX11_ends_28 : decode cX11_ends 28 = .ok (.astore_n 2, 1) := by decide +kernel
theorem dX11_ends_29 : decode cX11_ends 29 = .ok (.aload_n 0, 1) := by decide +kernel
theorem dX11_ends_30 : decode cX11_ends 30 = .ok (.getfield 60, 3) := by decide +kernel
theorem dX11_ends_33 : decode cX11_ends 33 = .ok (.getfield 157, 3) := by decide +kernel
theorem dX11_ends_36 : decode cX11_ends 36 = .ok (.ifCond .ne 33, 3) := by decide +kernel
theorem dX11_ends_39 : decode cX11_ends 39 = .ok (.aload_n 0, 1) := by decide +kernel
theorem dX11_ends_40 : decode cX11_ends 40 = .ok (.getfield 60, 3) := by decide +kernel
theorem dX11_ends_43 : decode cX11_ends 43 = .ok (.aload_n 0, 1) := by decide +kernel
theorem dX11_ends_44 : decode cX11_ends 44 = .ok (.getfield 49, 3) := by decide +kernel
theorem dX11_ends_47 : decode cX11_ends 47 = .ok (.iconst 2, 1) := by decide +kernel
theorem dX11_ends_48 : decode cX11_ends 48 = .ok (.aaload, 1) := by decide +kernel
theorem dX11_ends_49 : decode cX11_ends 49 = .ok (.aload_n 0, 1) := by decide +kernel
theorem dX11_ends_50 : decode cX11_ends 50 = .ok (.getfield 60, 3) := by decide +kernel
theorem dX11_ends_53 : decode cX11_ends 53 = .ok (.getfield 292, 3) := by decide +kernel
theorem dX11_ends_56 : decode cX11_ends 56 = .ok (.ifCond .eq 8, 3) := by decide +kernel
theorem dX11_ends_59 : decode cX11_ends 59 = .ok (.bipush 60, 2) := by decide +kernel
theorem dX11_ends_61 : decode cX11_ends 61 = .ok (.goto 5, 3) := by decide +kernel
theorem dX11_ends_64 : decode cX11_ends 64 = .ok (.bipush 59, 2) := by decide +kernel
theorem dX11_ends_66 : decode cX11_ends 66 = .ok (.invokevirtual 160, 3) := by decide +kernel
theorem dX11_ends_69 : decode cX11_ends 69 = .ok (.aload_n 0, 1) := by decide +kernel
theorem dX11_ends_70 : decode cX11_ends 70 = .ok (.getfield 60, 3) := by decide +kernel
theorem dX11_ends_73 : decode cX11_ends 73 = .ok (.getfield 157, 3) := by decide +kernel
theorem dX11_ends_76 : decode cX11_ends 76 = .ok (.ifCond .ne 38, 3) := by decide +kernel
theorem dX11_ends_79 : decode cX11_ends 79 = .ok (.aload_n 0, 1) := by decide +kernel
theorem dX11_ends_80 : decode cX11_ends 80 = .ok (.getfield 60, 3) := by decide +kernel
theorem dX11_ends_83 : decode cX11_ends 83 = .ok (.getfield 164, 3) := by decide +kernel
theorem dX11_ends_86 : decode cX11_ends 86 = .ok (.ifCond .le 28, 3) := by decide +kernel
theorem dX11_ends_89 : decode cX11_ends 89 = .ok (.aload_n 0, 1) := by decide +kernel
theorem dX11_ends_90 : decode cX11_ends 90 = .ok (.getfield 66, 3) := by decide +kernel
theorem dX11_ends_93 : decode cX11_ends 93 = .ok (.aload_n 0, 1) := by decide +kernel
theorem dX11_ends_94 : decode cX11_ends 94 = .ok (.getfield 60, 3) := by decide +kernel
theorem dX11_ends_97 : decode cX11_ends 97 = .ok (.aload_n 0, 1) := by decide +kernel
theorem dX11_ends_98 : decode cX11_ends 98 = .ok (.getfield 28, 3) := by decide +kernel
theorem dX11_ends_101 : decode cX11_ends 101 = .ok (.aload_n 0, 1) := by decide +kernel
theorem dX11_ends_102 : decode cX11_ends 102 = .ok (.getfield 32, 3) := by decide +kernel
theorem dX11_ends_105 : decode cX11_ends 105 = .ok (.aload_n 0, 1) := by decide +kernel
theorem dX11_ends_106 : decode cX11_ends 106 = .ok (.getfield 87, 3) := by decide +kernel
theorem dX11_ends_109 : decode cX11_ends 109 = .ok (.iconst 1, 1) := by decide +kernel
theorem dX11_ends_110 : decode cX11_ends 110 = .ok (.invokevirtual 169, 3) := by decide +kernel
theorem dX11_ends_113 : decode cX11_ends 113 = .ok (.pop, 1) := by decide +kernel
theorem dX11_ends_114 : decode cX11_ends 114 = .ok (.aload_n 0, 1) := by decide +kernel
theorem dX11_ends_115 : decode cX11_ends 115 = .ok (.getfield 60, 3) := by decide +kernel
theorem dX11_ends_118 : decode cX11_ends 118 = .ok (.getfield 157, 3) := by decide +kernel
theorem dX11_ends_121 : decode cX11_ends 121 = .ok (.ifCond .eq 18, 3) := by decide +kernel
theorem dX11_ends_124 : decode cX11_ends 124 = .ok (.aload_n 0, 1) := by decide +kernel
theorem dX11_ends_125 : decode cX11_ends 125 = .ok (.invokevirtual 188, 3) := by decide +kernel
theorem dX11_ends_128 : decode cX11_ends 128 = .ok (.aload_n 0, 1) := by decide +kernel
theorem dX11_ends_129 : decode cX11_ends 129 = .ok (.getfield 60, 3) := by decide +kernel
theorem dX11_ends_132 : decode cX11_ends 132 = .ok (.getfield 157, 3) := by decide +kernel
theorem dX11_ends_135 : decode cX11_ends 135 = .ok (.bipush 20, 2) := by decide +kernel
theorem dX11_ends_137 : decode cX11_ends 137 = .ok (.isub, 1) := by decide +kernel
theorem dX11_ends_138 : decode cX11_ends 138 = .ok (.ireturn, 1) := by decide +kernel
theorem dX11_ends_139 : decode cX11_ends 139 = .ok (.aload_n 0, 1) := by decide +kernel
theorem dX11_ends_140 : decode cX11_ends 140 = .ok (.getfield 60, 3) := by decide +kernel
theorem dX11_ends_143 : decode cX11_ends 143 = .ok (.getfield 292, 3) := by decide +kernel
theorem dX11_ends_146 : decode cX11_ends 146 = .ok (.ifCond .eq 5, 3) := by decide +kernel
theorem dX11_ends_149 : decode cX11_ends 149 = .ok (.iconst 0, 1) := by decide +kernel
theorem dX11_ends_150 : decode cX11_ends 150 = .ok (.ireturn, 1) := by decide +kernel
theorem dX11_ends_151 : decode cX11_ends 151 = .ok (.aload_n 0, 1) := by decide +kernel
theorem dX11_ends_152 : decode cX11_ends 152 = .ok (.getfield 60, 3) := by decide +kernel
theorem dX11_ends_155 : decode cX11_ends 155 = .ok (.getfield 164, 3) := by decide +kernel
theorem dX11_ends_158 : decode cX11_ends 158 = .ok (.ifCond .ne 28, 3) := by decide +kernel
theorem dX11_ends_161 : decode cX11_ends 161 = .ok (.aload_n 0, 1) := by decide +kernel
theorem dX11_ends_162 : decode cX11_ends 162 = .ok (.getfield 73, 3) := by decide +kernel
theorem dX11_ends_165 : decode cX11_ends 165 = .ok (.aload_n 2, 1) := by decide +kernel
theorem dX11_ends_166 : decode cX11_ends 166 = .ok (.aload_n 0, 1) := by decide +kernel
theorem dX11_ends_167 : decode cX11_ends 167 = .ok (.getfield 28, 3) := by decide +kernel
theorem dX11_ends_170 : decode cX11_ends 170 = .ok (.aload_n 0, 1) := by decide +kernel
theorem dX11_ends_171 : decode cX11_ends 171 = .ok (.getfield 32, 3) := by decide +kernel
theorem dX11_ends_174 : decode cX11_ends 174 = .ok (.aload_n 0, 1) := by decide +kernel
theorem dX11_ends_175 : decode cX11_ends 175 = .ok (.getfield 49, 3) := by decide +kernel
theorem dX11_ends_178 : decode cX11_ends 178 = .ok (.iconst 2, 1) := by decide +kernel
theorem dX11_ends_179 : decode cX11_ends 179 = .ok (.aaload, 1) := by decide +kernel
theorem dX11_ends_180 : decode cX11_ends 180 = .ok (.invokevirtual 296, 3) := by decide +kernel
theorem dX11_ends_183 : decode cX11_ends 183 = .ok (.goto 15, 3) := by decide +kernel
theorem dX11_ends_186 : decode cX11_ends 186 = .ok (.aload_n 0, 1) := by decide +kernel
theorem dX11_ends_187 : decode cX11_ends 187 = .ok (.getfield 73, 3) := by decide +kernel
theorem dX11_ends_190 : decode cX11_ends 190 = .ok (.aload_n 2, 1) := by decide +kernel
theorem dX11_ends_191 : decode cX11_ends 191 = .ok (.aload_n 0, 1) := by decide +kernel
theorem dX11_ends_192 : decode cX11_ends 192 = .ok (.getfield 66, 3) := by decide +kernel
theorem dX11_ends_195 : decode cX11_ends 195 = .ok (.invokevirtual 300, 3) := by decide +kernel
theorem dX11_ends_198 : decode cX11_ends 198 = .ok (.aload_n 0, 1) := by decide +kernel
theorem dX11_ends_199 : decode cX11_ends 199 = .ok (.getfield 73, 3) := by decide +kernel
theorem dX11_ends_202 : decode cX11_ends 202 = .ok (.getfield 236, 3) := by decide +kernel
theorem dX11_ends_205 : decode cX11_ends 205 = .ok (.ireturn, 1) := by decide +kernel
theorem dX11_fault_0 : decode cX11_fault 0 = .ok (.aload_n 0, 1) := by decide +kernel
theorem dX11_fault_1 : decode cX11_fault 1 = .ok (.getfield 43, 3) := by decide +kernel
theorem dX11_fault_4 : decode cX11_fault 4 = .ok (.getfield 114, 3) := by decide +kernel
theorem dX11_fault_7 : decode cX11_fault 7 = .ok (.ireturn, 1) := by decide +kernel
theorem dX11_feed_0 : decode cX11_feed 0 = .ok (.aload_n 0, 1) := by decide +kernel
theorem dX11_feed_1 : decode cX11_feed 1 = .ok (.getfield 15, 3) := by decide +kernel
theorem dX11_feed_4 : decode cX11_feed 4 = .ok (.bipush 20, 2) := by decide +kernel
theorem dX11_feed_6 : decode cX11_feed 6 = .ok (.iadd, 1) := by decide +kernel
theorem dX11_feed_7 : decode cX11_feed 7 = .ok (.sipush 2000, 3) := by decide +kernel
theorem dX11_feed_10 : decode cX11_feed 10 = .ok (.if_icmp .le 5, 3) := by decide +kernel
theorem dX11_feed_13 : decode cX11_feed 13 = .ok (.iconst (-1), 1) := by decide +kernel
theorem dX11_feed_14 : decode cX11_feed 14 = .ok (.ireturn, 1) := by decide +kernel
theorem dX11_feed_15 : decode cX11_feed 15 = .ok (.aload_n 0, 1) := by decide +kernel
theorem dX11_feed_16 : decode cX11_feed 16 = .ok (.iload_n 1, 1) := by decide +kernel
theorem dX11_feed_17 : decode cX11_feed 17 = .ok (.invokevirtual 94, 3) := by decide +kernel
theorem dX11_feed_20 : decode cX11_feed 20 = .ok (.aload_n 0, 1) := by decide +kernel
theorem dX11_feed_21 : decode cX11_feed 21 = .ok (.iload_n 2, 1) := by decide +kernel
theorem dX11_feed_22 : decode cX11_feed 22 = .ok (.invokevirtual 94, 3) := by decide +kernel
theorem dX11_feed_25 : decode cX11_feed 25 = .ok (.aload_n 0, 1) := by decide +kernel
theorem dX11_feed_26 : decode cX11_feed 26 = .ok (.iload_n 3, 1) := by decide +kernel
theorem dX11_feed_27 : decode cX11_feed 27 = .ok (.invokevirtual 94, 3) := by decide +kernel
theorem dX11_feed_30 : decode cX11_feed 30 = .ok (.aload_n 0, 1) := by decide +kernel
theorem dX11_feed_31 : decode cX11_feed 31 = .ok (.iload 4, 2) := by decide +kernel
theorem dX11_feed_33 : decode cX11_feed 33 = .ok (.invokevirtual 94, 3) := by decide +kernel
theorem dX11_feed_36 : decode cX11_feed 36 = .ok (.aload_n 0, 1) := by decide +kernel
theorem dX11_feed_37 : decode cX11_feed 37 = .ok (.iload 5, 2) := by decide +kernel
theorem dX11_feed_39 : decode cX11_feed 39 = .ok (.invokevirtual 94, 3) := by decide +kernel
theorem dX11_feed_42 : decode cX11_feed 42 = .ok (.aload_n 0, 1) := by decide +kernel
theorem dX11_feed_43 : decode cX11_feed 43 = .ok (.getfield 15, 3) := by decide +kernel
theorem dX11_feed_46 : decode cX11_feed 46 = .ok (.ireturn, 1) := by decide +kernel
theorem dX11_feedFour_0 : decode cX11_feedFour 0 = .ok (.bipush 24, 2) := by decide +kernel
theorem dX11_feedFour_2 : decode cX11_feedFour 2 = .ok (.istore_n 2, 1) := by decide +kernel
theorem dX11_feedFour_3 : decode cX11_feedFour 3 = .ok (.iload_n 2, 1) := by decide +kernel
theorem dX11_feedFour_4 : decode cX11_feedFour 4 = .ok (.ifCond .lt 48, 3) := by decide +kernel
theorem dX11_feedFour_7 : decode cX11_feedFour 7 = .ok (.aload_n 0, 1) := by decide +kernel
theorem dX11_feedFour_8 : decode cX11_feedFour 8 = .ok (.getfield 15, 3) := by decide +kernel
theorem dX11_feedFour_11 : decode cX11_feedFour 11 = .ok (.aload_n 0, 1) := by decide +kernel
theorem dX11_feedFour_12 : decode cX11_feedFour 12 = .ok (.getfield 11, 3) := by decide +kernel
theorem dX11_feedFour_15 : decode cX11_feedFour 15 = .ok (.arraylength, 1) := by decide +kernel
theorem dX11_feedFour_16 : decode cX11_feedFour 16 = .ok (.if_icmp .ge 36, 3) := by decide +kernel
theorem dX11_feedFour_19 : decode cX11_feedFour 19 = .ok (.aload_n 0, 1) := by decide +kernel
theorem dX11_feedFour_20 : decode cX11_feedFour 20 = .ok (.getfield 11, 3) := by decide +kernel
theorem dX11_feedFour_23 : decode cX11_feedFour 23 = .ok (.aload_n 0, 1) := by decide +kernel
theorem dX11_feedFour_24 : decode cX11_feedFour 24 = .ok (.getfield 15, 3) := by decide +kernel
theorem dX11_feedFour_27 : decode cX11_feedFour 27 = .ok (.iload_n 1, 1) := by decide +kernel
theorem dX11_feedFour_28 : decode cX11_feedFour 28 = .ok (.iload_n 2, 1) := by decide +kernel
theorem dX11_feedFour_29 : decode cX11_feedFour 29 = .ok (.iushr, 1) := by decide +kernel
theorem dX11_feedFour_30 : decode cX11_feedFour 30 = .ok (.sipush 255, 3) := by decide +kernel
theorem dX11_feedFour_33 : decode cX11_feedFour 33 = .ok (.iand, 1) := by decide +kernel
theorem dX11_feedFour_34 : decode cX11_feedFour 34 = .ok (.i2c, 1) := by decide +kernel
theorem dX11_feedFour_35 : decode cX11_feedFour 35 = .ok (.castore, 1) := by decide +kernel
theorem dX11_feedFour_36 : decode cX11_feedFour 36 = .ok (.aload_n 0, 1) := by decide +kernel
theorem dX11_feedFour_37 : decode cX11_feedFour 37 = .ok (.dup, 1) := by decide +kernel
theorem dX11_feedFour_38 : decode cX11_feedFour 38 = .ok (.getfield 15, 3) := by decide +kernel
theorem dX11_feedFour_41 : decode cX11_feedFour 41 = .ok (.iconst 1, 1) := by decide +kernel
theorem dX11_feedFour_42 : decode cX11_feedFour 42 = .ok (.iadd, 1) := by decide +kernel
theorem dX11_feedFour_43 : decode cX11_feedFour 43 = .ok (.putfield 15, 3) := by decide +kernel
theorem dX11_feedFour_46 : decode cX11_feedFour 46 = .ok (.iinc 2 (-8), 3) := by decide +kernel
theorem dX11_feedFour_49 : decode cX11_feedFour 49 = .ok (.goto (-46), 3) := by decide +kernel
theorem dX11_feedFour_52 : decode cX11_feedFour 52 = .ok (.return_, 1) := by decide +kernel
theorem dX11_findNear_0 : decode cX11_findNear 0 = .ok (.aload_n 0, 1) := by decide +kernel
theorem dX11_findNear_1 : decode cX11_findNear 1 = .ok (.getfield 60, 3) := by decide +kernel
theorem dX11_findNear_4 : decode cX11_findNear 4 = .ok (.getfield 157, 3) := by decide +kernel
theorem dX11_findNear_7 : decode cX11_findNear 7 = .ok (.iconst 5, 1) := by decide +kernel
theorem dX11_findNear_8 : decode cX11_findNear 8 = .ok (.if_icmp .ne 37, 3) := by decide +kernel
theorem dX11_findNear_11 : decode cX11_findNear 11 = .ok (.aload_n 0, 1) := by decide +kernel
theorem dX11_findNear_12 : decode cX11_findNear 12 = .ok (.getfield 60, 3) := by decide +kernel
theorem dX11_findNear_15 : decode cX11_findNear 15 = .ok (.getfield 164, 3) := by decide +kernel
theorem dX11_findNear_18 : decode cX11_findNear 18 = .ok (.ifCond .le 27, 3) := by decide +kernel
theorem dX11_findNear_21 : decode cX11_findNear 21 = .ok (.aload_n 0, 1) := by decide +kernel
theorem dX11_findNear_22 : decode cX11_findNear 22 = .ok (.getfield 73, 3) := by decide +kernel
theorem dX11_findNear_25 : decode cX11_findNear 25 = .ok (.aload_n 0, 1) := by decide +kernel
theorem dX11_findNear_26 : decode cX11_findNear 26 = .ok (.getfield 28, 3) := by decide +kernel
theorem dX11_findNear_29 : decode cX11_findNear 29 = .ok (.aload_n 0, 1) := by decide +kernel
theorem dX11_findNear_30 : decode cX11_findNear 30 = .ok (.getfield 32, 3) := by decide +kernel
theorem dX11_findNear_33 : decode cX11_findNear 33 = .ok (.aload_n 0, 1) := by decide +kernel
theorem dX11_findNear_34 : decode cX11_findNear 34 = .ok (.getfield 60, 3) := by decide +kernel
theorem dX11_findNear_37 : decode cX11_findNear 37 = .ok (.getfield 194, 3) := by decide +kernel
theorem dX11_findNear_40 : decode cX11_findNear 40 = .ok (.iconst 0, 1) := by decide +kernel
theorem dX11_findNear_41 : decode cX11_findNear 41 = .ok (.aaload, 1) := by decide +kernel
theorem dX11_findNear_42 : decode cX11_findNear 42 = .ok (.invokevirtual 198, 3) := by decide +kernel
theorem dX11_findNear_45 : decode cX11_findNear 45 = .ok (.aload_n 0, 1) := by decide +kernel
theorem dX11_findNear_46 : decode cX11_findNear 46 = .ok (.getfield 60, 3) := by decide +kernel
theorem dX11_findNear_49 : decode cX11_findNear 49 = .ok (.getfield 157, 3) := by decide +kernel
theorem dX11_findNear_52 : decode cX11_findNear 52 = .ok (.bipush 6, 2) := by decide +kernel
theorem dX11_findNear_54 : decode cX11_findNear 54 = .ok (.if_icmp .ne 41, 3) := by decide +kernel
theorem dX11_findNear_57 : decode cX11_findNear 57 = .ok (.aload_n 0, 1) := by decide +kernel
theorem dX11_findNear_58 : decode cX11_findNear 58 = .ok (.getfield 66, 3) := by decide +kernel
theorem dX11_findNear_61 : decode cX11_findNear 61 = .ok (.getfield 202, 3) := by decide +kernel
theorem dX11_findNear_64 : decode cX11_findNear 64 = .ok (.ifnull 31, 3) := by decide +kernel
theorem dX11_findNear_67 : decode cX11_findNear 67 = .ok (.aload_n 0, 1) := by decide +kernel
theorem dX11_findNear_68 : decode cX11_findNear 68 = .ok (.getfield 73, 3) := by decide +kernel
theorem dX11_findNear_71 : decode cX11_findNear 71 = .ok (.aload_n 0, 1) := by decide +kernel
theorem dX11_findNear_72 : decode cX11_findNear 72 = .ok (.getfield 66, 3) := by decide +kernel
theorem dX11_findNear_75 : decode cX11_findNear 75 = .ok (.getfield 206, 3) := by decide +kernel
theorem dX11_findNear_78 : decode cX11_findNear 78 = .ok (.aload_n 0, 1) := by decide +kernel
theorem dX11_findNear_79 : decode cX11_findNear 79 = .ok (.getfield 66, 3) := by decide +kernel
theorem dX11_findNear_82 : decode cX11_findNear 82 = .ok (.getfield 209, 3) := by decide +kernel
theorem dX11_findNear_85 : decode cX11_findNear 85 = .ok (.aload_n 0, 1) := by decide +kernel
theorem dX11_findNear_86 : decode cX11_findNear 86 = .ok (.getfield 66, 3) := by decide +kernel
theorem dX11_findNear_89 : decode cX11_findNear 89 = .ok (.getfield 202, 3) := by decide +kernel
theorem dX11_findNear_92 : decode cX11_findNear 92 = .ok (.invokevirtual 213, 3) := by decide +kernel
theorem dX11_findNear_95 : decode cX11_findNear 95 = .ok (.return_, 1) := by decide +kernel
theorem dX11_init_0 : decode cX11_init 0 = .ok (.aload_n 0, 1) := by decide +kernel
theorem dX11_init_1 : decode cX11_init 1 = .ok (.invokespecial 3, 3) := by decide +kernel
theorem dX11_init_4 : decode cX11_init 4 = .ok (.aload_n 0, 1) := by decide +kernel
theorem dX11_init_5 : decode cX11_init 5 = .ok (.sipush 2000, 3) := by decide +kernel
theorem dX11_init_8 : decode cX11_init 8 = .ok (.newarray .char, 2) := by decide +kernel
theorem dX11_init_10 : decode cX11_init 10 = .ok (.putfield 11, 3) := by decide +kernel
theorem dX11_init_13 : decode cX11_init 13 = .ok (.aload_n 0, 1) := by decide +kernel
theorem dX11_init_14 : decode cX11_init 14 = .ok (.iconst 0, 1) := by decide +kernel
theorem dX11_init_15 : decode cX11_init 15 = .ok (.putfield 15, 3) := by decide +kernel
theorem dX11_init_18 : decode cX11_init 18 = .ok (.aload_n 0, 1) := by decide +kernel
theorem dX11_init_19 : decode cX11_init 19 = .ok (.new 19, 3) := by decide +kernel
theorem dX11_init_22 : decode cX11_init 22 = .ok (.dup, 1) := by decide +kernel
theorem dX11_init_23 : decode cX11_init 23 = .ok (.invokespecial 21, 3) := by decide +kernel
theorem dX11_init_26 : decode cX11_init 26 = .ok (.putfield 22, 3) := by decide +kernel
theorem dX11_init_29 : decode cX11_init 29 = .ok (.aload_n 0, 1) := by decide +kernel
theorem dX11_init_30 : decode cX11_init 30 = .ok (.bipush 12, 2) := by decide +kernel
theorem dX11_init_32 : decode cX11_init 32 = .ok (.anewarray 26, 3) := by decide +kernel
theorem dX11_init_35 : decode cX11_init 35 = .ok (.putfield 28, 3) := by decide +kernel
theorem dX11_init_38 : decode cX11_init 38 = .ok (.aload_n 0, 1) := by decide +kernel
theorem dX11_init_39 : decode cX11_init 39 = .ok (.iconst 0, 1) := by decide +kernel
theorem dX11_init_40 : decode cX11_init 40 = .ok (.putfield 32, 3) := by decide +kernel
theorem dX11_init_43 : decode cX11_init 43 = .ok (.aload_n 0, 1) := by decide +kernel
theorem dX11_init_44 : decode cX11_init 44 = .ok (.new 26, 3) := by decide +kernel
theorem dX11_init_47 : decode cX11_init 47 = .ok (.dup, 1) := by decide +kernel
theorem dX11_init_48 : decode cX11_init 48 = .ok (.invokespecial 35, 3) := by decide +kernel
theorem dX11_init_51 : decode cX11_init 51 = .ok (.putfield 36, 3) := by decide +kernel
theorem dX11_init_54 : decode cX11_init 54 = .ok (.aload_n 0, 1) := by decide +kernel
theorem dX11_init_55 : decode cX11_init 55 = .ok (.new 40, 3) := by decide +kernel
theorem dX11_init_58 : decode cX11_init 58 = .ok (.dup, 1) := by decide +kernel
theorem dX11_init_59 : decode cX11_init 59 = .ok (.invokespecial 42, 3) := by decide +kernel
theorem dX11_init_62 : decode cX11_init 62 = .ok (.putfield 43, 3) := by decide +kernel
theorem dX11_init_65 : decode cX11_init 65 = .ok (.aload_n 0, 1) := by decide +kernel
theorem dX11_init_66 : decode cX11_init 66 = .ok (.iconst 3, 1) := by decide +kernel
theorem dX11_init_67 : decode cX11_init 67 = .ok (.anewarray 47, 3) := by decide +kernel
theorem dX11_init_70 : decode cX11_init 70 = .ok (.putfield 49, 3) := by decide +kernel
theorem dX11_init_73 : decode cX11_init 73 = .ok (.aload_n 0, 1) := by decide +kernel
theorem dX11_init_74 : decode cX11_init 74 = .ok (.new 53, 3) := by decide +kernel
theorem dX11_init_77 : decode cX11_init 77 = .ok (.dup, 1) := by decide +kernel
theorem dX11_init_78 : decode cX11_init 78 = .ok (.invokespecial 55, 3) := by decide +kernel
theorem dX11_init_81 : decode cX11_init 81 = .ok (.putfield 56, 3) := by decide +kernel
theorem dX11_init_84 : decode cX11_init 84 = .ok (.aload_n 0, 1) := by decide +kernel
theorem dX11_init_85 : decode cX11_init 85 = .ok (.new 53, 3) := by decide +kernel
theorem dX11_init_88 : decode cX11_init 88 = .ok (.dup, 1) := by decide +kernel
theorem dX11_init_89 : decode cX11_init 89 = .ok (.invokespecial 55, 3) := by decide +kernel
theorem dX11_init_92 : decode cX11_init 92 = .ok (.putfield 60, 3) := by decide +kernel
theorem dX11_init_95 : decode cX11_init 95 = .ok (.aload_n 0, 1) := by decide +kernel
theorem dX11_init_96 : decode cX11_init 96 = .ok (.new 63, 3) := by decide +kernel
theorem dX11_init_99 : decode cX11_init 99 = .ok (.dup, 1) := by decide +kernel
theorem dX11_init_100 : decode cX11_init 100 = .ok (.invokespecial 65, 3) := by decide +kernel
theorem dX11_init_103 : decode cX11_init 103 = .ok (.putfield 66, 3) := by decide +kernel
theorem dX11_init_106 : decode cX11_init 106 = .ok (.aload_n 0, 1) := by decide +kernel
theorem dX11_init_107 : decode cX11_init 107 = .ok (.new 70, 3) := by decide +kernel
theorem dX11_init_110 : decode cX11_init 110 = .ok (.dup, 1) := by decide +kernel
theorem dX11_init_111 : decode cX11_init 111 = .ok (.invokespecial 72, 3) := by decide +kernel
theorem dX11_init_114 : decode cX11_init 114 = .ok (.putfield 73, 3) := by decide +kernel
theorem dX11_init_117 : decode cX11_init 117 = .ok (.aload_n 0, 1) := by decide +kernel
theorem dX11_init_118 : decode cX11_init 118 = .ok (.bipush 40, 2) := by decide +kernel
theorem dX11_init_120 : decode cX11_init 120 = .ok (.anewarray 77, 3) := by decide +kernel
theorem dX11_init_123 : decode cX11_init 123 = .ok (.putfield 79, 3) := by decide +kernel
theorem dX11_init_126 : decode cX11_init 126 = .ok (.aload_n 0, 1) := by decide +kernel
theorem dX11_init_127 : decode cX11_init 127 = .ok (.iconst 0, 1) := by decide +kernel
