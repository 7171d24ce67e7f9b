theorem dX12_wrong_13 : decode cX12_wrong 13 = .ok (.aload_n 0, 1) := by decide +kernel
theorem dX12_wrong_14 : decode cX12_wrong 14 = .ok (.iload_n 2, 1) := by decide +kernel
theorem dX12_wrong_15 : decode cX12_wrong 15 = .ok (.putfield 195, 3) := by decide +kernel
theorem dX12_wrong_18 : decode cX12_wrong 18 = .ok (.return_, 1) := by decide +kernel
theorem dX1_fail_0 : decode cX1_fail 0 = .ok (.aload_n 0, 1) := by decide +kernel
theorem dX1_fail_1 : decode cX1_fail 1 = .ok (.iload_n 1, 1) := by decide +kernel
theorem dX1_fail_2 : decode cX1_fail 2 = .ok (.putfield 18, 3) := by decide +kernel
theorem dX1_fail_5 : decode cX1_fail 5 = .ok (.aload_n 0, 1) := by decide +kernel
theorem dX1_fail_6 : decode cX1_fail 6 = .ok (.aload_n 0, 1) := by decide +kernel
theorem dX1_fail_7 : decode cX1_fail 7 = .ok (.invokevirtual 226, 3) := by decide +kernel
theorem dX1_fail_10 : decode cX1_fail 10 = .ok (.putfield 22, 3) := by decide +kernel
theorem dX1_fail_13 : decode cX1_fail 13 = .ok (.iconst 0, 1) := by decide +kernel
theorem dX1_fail_14 : decode cX1_fail 14 = .ok (.ireturn, 1) := by decide +kernel
theorem dX1_init_0 : decode cX1_init 0 = .ok (.aload_n 0, 1) := by decide +kernel
theorem dX1_init_1 : decode cX1_init 1 = .ok (.invokespecial 3, 3) := by decide +kernel
theorem dX1_init_4 : decode cX1_init 4 = .ok (.aload_n 0, 1) := by decide +kernel
theorem dX1_init_5 : decode cX1_init 5 = .ok (.new 9, 3) := by decide +kernel
theorem dX1_init_8 : decode cX1_init 8 = .ok (.dup, 1) := by decide +kernel
theorem dX1_init_9 : decode cX1_init 9 = .ok (.invokespecial 11, 3) := by decide +kernel
theorem dX1_init_12 : decode cX1_init 12 = .ok (.putfield 12, 3) := by decide +kernel
theorem dX1_init_15 : decode cX1_init 15 = .ok (.aload_n 0, 1) := by decide +kernel
theorem dX1_init_16 : decode cX1_init 16 = .ok (.iconst 0, 1) := by decide +kernel
theorem dX1_init_17 : decode cX1_init 17 = .ok (.putfield 18, 3) := by decide +kernel
theorem dX1_init_20 : decode cX1_init 20 = .ok (.aload_n 0, 1) := by decide +kernel
theorem dX1_init_21 : decode cX1_init 21 = .ok (.iconst (-1), 1) := by decide +kernel
theorem dX1_init_22 : decode cX1_init 22 = .ok (.putfield 22, 3) := by decide +kernel
theorem dX1_init_25 : decode cX1_init 25 = .ok (.aload_n 0, 1) := by decide +kernel
theorem dX1_init_26 : decode cX1_init 26 = .ok (.sipush 160, 3) := by decide +kernel
theorem dX1_init_29 : decode cX1_init 29 = .ok (.anewarray 25, 3) := by decide +kernel
theorem dX1_init_32 : decode cX1_init 32 = .ok (.putfield 27, 3) := by decide +kernel
theorem dX1_init_35 : decode cX1_init 35 = .ok (.aload_n 0, 1) := by decide +kernel
theorem dX1_init_36 : decode cX1_init 36 = .ok (.sipush 160, 3) := by decide +kernel
theorem dX1_init_39 : decode cX1_init 39 = .ok (.newarray .int, 2) := by decide +kernel
theorem dX1_init_41 : decode cX1_init 41 = .ok (.putfield 31, 3) := by decide +kernel
theorem dX1_init_44 : decode cX1_init 44 = .ok (.aload_n 0, 1) := by decide +kernel
theorem dX1_init_45 : decode cX1_init 45 = .ok (.sipush 160, 3) := by decide +kernel
theorem dX1_init_48 : decode cX1_init 48 = .ok (.newarray .int, 2) := by decide +kernel
theorem dX1_init_50 : decode cX1_init 50 = .ok (.putfield 35, 3) := by decide +kernel
theorem dX1_init_53 : decode cX1_init 53 = .ok (.aload_n 0, 1) := by decide +kernel
theorem dX1_init_54 : decode cX1_init 54 = .ok (.sipush 160, 3) := by decide +kernel
theorem dX1_init_57 : decode cX1_init 57 = .ok (.newarray .int, 2) := by decide +kernel
theorem dX1_init_59 : decode cX1_init 59 = .ok (.putfield 38, 3) := by decide +kernel
theorem dX1_init_62 : decode cX1_init 62 = .ok (.aload_n 0, 1) := by decide +kernel
theorem dX1_init_63 : decode cX1_init 63 = .ok (.sipush 160, 3) := by decide +kernel
theorem dX1_init_66 : decode cX1_init 66 = .ok (.newarray .int, 2) := by decide +kernel
theorem dX1_init_68 : decode cX1_init 68 = .ok (.putfield 41, 3) := by decide +kernel
theorem dX1_init_71 : decode cX1_init 71 = .ok (.return_, 1) := by decide +kernel
theorem dX1_kindHere_0 : decode cX1_kindHere 0 = .ok (.aload_n 0, 1) := by decide +kernel
theorem dX1_kindHere_1 : decode cX1_kindHere 1 = .ok (.getfield 52, 3) := by decide +kernel
theorem dX1_kindHere_4 : decode cX1_kindHere 4 = .ok (.aload_n 0, 1) := by decide +kernel
theorem dX1_kindHere_5 : decode cX1_kindHere 5 = .ok (.getfield 12, 3) := by decide +kernel
theorem dX1_kindHere_8 : decode cX1_kindHere 8 = .ok (.getfield 287, 3) := by decide +kernel
theorem dX1_kindHere_11 : decode cX1_kindHere 11 = .ok (.if_icmp .ge 18, 3) := by decide +kernel
theorem dX1_kindHere_14 : decode cX1_kindHere 14 = .ok (.aload_n 0, 1) := by decide +kernel
theorem dX1_kindHere_15 : decode cX1_kindHere 15 = .ok (.getfield 12, 3) := by decide +kernel
theorem dX1_kindHere_18 : decode cX1_kindHere 18 = .ok (.getfield 289, 3) := by decide +kernel
theorem dX1_kindHere_21 : decode cX1_kindHere 21 = .ok (.aload_n 0, 1) := by decide +kernel
theorem dX1_kindHere_22 : decode cX1_kindHere 22 = .ok (.getfield 52, 3) := by decide +kernel
theorem dX1_kindHere_25 : decode cX1_kindHere 25 = .ok (.iaload, 1) := by decide +kernel
theorem dX1_kindHere_26 : decode cX1_kindHere 26 = .ok (.goto 4, 3) := by decide +kernel
theorem dX1_kindHere_29 : decode cX1_kindHere 29 = .ok (.iconst 0, 1) := by decide +kernel
theorem dX1_kindHere_30 : decode cX1_kindHere 30 = .ok (.ireturn, 1) := by decide +kernel
theorem dX1_readDescription_0 : decode cX1_readDescription 0 = .ok (.aload_n 0, 1) := by decide +kernel
theorem dX1_readDescription_1 : decode cX1_readDescription 1 = .ok (.iconst 0, 1) := by decide +kernel
theorem dX1_readDescription_2 : decode cX1_readDescription 2 = .ok (.putfield 18, 3) := by decide +kernel
theorem dX1_readDescription_5 : decode cX1_readDescription 5 = .ok (.aload_n 0, 1) := by decide +kernel
theorem dX1_readDescription_6 : decode cX1_readDescription 6 = .ok (.iconst (-1), 1) := by decide +kernel
theorem dX1_readDescription_7 : decode cX1_readDescription 7 = .ok (.putfield 22, 3) := by decide +kernel
theorem dX1_readDescription_10 : decode cX1_readDescription 10 = .ok (.aload_n 0, 1) := by decide +kernel
theorem dX1_readDescription_11 : decode cX1_readDescription 11 = .ok (.aload_n 1, 1) := by decide +kernel
theorem dX1_readDescription_12 : decode cX1_readDescription 12 = .ok (.putfield 44, 3) := by decide +kernel
theorem dX1_readDescription_15 : decode cX1_readDescription 15 = .ok (.aload_n 0, 1) := by decide +kernel
theorem dX1_readDescription_16 : decode cX1_readDescription 16 = .ok (.getfield 12, 3) := by decide +kernel
theorem dX1_readDescription_19 : decode cX1_readDescription 19 = .ok (.aload_n 1, 1) := by decide +kernel
theorem dX1_readDescription_20 : decode cX1_readDescription 20 = .ok (.iload_n 2, 1) := by decide +kernel
theorem dX1_readDescription_21 : decode cX1_readDescription 21 = .ok (.invokevirtual 48, 3) := by decide +kernel
theorem dX1_readDescription_24 : decode cX1_readDescription 24 = .ok (.aload_n 0, 1) := by decide +kernel
theorem dX1_readDescription_25 : decode cX1_readDescription 25 = .ok (.iconst 0, 1) := by decide +kernel
theorem dX1_readDescription_26 : decode cX1_readDescription 26 = .ok (.putfield 52, 3) := by decide +kernel
theorem dX1_readDescription_29 : decode cX1_readDescription 29 = .ok (.aload_n 0, 1) := by decide +kernel
theorem dX1_readDescription_30 : decode cX1_readDescription 30 = .ok (.iconst 0, 1) := by decide +kernel
theorem dX1_readDescription_31 : decode cX1_readDescription 31 = .ok (.putfield 55, 3) := by decide +kernel
theorem dX1_readDescription_34 : decode cX1_readDescription 34 = .ok (.aload_n 0, 1) := by decide +kernel
theorem dX1_readDescription_35 : decode cX1_readDescription 35 = .ok (.aload 5, 2) := by decide +kernel
theorem dX1_readDescription_37 : decode cX1_readDescription 37 = .ok (.putfield 58, 3) := by decide +kernel
theorem dX1_readDescription_40 : decode cX1_readDescription 40 = .ok (.aload_n 0, 1) := by decide +kernel
theorem dX1_readDescription_41 : decode cX1_readDescription 41 = .ok (.getfield 58, 3) := by decide +kernel
theorem dX1_readDescription_44 : decode cX1_readDescription 44 = .ok (.invokevirtual 62, 3) := by decide +kernel
theorem dX1_readDescription_47 : decode cX1_readDescription 47 = .ok (.aload_n 0, 1) := by decide +kernel
theorem dX1_readDescription_48 : decode cX1_readDescription 48 = .ok (.iconst 0, 1) := by decide +kernel
theorem dX1_readDescription_49 : decode cX1_readDescription 49 = .ok (.putfield 67, 3) := by decide +kernel
theorem dX1_readDescription_52 : decode cX1_readDescription 52 = .ok (.aload_n 0, 1) := by decide +kernel
theorem dX1_readDescription_53 : decode cX1_readDescription 53 = .ok (.iconst 0, 1) := by decide +kernel
theorem dX1_readDescription_54 : decode cX1_readDescription 54 = .ok (.invokevirtual 70, 3) := by decide +kernel
theorem dX1_readDescription_57 : decode cX1_readDescription 57 = .ok (.ifCond .eq 13, 3) := by decide +kernel
theorem dX1_readDescription_60 : decode cX1_readDescription 60 = .ok (.aload_n 0, 1) := by decide +kernel
theorem dX1_readDescription_61 : decode cX1_readDescription 61 = .ok (.aload_n 3, 1) := by decide +kernel
theorem dX1_readDescription_62 : decode cX1_readDescription 62 = .ok (.iload 4, 2) := by decide +kernel
theorem dX1_readDescription_64 : decode cX1_readDescription 64 = .ok (.invokevirtual 74, 3) := by decide +kernel
theorem dX1_readDescription_67 : decode cX1_readDescription 67 = .ok (.ifCond .ne 5, 3) := by decide +kernel
theorem dX1_readDescription_70 : decode cX1_readDescription 70 = .ok (.iconst 0, 1) := by decide +kernel
theorem dX1_readDescription_71 : decode cX1_readDescription 71 = .ok (.ireturn, 1) := by decide +kernel
theorem dX1_readDescription_72 : decode cX1_readDescription 72 = .ok (.iconst 0, 1) := by decide +kernel
theorem dX1_readDescription_73 : decode cX1_readDescription 73 = .ok (.istore 6, 2) := by decide +kernel
theorem dX1_readDescription_75 : decode cX1_readDescription 75 = .ok (.iload 6, 2) := by decide +kernel
theorem dX1_readDescription_77 : decode cX1_readDescription 77 = .ok (.sipush 2000, 3) := by decide +kernel
theorem dX1_readDescription_80 : decode cX1_readDescription 80 = .ok (.if_icmp .gt 59, 3) := by decide +kernel
theorem dX1_readDescription_83 : decode cX1_readDescription 83 = .ok (.aload_n 0, 1) := by decide +kernel
theorem dX1_readDescription_84 : decode cX1_readDescription 84 = .ok (.getfield 78, 3) := by decide +kernel
theorem dX1_readDescription_87 : decode cX1_readDescription 87 = .ok (.ifnull 52, 3) := by decide +kernel
theorem dX1_readDescription_90 : decode cX1_readDescription 90 = .ok (.aload_n 0, 1) := by decide +kernel
theorem dX1_readDescription_91 : decode cX1_readDescription 91 = .ok (.getfield 67, 3) := by decide +kernel
theorem dX1_readDescription_94 : decode cX1_readDescription 94 = .ok (.iconst 1, 1) := by decide +kernel
theorem dX1_readDescription_95 : decode cX1_readDescription 95 = .ok (.if_icmp .ne 10, 3) := by decide +kernel
theorem dX1_readDescription_98 : decode cX1_readDescription 98 = .ok (.aload_n 0, 1) := by decide +kernel
theorem dX1_readDescription_99 : decode cX1_readDescription 99 = .ok (.invokevirtual 82, 3) := by decide +kernel
theorem dX1_readDescription_102 : decode cX1_readDescription 102 = .ok (.goto 22, 3) := by decide +kernel
theorem dX1_readDescription_105 : decode cX1_readDescription 105 = .ok (.aload_n 0, 1) := by decide +kernel
theorem dX1_readDescription_106 : decode cX1_readDescription 106 = .ok (.getfield 67, 3) := by decide +kernel
theorem dX1_readDescription_109 : decode cX1_readDescription 109 = .ok (.iconst 2, 1) := by decide +kernel
theorem dX1_readDescription_110 : decode cX1_readDescription 110 = .ok (.if_icmp .ne 10, 3) := by decide +kernel
theorem dX1_readDescription_113 : decode cX1_readDescription 113 = .ok (.aload_n 0, 1) := by decide +kernel
theorem dX1_readDescription_114 : decode cX1_readDescription 114 = .ok (.invokevirtual 86, 3) := by decide +kernel
theorem dX1_readDescription_117 : decode cX1_readDescription 117 = .ok (.goto 7, 3) := by decide +kernel
theorem dX1_readDescription_120 : decode cX1_readDescription 120 = .ok (.aload_n 0, 1) := by decide +kernel
theorem dX1_readDescription_121 : decode cX1_readDescription 121 = .ok (.invokevirtual 89, 3) := by decide +kernel
theorem dX1_readDescription_124 : decode cX1_readDescription 124 = .ok (.istore 7, 2) := by decide +kernel
theorem dX1_readDescription_126 : decode cX1_readDescription 126 = .ok (.iload 7, 2) := by decide +kernel
theorem dX1_readDescription_128 : decode cX1_readDescription 128 = .ok (.ifCond .ne 5, 3) := by decide +kernel
theorem dX1_readDescription_131 : decode cX1_readDescription 131 = .ok (.iconst 0, 1) := by decide +kernel
theorem dX1_readDescription_132 : decode cX1_readDescription 132 = .ok (.ireturn, 1) := by decide +kernel
theorem dX1_readDescription_133 : decode cX1_readDescription 133 = .ok (.iinc 6 1, 3) := by decide +kernel
theorem dX1_readDescription_136 : decode cX1_readDescription 136 = .ok (.goto (-61), 3) := by decide +kernel
theorem dX1_readDescription_139 : decode cX1_readDescription 139 = .ok (.aload_n 0, 1) := by decide +kernel
theorem dX1_readDescription_140 : decode cX1_readDescription 140 = .ok (.invokevirtual 92, 3) := by decide +kernel
theorem dX1_readDescription_143 : decode cX1_readDescription 143 = .ok (.ifCond .eq 9, 3) := by decide +kernel
theorem dX1_readDescription_146 : decode cX1_readDescription 146 = .ok (.aload_n 0, 1) := by decide +kernel
theorem dX1_readDescription_147 : decode cX1_readDescription 147 = .ok (.iconst 1, 1) := by decide +kernel
theorem dX1_readDescription_148 : decode cX1_readDescription 148 = .ok (.invokevirtual 96, 3) := by decide +kernel
theorem dX1_readDescription_151 : decode cX1_readDescription 151 = .ok (.ireturn, 1) := by decide +kernel
theorem dX1_readDescription_152 : decode cX1_readDescription 152 = .ok (.aload_n 0, 1) := by decide +kernel
theorem dX1_readDescription_153 : decode cX1_readDescription 153 = .ok (.invokevirtual 99, 3) := by decide +kernel
theorem dX1_readDescription_156 : decode cX1_readDescription 156 = .ok (.ireturn, 1) := by decide +kernel
theorem dX1_startHere_0 : decode cX1_startHere 0 = .ok (.aload_n 0, 1) := by decide +kernel
theorem dX1_startHere_1 : decode cX1_startHere 1 = .ok (.getfield 52, 3) := by decide +kernel
theorem dX1_startHere_4 : decode cX1_startHere 4 = .ok (.aload_n 0, 1) := by decide +kernel
theorem dX1_startHere_5 : decode cX1_startHere 5 = .ok (.getfield 12, 3) := by decide +kernel
theorem dX1_startHere_8 : decode cX1_startHere 8 = .ok (.getfield 287, 3) := by decide +kernel
theorem dX1_startHere_11 : decode cX1_startHere 11 = .ok (.if_icmp .ge 18, 3) := by decide +kernel
theorem dX1_startHere_14 : decode cX1_startHere 14 = .ok (.aload_n 0, 1) := by decide +kernel
theorem dX1_startHere_15 : decode cX1_startHere 15 = .ok (.getfield 12, 3) := by decide +kernel
theorem dX1_startHere_18 : decode cX1_startHere 18 = .ok (.getfield 295, 3) := by decide +kernel
theorem dX1_startHere_21 : decode cX1_startHere 21 = .ok (.aload_n 0, 1) := by decide +kernel
theorem dX1_startHere_22 : decode cX1_startHere 22 = .ok (.getfield 52, 3) := by decide +kernel
theorem dX1_startHere_25 : decode cX1_startHere 25 = .ok (.iaload, 1) := by decide +kernel
theorem dX1_startHere_26 : decode cX1_startHere 26 = .ok (.goto 10, 3) := by decide +kernel
theorem dX1_startHere_29 : decode cX1_startHere 29 = .ok (.aload_n 0, 1) := by decide +kernel
theorem dX1_startHere_30 : decode cX1_startHere 30 = .ok (.getfield 12, 3) := by decide +kernel
theorem dX1_startHere_33 : decode cX1_startHere 33 = .ok (.getfield 298, 3) := by decide +kernel
theorem dX1_startHere_36 : decode cX1_startHere 36 = .ok (.ireturn, 1) := by decide +kernel
theorem dX1_takeWord_0 : decode cX1_takeWord 0 = .ok (.aload_n 0, 1) := by decide +kernel
theorem dX1_takeWord_1 : decode cX1_takeWord 1 = .ok (.invokevirtual 114, 3) := by decide +kernel
theorem dX1_takeWord_4 : decode cX1_takeWord 4 = .ok (.iload_n 1, 1) := by decide +kernel
theorem dX1_takeWord_5 : decode cX1_takeWord 5 = .ok (.if_icmp .eq 9, 3) := by decide +kernel
theorem dX1_takeWord_8 : decode cX1_takeWord 8 = .ok (.aload_n 0, 1) := by decide +kernel
theorem dX1_takeWord_9 : decode cX1_takeWord 9 = .ok (.iconst 1, 1) := by decide +kernel
theorem dX1_takeWord_10 : decode cX1_takeWord 10 = .ok (.invokevirtual 96, 3) := by decide +kernel
theorem dX1_takeWord_13 : decode cX1_takeWord 13 = .ok (.ireturn, 1) := by decide +kernel
theorem dX1_takeWord_14 : decode cX1_takeWord 14 = .ok (.aload_n 0, 1) := by decide +kernel
theorem dX1_takeWord_15 : decode cX1_takeWord 15 = .ok (.dup, 1) := by decide +kernel
theorem dX1_takeWord_16 : decode cX1_takeWord 16 = .ok (.getfield 52, 3) := by decide +kernel
theorem dX1_takeWord_19 : decode cX1_takeWord 19 = .ok (.iconst 1, 1) := by decide +kernel
theorem dX1_takeWord_20 : decode cX1_takeWord 20 = .ok (.iadd, 1) := by decide +kernel
theorem dX1_takeWord_21 : decode cX1_takeWord 21 = .ok (.putfield 52, 3) := by decide +kernel
theorem dX1_takeWord_24 : decode cX1_takeWord 24 = .ok (.iconst 1, 1) := by decide +kernel
theorem dX1_takeWord_25 : decode cX1_takeWord 25 = .ok (.ireturn, 1) := by decide +kernel
theorem dX1_wordHere_0 : decode cX1_wordHere 0 = .ok (.aload_n 0, 1) := by decide +kernel
theorem dX1_wordHere_1 : decode cX1_wordHere 1 = .ok (.invokevirtual 92, 3) := by decide +kernel
theorem dX1_wordHere_4 : decode cX1_wordHere 4 = .ok (.iconst 3, 1) := by decide +kernel
theorem dX1_wordHere_5 : decode cX1_wordHere 5 = .ok (.if_icmp .ne 10, 3) := by decide +kernel
theorem dX1_wordHere_8 : decode cX1_wordHere 8 = .ok (.aload_n 0, 1) := by decide +kernel
theorem dX1_wordHere_9 : decode cX1_wordHere 9 = .ok (.invokevirtual 244, 3) := by decide +kernel
theorem dX1_wordHere_12 : decode cX1_wordHere 12 = .ok (.goto 4, 3) := by decide +kernel
theorem dX1_wordHere_15 : decode cX1_wordHere 15 = .ok (.iconst (-1), 1) := by decide +kernel
theorem dX1_wordHere_16 : decode cX1_wordHere 16 = .ok (.ireturn, 1) := by decide +kernel
theorem dX2_init_0 : decode cX2_init 0 = .ok (.aload_n 0, 1) := by decide +kernel
theorem dX2_init_1 : decode cX2_init 1 = .ok (.invokespecial 3, 3) := by decide +kernel
theorem dX2_init_4 : decode cX2_init 4 = .ok (.aload_n 0, 1) := by decide +kernel
theorem dX2_init_5 : decode cX2_init 5 = .ok (.bipush 40, 2) := by decide +kernel
theorem dX2_init_7 : decode cX2_init 7 = .ok (.newarray .int, 2) := by decide +kernel
theorem dX2_init_9 : decode cX2_init 9 = .ok (.putfield 9, 3) := by decide +kernel
theorem dX2_init_12 : decode cX2_init 12 = .ok (.aload_n 0, 1) := by decide +kernel
theorem dX2_init_13 : decode cX2_init 13 = .ok (.bipush 40, 2) := by decide +kernel
theorem dX2_init_15 : decode cX2_init 15 = .ok (.newarray .int, 2) := by decide +kernel
theorem dX2_init_17 : decode cX2_init 17 = .ok (.putfield 15, 3) := by decide +kernel
theorem dX2_init_20 : decode cX2_init 20 = .ok (.aload_n 0, 1) := by decide +kernel
theorem dX2_init_21 : decode cX2_init 21 = .ok (.bipush 40, 2) := by decide +kernel
theorem dX2_init_23 : decode cX2_init 23 = .ok (.anewarray 18, 3) := by decide +kernel
theorem dX2_init_26 : decode cX2_init 26 = .ok (.putfield 20, 3) := by decide +kernel
theorem dX2_init_29 : decode cX2_init 29 = .ok (.aload_n 0, 1) := by decide +kernel
theorem dX2_init_30 : decode cX2_init 30 = .ok (.sipush 400, 3) := by decide +kernel
theorem dX2_init_33 : decode cX2_init 33 = .ok (.newarray .int, 2) := by decide +kernel
theorem dX2_init_35 : decode cX2_init 35 = .ok (.putfield 24, 3) := by decide +kernel
theorem dX2_init_38 : decode cX2_init 38 = .ok (.aload_n 0, 1) := by decide +kernel
theorem dX2_init_39 : decode cX2_init 39 = .ok (.bipush 60, 2) := by decide +kernel
theorem dX2_init_41 : decode cX2_init 41 = .ok (.anewarray 18, 3) := by decide +kernel
theorem dX2_init_44 : decode cX2_init 44 = .ok (.putfield 27, 3) := by decide +kernel
theorem dX2_init_47 : decode cX2_init 47 = .ok (.return_, 1) := by decide +kernel
theorem dX3_accuseLine_0 : decode cX3_accuseLine 0 = .ok (.aload_n 0, 1) := by decide +kernel
theorem dX3_accuseLine_1 : decode cX3_accuseLine 1 = .ok (.iconst 0, 1) := by decide +kernel
theorem dX3_accuseLine_2 : decode cX3_accuseLine 2 = .ok (.putfield 17, 3) := by decide +kernel
theorem dX3_accuseLine_5 : decode cX3_accuseLine 5 = .ok (.aload_n 0, 1) := by decide +kernel
theorem dX3_accuseLine_6 : decode cX3_accuseLine 6 = .ok (.iload_n 1, 1) := by decide +kernel
theorem dX3_accuseLine_7 : decode cX3_accuseLine 7 = .ok (.iconst (-1), 1) := by decide +kernel
theorem dX3_accuseLine_8 : decode cX3_accuseLine 8 = .ok (.iload_n 2, 1) := by decide +kernel
theorem dX3_accuseLine_9 : decode cX3_accuseLine 9 = .ok (.iconst (-1), 1) := by decide +kernel
theorem dX3_accuseLine_10 : decode cX3_accuseLine 10 = .ok (.invokevirtual 108, 3) := by decide +kernel
theorem dX3_accuseLine_13 : decode cX3_accuseLine 13 = .ok (.return_, 1) := by decide +kernel
theorem dX3_accuseWord_0 : decode cX3_accuseWord 0 = .ok (.aload_n 0, 1) := by decide +kernel
theorem dX3_accuseWord_1 : decode cX3_accuseWord 1 = .ok (.iload_n 1, 1) := by decide +kernel
theorem dX3_accuseWord_2 : decode cX3_accuseWord 2 = .ok (.putfield 28, 3) := by decide +kernel
theorem dX3_accuseWord_5 : decode cX3_accuseWord 5 = .ok (.aload_n 0, 1) := by decide +kernel
theorem dX3_accuseWord_6 : decode cX3_accuseWord 6 = .ok (.iload_n 2, 1) := by decide +kernel
theorem dX3_accuseWord_7 : decode cX3_accuseWord 7 = .ok (.putfield 31, 3) := by decide +kernel
theorem dX3_accuseWord_10 : decode cX3_accuseWord 10 = .ok (.aload_n 0, 1) := by decide +kernel
theorem dX3_accuseWord_11 : decode cX3_accuseWord 11 = .ok (.iload_n 3, 1) := by decide +kernel
theorem dX3_accuseWord_12 : decode cX3_accuseWord 12 = .ok (.putfield 34, 3) := by decide +kernel
theorem dX3_accuseWord_15 : decode cX3_accuseWord 15 = .ok (.aload_n 0, 1) := by decide +kernel
theorem dX3_accuseWord_16 : decode cX3_accuseWord 16 = .ok (.iload 4, 2) := by decide +kernel
theorem dX3_accuseWord_18 : decode cX3_accuseWord 18 = .ok (.putfield 37, 3) := by decide +kernel
theorem dX3_accuseWord_21 : decode cX3_accuseWord 21 = .ok (.aload_n 0, 1) := by decide +kernel
theorem dX3_accuseWord_22 : decode cX3_accuseWord 22 = .ok (.iconst (-1), 1) := by decide +kernel
theorem dX3_accuseWord_23 : decode cX3_accuseWord 23 = .ok (.putfield 40, 3) := by decide +kernel
theorem dX3_accuseWord_26 : decode cX3_accuseWord 26 = .ok (.return_, 1) := by decide +kernel
theorem dX3_cut_0 : decode cX3_cut 0 = .ok (.aload_n 0, 1) := by decide +kernel
theorem dX3_cut_1 : decode cX3_cut 1 = .ok (.iconst 0, 1) := by decide +kernel
theorem dX3_cut_2 : decode cX3_cut 2 = .ok (.putfield 17, 3) := by decide +kernel
theorem dX3_cut_5 : decode cX3_cut 5 = .ok (.aload_n 0, 1) := by decide +kernel
theorem dX3_cut_6 : decode cX3_cut 6 = .ok (.iconst 0, 1) := by decide +kernel
theorem dX3_cut_7 : decode cX3_cut 7 = .ok (.putfield 21, 3) := by decide +kernel
theorem dX3_cut_10 : decode cX3_cut 10 = .ok (.aload_n 0, 1) := by decide +kernel
theorem dX3_cut_11 : decode cX3_cut 11 = .ok (.iconst 0, 1) := by decide +kernel
theorem dX3_cut_12 : decode cX3_cut 12 = .ok (.putfield 25, 3) := by decide +kernel
theorem dX3_cut_15 : decode cX3_cut 15 = .ok (.aload_n 0, 1) := by decide +kernel
theorem dX3_cut_16 : decode cX3_cut 16 = .ok (.iconst 0, 1) := by decide +kernel
theorem dX3_cut_17 : decode cX3_cut 17 = .ok (.putfield 28, 3) := by decide +kernel
theorem dX3_cut_20 : decode cX3_cut 20 = .ok (.aload_n 0, 1) := by decide +kernel
theorem dX3_cut_21 : decode cX3_cut 21 = .ok (.aload_n 1, 1) := by decide +kernel
theorem dX3_cut_22 : decode cX3_cut 22 = .ok (.putfield 47, 3) := by decide +kernel
theorem dX3_cut_25 : decode cX3_cut 25 = .ok (.aload_n 0, 1) := by decide +kernel
theorem dX3_cut_26 : decode cX3_cut 26 = .ok (.iload_n 2, 1) := by decide +kernel
theorem dX3_cut_27 : decode cX3_cut 27 = .ok (.putfield 50, 3) := by decide +kernel
theorem dX3_cut_30 : decode cX3_cut 30 = .ok (.aload_n 0, 1) := by decide +kernel
theorem dX3_cut_31 : decode cX3_cut 31 = .ok (.iload_n 3, 1) := by decide +kernel
theorem dX3_cut_32 : decode cX3_cut 32 = .ok (.aload_n 1, 1) := by decide +kernel
theorem dX3_cut_33 : decode cX3_cut 33 = .ok (.arraylength, 1) := by decide +kernel
theorem dX3_cut_34 : decode cX3_cut 34 = .ok (.invokestatic 53, 3) := by decide +kernel
theorem dX3_cut_37 : decode cX3_cut 37 = .ok (.putfield 59, 3) := by decide +kernel
theorem dX3_cut_40 : decode cX3_cut 40 = .ok (.aload_n 0, 1) := by decide +kernel
theorem dX3_cut_41 : decode cX3_cut 41 = .ok (.iload_n 2, 1) := by decide +kernel
theorem dX3_cut_42 : decode cX3_cut 42 = .ok (.putfield 62, 3) := by decide +kernel
theorem dX3_cut_45 : decode cX3_cut 45 = .ok (.iconst 0, 1) := by decide +kernel
theorem dX3_cut_46 : decode cX3_cut 46 = .ok (.istore 4, 2) := by decide +kernel
theorem dX3_cut_48 : decode cX3_cut 48 = .ok (.iload 4, 2) := by decide +kernel
theorem dX3_cut_50 : decode cX3_cut 50 = .ok (.sipush 400, 3) := by decide +kernel
theorem dX3_cut_53 : decode cX3_cut 53 = .ok (.if_icmp .gt 95, 3) := by decide +kernel
theorem dX3_cut_56 : decode cX3_cut 56 = .ok (.aload_n 0, 1) := by decide +kernel
theorem dX3_cut_57 : decode cX3_cut 57 = .ok (.getfield 28, 3) := by decide +kernel
theorem dX3_cut_60 : decode cX3_cut 60 = .ok (.ifCond .ne 88, 3) := by decide +kernel
theorem dX3_cut_63 : decode cX3_cut 63 = .ok (.aload_n 0, 1) := by decide +kernel
theorem dX3_cut_64 : decode cX3_cut 64 = .ok (.getfield 62, 3) := by decide +kernel
theorem dX3_cut_67 : decode cX3_cut 67 = .ok (.aload_n 0, 1) := by decide +kernel
theorem dX3_cut_68 : decode cX3_cut 68 = .ok (.getfield 59, 3) := by decide +kernel
theorem dX3_cut_71 : decode cX3_cut 71 = .ok (.if_icmp .ge 31, 3) := by decide +kernel
theorem dX3_cut_74 : decode cX3_cut 74 = .ok (.aload_n 0, 1) := by decide +kernel
theorem dX3_cut_75 : decode cX3_cut 75 = .ok (.getfield 47, 3) := by decide +kernel
theorem dX3_cut_78 : decode cX3_cut 78 = .ok (.aload_n 0, 1) := by decide +kernel
theorem dX3_cut_79 : decode cX3_cut 79 = .ok (.getfield 62, 3) := by decide +kernel
theorem dX3_cut_82 : decode cX3_cut 82 = .ok (.caload, 1) := by decide +kernel
theorem dX3_cut_83 : decode cX3_cut 83 = .ok (.invokestatic 65, 3) := by decide +kernel
theorem dX3_cut_86 : decode cX3_cut 86 = .ok (.ifCond .eq 16, 3) := by decide +kernel
theorem dX3_cut_89 : decode cX3_cut 89 = .ok (.aload_n 0, 1) := by decide +kernel
theorem dX3_cut_90 : decode cX3_cut 90 = .ok (.dup, 1) := by decide +kernel
theorem dX3_cut_91 : decode cX3_cut 91 = .ok (.getfield 62, 3) := by decide +kernel
theorem dX3_cut_94 : decode cX3_cut 94 = .ok (.iconst 1, 1) := by decide +kernel
theorem dX3_cut_95 : decode cX3_cut 95 = .ok (.iadd, 1) := by decide +kernel
theorem dX3_cut_96 : decode cX3_cut 96 = .ok (.putfield 62, 3) := by decide +kernel
theorem dX3_cut_99 : decode cX3_cut 99 = .ok (.goto (-36), 3) := by decide +kernel
theorem dX3_cut_102 : decode cX3_cut 102 = .ok (.aload_n 0, 1) := by decide +kernel
theorem dX3_cut_103 : decode cX3_cut 103 = .ok (.getfield 62, 3) := by decide +kernel
theorem dX3_cut_106 : decode cX3_cut 106 = .ok (.aload_n 0, 1) := by decide +kernel
theorem dX3_cut_107 : decode cX3_cut 107 = .ok (.getfield 59, 3) := by decide +kernel
theorem dX3_cut_110 : decode cX3_cut 110 = .ok (.if_icmp .lt 6, 3) := by decide +kernel
theorem dX3_cut_113 : decode cX3_cut 113 = .ok (.goto 35, 3) := by decide +kernel
theorem dX3_cut_116 : decode cX3_cut 116 = .ok (.aload_n 0, 1) := by decide +kernel
theorem dX3_cut_117 : decode cX3_cut 117 = .ok (.getfield 47, 3) := by decide +kernel
theorem dX3_cut_120 : decode cX3_cut 120 = .ok (.aload_n 0, 1) := by decide +kernel
theorem dX3_cut_121 : decode cX3_cut 121 = .ok (.getfield 62, 3) := by decide +kernel
theorem dX3_cut_124 : decode cX3_cut 124 = .ok (.caload, 1) := by decide +kernel
theorem dX3_cut_125 : decode cX3_cut 125 = .ok (.bipush 35, 2) := by decide +kernel
theorem dX3_cut_127 : decode cX3_cut 127 = .ok (.if_icmp .ne 11, 3) := by decide +kernel
theorem dX3_cut_130 : decode cX3_cut 130 = .ok (.aload_n 0, 1) := by decide +kernel
theorem dX3_cut_131 : decode cX3_cut 131 = .ok (.iconst 1, 1) := by decide +kernel
theorem dX3_cut_132 : decode cX3_cut 132 = .ok (.putfield 21, 3) := by decide +kernel
theorem dX3_cut_135 : decode cX3_cut 135 = .ok (.goto 13, 3) := by decide +kernel
theorem dX3_cut_138 : decode cX3_cut 138 = .ok (.aload_n 0, 1) := by decide +kernel
theorem dX3_cut_139 : decode cX3_cut 139 = .ok (.invokevirtual 69, 3) := by decide +kernel
theorem dX3_cut_142 : decode cX3_cut 142 = .ok (.iinc 4 1, 3) := by decide +kernel
theorem dX3_cut_145 : decode cX3_cut 145 = .ok (.goto (-97), 3) := by decide +kernel
theorem dX3_cut_148 : decode cX3_cut 148 = .ok (.aload_n 0, 1) := by decide +kernel
theorem dX3_cut_149 : decode cX3_cut 149 = .ok (.getfield 28, 3) := by decide +kernel
theorem dX3_cut_152 : decode cX3_cut 152 = .ok (.ifCond .ne 7, 3) := by decide +kernel
theorem dX3_cut_155 : decode cX3_cut 155 = .ok (.iconst 1, 1) := by decide +kernel
theorem dX3_cut_156 : decode cX3_cut 156 = .ok (.goto 4, 3) := by decide +kernel
theorem dX3_cut_159 : decode cX3_cut 159 = .ok (.iconst 0, 1) := by decide +kernel
theorem dX3_cut_160 : decode cX3_cut 160 = .ok (.ireturn, 1) := by decide +kernel
theorem dX3_init_0 : decode cX3_init 0 = .ok (.aload_n 0, 1) := by decide +kernel
theorem dX3_init_1 : decode cX3_init 1 = .ok (.invokespecial 3, 3) := by decide +kernel
theorem dX3_init_4 : decode cX3_init 4 = .ok (.aload_n 0, 1) := by decide +kernel
theorem dX3_init_5 : decode cX3_init 5 = .ok (.bipush 60, 2) := by decide +kernel
theorem dX3_init_7 : decode cX3_init 7 = .ok (.anewarray 9, 3) := by decide +kernel
theorem dX3_init_10 : decode cX3_init 10 = .ok (.putfield 11, 3) := by decide +kernel
theorem dX3_init_13 : decode cX3_init 13 = .ok (.aload_n 0, 1) := by decide +kernel
theorem dX3_init_14 : decode cX3_init 14 = .ok (.iconst 0, 1) := by decide +kernel
theorem dX3_init_15 : decode cX3_init 15 = .ok (.putfield 17, 3) := by decide +kernel
theorem dX3_init_18 : decode cX3_init 18 = .ok (.aload_n 0, 1) := by decide +kernel
theorem dX3_init_19 : decode cX3_init 19 = .ok (.iconst 0, 1) := by decide +kernel
theorem dX3_init_20 : decode cX3_init 20 = .ok (.putfield 21, 3) := by decide +kernel
theorem dX3_init_23 : decode cX3_init 23 = .ok (.aload_n 0, 1) := by decide +kernel
theorem dX3_init_24 : decode cX3_init 24 = .ok (.iconst 0, 1) := by decide +kernel
theorem dX3_init_25 : decode cX3_init 25 = .ok (.putfield 25, 3) := by decide +kernel
theorem dX3_init_28 : decode cX3_init 28 = .ok (.aload_n 0, 1) := by decide +kernel
theorem dX3_init_29 : decode cX3_init 29 = .ok (.iconst 0, 1) := by decide +kernel
theorem dX3_init_30 : decode cX3_init 30 = .ok (.putfield 28, 3) := by decide +kernel
theorem dX3_init_33 : decode cX3_init 33 = .ok (.aload_n 0, 1) := by decide +kernel
theorem dX3_init_34 : decode cX3_init 34 = .ok (.iconst (-1), 1) := by decide +kernel
theorem dX3_init_35 : decode cX3_init 35 = .ok (.putfield 31, 3) := by decide +kernel
theorem dX3_init_38 : decode cX3_init 38 = .ok (.aload_n 0, 1) := by decide +kernel
theorem dX3_init_39 : decode cX3_init 39 = .ok (.iconst 0, 1) := by decide +kernel
theorem dX3_init_40 : decode cX3_init 40 = .ok (.putfield 34, 3) := by decide +kernel
theorem dX3_init_43 : decode cX3_init 43 = .ok (.aload_n 0, 1) := by decide +kernel
theorem dX3_init_44 : decode cX3_init 44 = .ok (.iconst (-1), 1) := by decide +kernel
theorem dX3_init_45 : decode cX3_init 45 = .ok (.putfield 37, 3) := by decide +kernel
theorem dX3_init_48 : decode cX3_init 48 = .ok (.aload_n 0, 1) := by decide +kernel
theorem dX3_init_49 : decode cX3_init 49 = .ok (.iconst (-1), 1) := by decide +kernel
theorem dX3_init_50 : decode cX3_init 50 = .ok (.putfield 40, 3) := by decide +kernel
theorem dX3_init_53 : decode cX3_init 53 = .ok (.aload_n 0, 1) := by decide +kernel
theorem dX3_init_54 : decode cX3_init 54 = .ok (.bipush 40, 2) := by decide +kernel
theorem dX3_init_56 : decode cX3_init 56 = .ok (.newarray .char, 2) := by decide +kernel
theorem dX3_init_58 : decode cX3_init 58 = .ok (.putfield 43, 3) := by decide +kernel
theorem dX3_init_61 : decode cX3_init 61 = .ok (.return_, 1) := by decide +kernel
theorem dX3_putAliases_0 : decode cX3_putAliases 0 = .ok (.iconst 0, 1) := by decide +kernel
theorem dX3_putAliases_1 : decode cX3_putAliases 1 = .ok (.istore_n 3, 1) := by decide +kernel
theorem dX3_putAliases_2 : decode cX3_putAliases 2 = .ok (.iconst 0, 1) := by decide +kernel
theorem dX3_putAliases_3 : decode cX3_putAliases 3 = .ok (.istore 4, 2) := by decide +kernel
theorem dX3_putAliases_5 : decode cX3_putAliases 5 = .ok (.iload 4, 2) := by decide +kernel
theorem dX3_putAliases_7 : decode cX3_putAliases 7 = .ok (.bipush 20, 2) := by decide +kernel
theorem dX3_putAliases_9 : decode cX3_putAliases 9 = .ok (.if_icmp .gt 69, 3) := by decide +kernel
theorem dX3_putAliases_12 : decode cX3_putAliases 12 = .ok (.aload_n 0, 1) := by decide +kernel
theorem dX3_putAliases_13 : decode cX3_putAliases 13 = .ok (.getfield 17, 3) := by decide +kernel
theorem dX3_putAliases_16 : decode cX3_putAliases 16 = .ok (.ifCond .le 62, 3) := by decide +kernel
theorem dX3_putAliases_19 : decode cX3_putAliases 19 = .ok (.aload_n 1, 1) := by decide +kernel
theorem dX3_putAliases_20 : decode cX3_putAliases 20 = .ok (.aload_n 0, 1) := by decide +kernel
theorem dX3_putAliases_21 : decode cX3_putAliases 21 = .ok (.getfield 11, 3) := by decide +kernel
theorem dX3_putAliases_24 : decode cX3_putAliases 24 = .ok (.iconst 0, 1) := by decide +kernel
theorem dX3_putAliases_25 : decode cX3_putAliases 25 = .ok (.aaload, 1) := by decide +kernel
theorem dX3_putAliases_26 : decode cX3_putAliases 26 = .ok (.invokevirtual 102, 3) := by decide +kernel
theorem dX3_putAliases_29 : decode cX3_putAliases 29 = .ok (.istore 5, 2) := by decide +kernel
theorem dX3_putAliases_31 : decode cX3_putAliases 31 = .ok (.iload 5, 2) := by decide +kernel
theorem dX3_putAliases_33 : decode cX3_putAliases 33 = .ok (.iconst (-1), 1) := by decide +kernel
theorem dX3_putAliases_34 : decode cX3_putAliases 34 = .ok (.if_icmp .ne 4, 3) := by decide +kernel
theorem dX3_putAliases_37 : decode cX3_putAliases 37 = .ok (.return_, 1) := by decide +kernel
theorem dX3_putAliases_38 : decode cX3_putAliases 38 = .ok (.iload_n 3, 1) := by decide +kernel
theorem dX3_putAliases_39 : decode cX3_putAliases 39 = .ok (.iload 5, 2) := by decide +kernel
theorem dX3_putAliases_41 : decode cX3_putAliases 41 = .ok (.ishr, 1) := by decide +kernel
theorem dX3_putAliases_42 : decode cX3_putAliases 42 = .ok (.iconst 1, 1) := by decide +kernel
theorem dX3_putAliases_43 : decode cX3_putAliases 43 = .ok (.iand, 1) := by decide +kernel
theorem dX3_putAliases_44 : decode cX3_putAliases 44 = .ok (.iconst 1, 1) := by decide +kernel
theorem dX3_putAliases_45 : decode cX3_putAliases 45 = .ok (.if_icmp .ne 12, 3) := by decide +kernel
theorem dX3_putAliases_48 : decode cX3_putAliases 48 = .ok (.aload_n 0, 1) := by decide +kernel
theorem dX3_putAliases_49 : decode cX3_putAliases 49 = .ok (.iconst 3, 1) := by decide +kernel
theorem dX3_putAliases_50 : decode cX3_putAliases 50 = .ok (.iconst 0, 1) := by decide +kernel
theorem dX3_putAliases_51 : decode cX3_putAliases 51 = .ok (.iconst 0, 1) := by decide +kernel
theorem dX3_putAliases_52 : decode cX3_putAliases 52 = .ok (.iconst (-1), 1) := by decide +kernel
theorem dX3_putAliases_53 : decode cX3_putAliases 53 = .ok (.invokevirtual 108, 3) := by decide +kernel
theorem dX3_putAliases_56 : decode cX3_putAliases 56 = .ok (.return_, 1) := by decide +kernel
theorem dX3_putAliases_57 : decode cX3_putAliases 57 = .ok (.iload_n 3, 1) := by decide +kernel
theorem dX3_putAliases_58 : decode cX3_putAliases 58 = .ok (.iconst 1, 1) := by decide +kernel
theorem dX3_putAliases_59 : decode cX3_putAliases 59 = .ok (.iload 5, 2) := by decide +kernel
theorem dX3_putAliases_61 : decode cX3_putAliases 61 = .ok (.ishl, 1) := by decide +kernel
theorem dX3_putAliases_62 : decode cX3_putAliases 62 = .ok (.ior, 1) := by decide +kernel
theorem dX3_putAliases_63 : decode cX3_putAliases 63 = .ok (.istore_n 3, 1) := by decide +kernel
theorem dX3_putAliases_64 : decode cX3_putAliases 64 = .ok (.aload_n 0, 1) := by decide +kernel
theorem dX3_putAliases_65 : decode cX3_putAliases 65 = .ok (.aload_n 1, 1) := by decide +kernel
theorem dX3_putAliases_66 : decode cX3_putAliases 66 = .ok (.iload 5, 2) := by decide +kernel
theorem dX3_putAliases_68 : decode cX3_putAliases 68 = .ok (.iload_n 2, 1) := by decide +kernel
theorem dX3_putAliases_69 : decode cX3_putAliases 69 = .ok (.invokevirtual 112, 3) := by decide +kernel
theorem dX3_putAliases_72 : decode cX3_putAliases 72 = .ok (.iinc 4 1, 3) := by decide +kernel
theorem dX3_putAliases_75 : decode cX3_putAliases 75 = .ok (.goto (-70), 3) := by decide +kernel
theorem dX3_putAliases_78 : decode cX3_putAliases 78 = .ok (.return_, 1) := by decide +kernel
theorem dX3_takeStem_0 : decode cX3_takeStem 0 = .ok (.aload_n 0, 1) := by decide +kernel
theorem dX3_takeStem_1 : decode cX3_takeStem 1 = .ok (.getfield 28, 3) := by decide +kernel
theorem dX3_takeStem_4 : decode cX3_takeStem 4 = .ok (.ifCond .ne 44, 3) := by decide +kernel
theorem dX3_takeStem_7 : decode cX3_takeStem 7 = .ok (.aload_n 0, 1) := by decide +kernel
theorem dX3_takeStem_8 : decode cX3_takeStem 8 = .ok (.getfield 25, 3) := by decide +kernel
theorem dX3_takeStem_11 : decode cX3_takeStem 11 = .ok (.ifCond .eq 37, 3) := by decide +kernel
theorem dX3_takeStem_14 : decode cX3_takeStem 14 = .ok (.aload_n 0, 1) := by decide +kernel
theorem dX3_takeStem_15 : decode cX3_takeStem 15 = .ok (.getfield 21, 3) := by decide +kernel
theorem dX3_takeStem_18 : decode cX3_takeStem 18 = .ok (.ifCond .ne 30, 3) := by decide +kernel
theorem dX3_takeStem_21 : decode cX3_takeStem 21 = .ok (.aload_n 0, 1) := by decide +kernel
theorem dX3_takeStem_22 : decode cX3_takeStem 22 = .ok (.getfield 17, 3) := by decide +kernel
theorem dX3_takeStem_25 : decode cX3_takeStem 25 = .ok (.ifCond .le 23, 3) := by decide +kernel
theorem dX3_takeStem_28 : decode cX3_takeStem 28 = .ok (.aload_n 0, 1) := by decide +kernel
theorem dX3_takeStem_29 : decode cX3_takeStem 29 = .ok (.dup, 1) := by decide +kernel
theorem dX3_takeStem_30 : decode cX3_takeStem 30 = .ok (.getfield 17, 3) := by decide +kernel
theorem dX3_takeStem_33 : decode cX3_takeStem 33 = .ok (.iconst 1, 1) := by decide +kernel
theorem dX3_takeStem_34 : decode cX3_takeStem 34 = .ok (.isub, 1) := by decide +kernel
theorem dX3_takeStem_35 : decode cX3_takeStem 35 = .ok (.putfield 17, 3) := by decide +kernel
theorem dX3_takeStem_38 : decode cX3_takeStem 38 = .ok (.aload_n 0, 1) := by decide +kernel
theorem dX3_takeStem_39 : decode cX3_takeStem 39 = .ok (.getfield 11, 3) := by decide +kernel
theorem dX3_takeStem_42 : decode cX3_takeStem 42 = .ok (.aload_n 0, 1) := by decide +kernel
theorem dX3_takeStem_43 : decode cX3_takeStem 43 = .ok (.getfield 17, 3) := by decide +kernel
theorem dX3_takeStem_46 : decode cX3_takeStem 46 = .ok (.aaload, 1) := by decide +kernel
theorem dX3_takeStem_47 : decode cX3_takeStem 47 = .ok (.areturn, 1) := by decide +kernel
theorem dX3_takeStem_48 : decode cX3_takeStem 48 = .ok (.aload_n 0, 1) := by decide +kernel
theorem dX3_takeStem_49 : decode cX3_takeStem 49 = .ok (.getfield 28, 3) := by decide +kernel
theorem dX3_takeStem_52 : decode cX3_takeStem 52 = .ok (.ifCond .ne 33, 3) := by decide +kernel
theorem dX3_takeStem_55 : decode cX3_takeStem 55 = .ok (.aload_n 0, 1) := by decide +kernel
theorem dX3_takeStem_56 : decode cX3_takeStem 56 = .ok (.getfield 21, 3) := by decide +kernel
theorem dX3_takeStem_59 : decode cX3_takeStem 59 = .ok (.ifCond .ne 26, 3) := by decide +kernel
theorem dX3_takeStem_62 : decode cX3_takeStem 62 = .ok (.aload_n 0, 1) := by decide +kernel
theorem dX3_takeStem_63 : decode cX3_takeStem 63 = .ok (.getfield 17, 3) := by decide +kernel
theorem dX3_takeStem_66 : decode cX3_takeStem 66 = .ok (.bipush 60, 2) := by decide +kernel
theorem dX3_takeStem_68 : decode cX3_takeStem 68 = .ok (.if_icmp .lt 17, 3) := by decide +kernel
theorem dX3_takeStem_71 : decode cX3_takeStem 71 = .ok (.aload_n 0, 1) := by decide +kernel
theorem dX3_takeStem_72 : decode cX3_takeStem 72 = .ok (.iconst 2, 1) := by decide +kernel
theorem dX3_takeStem_73 : decode cX3_takeStem 73 = .ok (.aload_n 0, 1) := by decide +kernel
theorem dX3_takeStem_74 : decode cX3_takeStem 74 = .ok (.getfield 59, 3) := by decide +kernel
theorem dX3_takeStem_77 : decode cX3_takeStem 77 = .ok (.aload_n 0, 1) := by decide +kernel
theorem dX3_takeStem_78 : decode cX3_takeStem 78 = .ok (.getfield 50, 3) := by decide +kernel
theorem dX3_takeStem_81 : decode cX3_takeStem 81 = .ok (.isub, 1) := by decide +kernel
theorem dX3_takeStem_82 : decode cX3_takeStem 82 = .ok (.invokevirtual 78, 3) := by decide +kernel
theorem dX3_takeStem_85 : decode cX3_takeStem 85 = .ok (.new 9, 3) := by decide +kernel
theorem dX3_takeStem_88 : decode cX3_takeStem 88 = .ok (.dup, 1) := by decide +kernel
theorem dX3_takeStem_89 : decode cX3_takeStem 89 = .ok (.aload_n 0, 1) := by decide +kernel
theorem dX3_takeStem_90 : decode cX3_takeStem 90 = .ok (.getfield 43, 3) := by decide +kernel
theorem dX3_takeStem_93 : decode cX3_takeStem 93 = .ok (.iconst 0, 1) := by decide +kernel
theorem dX3_takeStem_94 : decode cX3_takeStem 94 = .ok (.iconst 0, 1) := by decide +kernel
theorem dX3_takeStem_95 : decode cX3_takeStem 95 = .ok (.invokespecial 95, 3) := by decide +kernel
theorem dX3_takeStem_98 : decode cX3_takeStem 98 = .ok (.areturn, 1) := by decide +kernel
theorem dX6_endAt_0 : decode cX6_endAt 0 = .ok (.iload_n 1, 1) := by decide +kernel
theorem dX6_endAt_1 : decode cX6_endAt 1 = .ok (.ifCond .lt 20, 3) := by decide +kernel
theorem dX6_endAt_4 : decode cX6_endAt 4 = .ok (.iload_n 1, 1) := by decide +kernel
theorem dX6_endAt_5 : decode cX6_endAt 5 = .ok (.aload_n 0, 1) := by decide +kernel
theorem dX6_endAt_6 : decode cX6_endAt 6 = .ok (.getfield 17, 3) := by decide +kernel
theorem dX6_endAt_9 : decode cX6_endAt 9 = .ok (.if_icmp .ge 12, 3) := by decide +kernel
theorem dX6_endAt_12 : decode cX6_endAt 12 = .ok (.aload_n 0, 1) := by decide +kernel
theorem dX6_endAt_13 : decode cX6_endAt 13 = .ok (.getfield 11, 3) := by decide +kernel
theorem dX6_endAt_16 : decode cX6_endAt 16 = .ok (.iload_n 1, 1) := by decide +kernel
theorem dX6_endAt_17 : decode cX6_endAt 17 = .ok (.aaload, 1) := by decide +kernel
theorem dX6_endAt_18 : decode cX6_endAt 18 = .ok (.goto 4, 3) := by decide +kernel
theorem dX6_endAt_21 : decode cX6_endAt 21 = .ok (.aconst_null, 1) := by decide +kernel
theorem dX6_endAt_22 : decode cX6_endAt 22 = .ok (.areturn, 1) := by decide +kernel
theorem dX6_forget_0 : decode cX6_forget 0 = .ok (.aload_n 0, 1) := by decide +kernel
theorem dX6_forget_1 : decode cX6_forget 1 = .ok (.iconst 0, 1) := by decide +kernel
theorem dX6_forget_2 : decode cX6_forget 2 = .ok (.putfield 17, 3) := by decide +kernel
theorem dX6_forget_5 : decode cX6_forget 5 = .ok (.aload_n 0, 1) := by decide +kernel
theorem dX6_forget_6 : decode cX6_forget 6 = .ok (.iconst 0, 1) := by decide +kernel
theorem dX6_forget_7 : decode cX6_forget 7 = .ok (.putfield 24, 3) := by decide +kernel
theorem dX6_forget_10 : decode cX6_forget 10 = .ok (.return_, 1) := by decide +kernel
theorem dX6_init_0 : decode cX6_init 0 = .ok (.aload_n 0, 1) := by decide +kernel
theorem dX6_init_1 : decode cX6_init 1 = .ok (.invokespecial 3, 3) := by decide +kernel
theorem dX6_init_4 : decode cX6_init 4 = .ok (.aload_n 0, 1) := by decide +kernel
theorem dX6_init_5 : decode cX6_init 5 = .ok (.bipush 56, 2) := by decide +kernel
theorem dX6_init_7 : decode cX6_init 7 = .ok (.anewarray 9, 3) := by decide +kernel
theorem dX6_init_10 : decode cX6_init 10 = .ok (.putfield 11, 3) := by decide +kernel
theorem dX6_init_13 : decode cX6_init 13 = .ok (.aload_n 0, 1) := by decide +kernel
theorem dX6_init_14 : decode cX6_init 14 = .ok (.iconst 0, 1) := by decide +kernel
theorem dX6_init_15 : decode cX6_init 15 = .ok (.putfield 17, 3) := by decide +kernel
theorem dX6_init_18 : decode cX6_init 18 = .ok (.aload_n 0, 1) := by decide +kernel
theorem dX6_init_19 : decode cX6_init 19 = .ok (.bipush 40, 2) := by decide +kernel
theorem dX6_init_21 : decode cX6_init 21 = .ok (.anewarray 9, 3) := by decide +kernel
theorem dX6_init_24 : decode cX6_init 24 = .ok (.putfield 21, 3) := by decide +kernel
theorem dX6_init_27 : decode cX6_init 27 = .ok (.aload_n 0, 1) := by decide +kernel
theorem dX6_init_28 : decode cX6_init 28 = .ok (.iconst 0, 1) := by decide +kernel
theorem dX6_init_29 : decode cX6_init 29 = .ok (.putfield 24, 3) := by decide +kernel
theorem dX6_init_32 : decode cX6_init 32 = .ok (.aload_n 0, 1) := by decide +kernel
theorem dX6_init_33 : decode cX6_init 33 = .ok (.bipush 11, 2) := by decide +kernel
theorem dX6_init_35 : decode cX6_init 35 = .ok (.newarray .int, 2) := by decide +kernel
theorem dX6_init_37 : decode cX6_init 37 = .ok (.putfield 27, 3) := by decide +kernel
theorem dX6_init_40 : decode cX6_init 40 = .ok (.aload_n 0, 1) := by decide +kernel
theorem dX6_init_41 : decode cX6_init 41 = .ok (.bipush 11, 2) := by decide +kernel
theorem dX6_init_43 : decode cX6_init 43 = .ok (.newarray .int, 2) := by decide +kernel
theorem dX6_init_45 : decode cX6_init 45 = .ok (.putfield 31, 3) := by decide +kernel
theorem dX6_init_48 : decode cX6_init 48 = .ok (.return_, 1) := by decide +kernel
theorem dX6_nearAt_0 : decode cX6_nearAt 0 = .ok (.iload_n 1, 1) := by decide +kernel
theorem dX6_nearAt_1 : decode cX6_nearAt 1 = .ok (.ifCond .lt 20, 3) := by decide +kernel
theorem dX6_nearAt_4 : decode cX6_nearAt 4 = .ok (.iload_n 1, 1) := by decide +kernel
theorem dX6_nearAt_5 : decode cX6_nearAt 5 = .ok (.aload_n 0, 1) := by decide +kernel
theorem dX6_nearAt_6 : decode cX6_nearAt 6 = .ok (.getfield 24, 3) := by decide +kernel
theorem dX6_nearAt_9 : decode cX6_nearAt 9 = .ok (.if_icmp .ge 12, 3) := by decide +kernel
theorem dX6_nearAt_12 : decode cX6_nearAt 12 = .ok (.aload_n 0, 1) := by decide +kernel
theorem dX6_nearAt_13 : decode cX6_nearAt 13 = .ok (.getfield 21, 3) := by decide +kernel
theorem dX6_nearAt_16 : decode cX6_nearAt 16 = .ok (.iload_n 1, 1) := by decide +kernel
theorem dX6_nearAt_17 : decode cX6_nearAt 17 = .ok (.aaload, 1) := by decide +kernel
theorem dX6_nearAt_18 : decode cX6_nearAt 18 = .ok (.goto 4, 3) := by decide +kernel
theorem dX6_nearAt_21 : decode cX6_nearAt 21 = .ok (.aconst_null, 1) := by decide +kernel
theorem dX6_nearAt_22 : decode cX6_nearAt 22 = .ok (.areturn, 1) := by decide +kernel
theorem dX6_proposeFirst_0 : decode cX6_proposeFirst 0 = .ok (.iconst 0, 1) := by decide +kernel
theorem dX6_proposeFirst_1 : decode cX6_proposeFirst 1 = .ok (.istore 5, 2) := by decide +kernel
theorem dX6_proposeFirst_3 : decode cX6_proposeFirst 3 = .ok (.iload 5, 2) := by decide +kernel
theorem dX6_proposeFirst_5 : decode cX6_proposeFirst 5 = .ok (.iload_n 3, 1) := by decide +kernel
theorem dX6_proposeFirst_6 : decode cX6_proposeFirst 6 = .ok (.if_icmp .ge 33, 3) := by decide +kernel
theorem dX6_proposeFirst_9 : decode cX6_proposeFirst 9 = .ok (.iload 5, 2) := by decide +kernel
theorem dX6_proposeFirst_11 : decode cX6_proposeFirst 11 = .ok (.aload_n 2, 1) := by decide +kernel
theorem dX6_proposeFirst_12 : decode cX6_proposeFirst 12 = .ok (.arraylength, 1) := by decide +kernel
theorem dX6_proposeFirst_13 : decode cX6_proposeFirst 13 = .ok (.if_icmp .ge 26, 3) := by decide +kernel
theorem dX6_proposeFirst_16 : decode cX6_proposeFirst 16 = .ok (.aload_n 0, 1) := by decide +kernel
theorem dX6_proposeFirst_17 : decode cX6_proposeFirst 17 = .ok (.aload_n 1, 1) := by decide +kernel
theorem dX6_proposeFirst_18 : decode cX6_proposeFirst 18 = .ok (.aload_n 2, 1) := by decide +kernel
theorem dX6_proposeFirst_19 : decode cX6_proposeFirst 19 = .ok (.iload 5, 2) := by decide +kernel
theorem dX6_proposeFirst_21 : decode cX6_proposeFirst 21 = .ok (.aaload, 1) := by decide +kernel
theorem dX6_proposeFirst_22 : decode cX6_proposeFirst 22 = .ok (.getfield 34, 3) := by decide +kernel
theorem dX6_proposeFirst_25 : decode cX6_proposeFirst 25 = .ok (.iconst 0, 1) := by decide +kernel
theorem dX6_proposeFirst_26 : decode cX6_proposeFirst 26 = .ok (.aaload, 1) := by decide +kernel
theorem dX6_proposeFirst_27 : decode cX6_proposeFirst 27 = .ok (.getfield 40, 3) := by decide +kernel
theorem dX6_proposeFirst_30 : decode cX6_proposeFirst 30 = .ok (.invokevirtual 46, 3) := by decide +kernel
theorem dX6_proposeFirst_33 : decode cX6_proposeFirst 33 = .ok (.iinc 5 1, 3) := by decide +kernel
theorem dX6_proposeFirst_36 : decode cX6_proposeFirst 36 = .ok (.goto (-33), 3) := by decide +kernel
theorem dX6_proposeFirst_39 : decode cX6_proposeFirst 39 = .ok (.iconst 0, 1) := by decide +kernel
theorem dX6_proposeFirst_40 : decode cX6_proposeFirst 40 = .ok (.istore 5, 2) := by decide +kernel
theorem dX6_proposeFirst_42 : decode cX6_proposeFirst 42 = .ok (.iload 5, 2) := by decide +kernel
theorem dX6_proposeFirst_44 : decode cX6_proposeFirst 44 = .ok (.aload 4, 2) := by decide +kernel
theorem dX6_proposeFirst_46 : decode cX6_proposeFirst 46 = .ok (.getfield 50, 3) := by decide +kernel
theorem dX6_proposeFirst_49 : decode cX6_proposeFirst 49 = .ok (.if_icmp .ge 22, 3) := by decide +kernel
theorem dX6_proposeFirst_52 : decode cX6_proposeFirst 52 = .ok (.aload_n 0, 1) := by decide +kernel
theorem dX6_proposeFirst_53 : decode cX6_proposeFirst 53 = .ok (.aload_n 1, 1) := by decide +kernel
theorem dX6_proposeFirst_54 : decode cX6_proposeFirst 54 = .ok (.aload 4, 2) := by decide +kernel
theorem dX6_proposeFirst_56 : decode cX6_proposeFirst 56 = .ok (.getfield 55, 3) := by decide +kernel
theorem dX6_proposeFirst_59 : decode cX6_proposeFirst 59 = .ok (.iload 5, 2) := by decide +kernel
theorem dX6_proposeFirst_61 : decode cX6_proposeFirst 61 = .ok (.aaload, 1) := by decide +kernel
theorem dX6_proposeFirst_62 : decode cX6_proposeFirst 62 = .ok (.invokevirtual 46, 3) := by decide +kernel
theorem dX6_proposeFirst_65 : decode cX6_proposeFirst 65 = .ok (.iinc 5 1, 3) := by decide +kernel
theorem dX6_proposeFirst_68 : decode cX6_proposeFirst 68 = .ok (.goto (-26), 3) := by decide +kernel
theorem dX6_proposeFirst_71 : decode cX6_proposeFirst 71 = .ok (.return_, 1) := by decide +kernel
theorem dX7_init_0 : decode cX7_init 0 = .ok (.aload_n 0, 1) := by decide +kernel
theorem dX7_init_1 : decode cX7_init 1 = .ok (.invokespecial 3, 3) := by decide +kernel
theorem dX7_init_4 : decode cX7_init 4 = .ok (.aload_n 0, 1) := by decide +kernel
theorem dX7_init_5 : decode cX7_init 5 = .ok (.bipush 20, 2) := by decide +kernel
theorem dX7_init_7 : decode cX7_init 7 = .ok (.anewarray 9, 3) := by decide +kernel
theorem dX7_init_10 : decode cX7_init 10 = .ok (.putfield 11, 3) := by decide +kernel
theorem dX7_init_13 : decode cX7_init 13 = .ok (.aload_n 0, 1) := by decide +kernel
theorem dX7_init_14 : decode cX7_init 14 = .ok (.bipush 20, 2) := by decide +kernel
theorem dX7_init_16 : decode cX7_init 16 = .ok (.anewarray 9, 3) := by decide +kernel
theorem dX7_init_19 : decode cX7_init 19 = .ok (.putfield 17, 3) := by decide +kernel
theorem dX7_init_22 : decode cX7_init 22 = .ok (.aload_n 0, 1) := by decide +kernel
theorem dX7_init_23 : decode cX7_init 23 = .ok (.bipush 20, 2) := by decide +kernel
theorem dX7_init_25 : decode cX7_init 25 = .ok (.newarray .int, 2) := by decide +kernel
theorem dX7_init_27 : decode cX7_init 27 = .ok (.putfield 20, 3) := by decide +kernel
theorem dX7_init_30 : decode cX7_init 30 = .ok (.aload_n 0, 1) := by decide +kernel
theorem dX7_init_31 : decode cX7_init 31 = .ok (.iconst 0, 1) := by decide +kernel
theorem dX7_init_32 : decode cX7_init 32 = .ok (.putfield 24, 3) := by decide +kernel
theorem dX7_init_35 : decode cX7_init 35 = .ok (.aload_n 0, 1) := by decide +kernel
theorem dX7_init_36 : decode cX7_init 36 = .ok (.iload_n 1, 1) := by decide +kernel
theorem dX7_init_37 : decode cX7_init 37 = .ok (.putfield 28, 3) := by decide +kernel
theorem dX7_init_40 : decode cX7_init 40 = .ok (.aload_n 0, 1) := by decide +kernel
theorem dX7_init_41 : decode cX7_init 41 = .ok (.iload_n 1, 1) := by decide +kernel
theorem dX7_init_42 : decode cX7_init 42 = .ok (.bipush 20, 2) := by decide +kernel
theorem dX7_init_44 : decode cX7_init 44 = .ok (.imul, 1) := by decide +kernel
theorem dX7_init_45 : decode cX7_init 45 = .ok (.anewarray 9, 3) := by decide +kernel
theorem dX7_init_48 : decode cX7_init 48 = .ok (.putfield 31, 3) := by decide +kernel
theorem dX7_init_51 : decode cX7_init 51 = .ok (.return_, 1) := by decide +kernel
theorem dX8_addToken_0 : decode cX8_addToken 0 = .ok (.aload_n 0, 1) := by decide +kernel
theorem dX8_addToken_1 : decode cX8_addToken 1 = .ok (.getfield 38, 3) := by decide +kernel
theorem dX8_addToken_4 : decode cX8_addToken 4 = .ok (.aload_n 0, 1) := by decide +kernel
theorem dX8_addToken_5 : decode cX8_addToken 5 = .ok (.getfield 9, 3) := by decide +kernel
theorem dX8_addToken_8 : decode cX8_addToken 8 = .ok (.arraylength, 1) := by decide +kernel
theorem dX8_addToken_9 : decode cX8_addToken 9 = .ok (.if_icmp .ge 54, 3) := by decide +kernel
theorem dX8_addToken_12 : decode cX8_addToken 12 = .ok (.aload_n 0, 1) := by decide +kernel
theorem dX8_addToken_13 : decode cX8_addToken 13 = .ok (.getfield 9, 3) := by decide +kernel
theorem dX8_addToken_16 : decode cX8_addToken 16 = .ok (.aload_n 0, 1) := by decide +kernel
theorem dX8_addToken_17 : decode cX8_addToken 17 = .ok (.getfield 38, 3) := by decide +kernel
theorem dX8_addToken_20 : decode cX8_addToken 20 = .ok (.iload_n 1, 1) := by decide +kernel
theorem dX8_addToken_21 : decode cX8_addToken 21 = .ok (.iastore, 1) := by decide +kernel
theorem dX8_addToken_22 : decode cX8_addToken 22 = .ok (.aload_n 0, 1) := by decide +kernel
theorem dX8_addToken_23 : decode cX8_addToken 23 = .ok (.getfield 15, 3) := by decide +kernel
theorem dX8_addToken_26 : decode cX8_addToken 26 = .ok (.aload_n 0, 1) := by decide +kernel
theorem dX8_addToken_27 : decode cX8_addToken 27 = .ok (.getfield 38, 3) := by decide +kernel
theorem dX8_addToken_30 : decode cX8_addToken 30 = .ok (.iload_n 2, 1) := by decide +kernel
theorem dX8_addToken_31 : decode cX8_addToken 31 = .ok (.iastore, 1) := by decide +kernel
theorem dX8_addToken_32 : decode cX8_addToken 32 = .ok (.aload_n 0, 1) := by decide +kernel
theorem dX8_addToken_33 : decode cX8_addToken 33 = .ok (.getfield 18, 3) := by decide +kernel
theorem dX8_addToken_36 : decode cX8_addToken 36 = .ok (.aload_n 0, 1) := by decide +kernel
theorem dX8_addToken_37 : decode cX8_addToken 37 = .ok (.getfield 38, 3) := by decide +kernel
theorem dX8_addToken_40 : decode cX8_addToken 40 = .ok (.iload_n 3, 1) := by decide +kernel
theorem dX8_addToken_41 : decode cX8_addToken 41 = .ok (.iastore, 1) := by decide +kernel
theorem dX8_addToken_42 : decode cX8_addToken 42 = .ok (.aload_n 0, 1) := by decide +kernel
theorem dX8_addToken_43 : decode cX8_addToken 43 = .ok (.getfield 21, 3) := by decide +kernel
theorem dX8_addToken_46 : decode cX8_addToken 46 = .ok (.aload_n 0, 1) := by decide +kernel
theorem dX8_addToken_47 : decode cX8_addToken 47 = .ok (.getfield 38, 3) := by decide +kernel
theorem dX8_addToken_50 : decode cX8_addToken 50 = .ok (.iload 4, 2) := by decide +kernel
theorem dX8_addToken_52 : decode cX8_addToken 52 = .ok (.iastore, 1) := by decide +kernel
theorem dX8_addToken_53 : decode cX8_addToken 53 = .ok (.aload_n 0, 1) := by decide +kernel
theorem dX8_addToken_54 : decode cX8_addToken 54 = .ok (.dup, 1) := by decide +kernel
theorem dX8_addToken_55 : decode cX8_addToken 55 = .ok (.getfield 38, 3) := by decide +kernel
theorem dX8_addToken_58 : decode cX8_addToken 58 = .ok (.iconst 1, 1) := by decide +kernel
theorem dX8_addToken_59 : decode cX8_addToken 59 = .ok (.iadd, 1) := by decide +kernel
theorem dX8_addToken_60 : decode cX8_addToken 60 = .ok (.putfield 38, 3) := by decide +kernel
theorem dX8_addToken_63 : decode cX8_addToken 63 = .ok (.iload_n 3, 1) := by decide +kernel
theorem dX8_addToken_64 : decode cX8_addToken 64 = .ok (.ireturn, 1) := by decide +kernel
theorem dX8_init_0 : decode cX8_init 0 = .ok (.aload_n 0, 1) := by decide +kernel
theorem dX8_init_1 : decode cX8_init 1 = .ok (.invokespecial 3, 3) := by decide +kernel
theorem dX8_init_4 : decode cX8_init 4 = .ok (.aload_n 0, 1) := by decide +kernel
theorem dX8_init_5 : decode cX8_init 5 = .ok (.sipush 2001, 3) := by decide +kernel
theorem dX8_init_8 : decode cX8_init 8 = .ok (.newarray .int, 2) := by decide +kernel
theorem dX8_init_10 : decode cX8_init 10 = .ok (.putfield 9, 3) := by decide +kernel
theorem dX8_init_13 : decode cX8_init 13 = .ok (.aload_n 0, 1) := by decide +kernel
theorem dX8_init_14 : decode cX8_init 14 = .ok (.sipush 2001, 3) := by decide +kernel
theorem dX8_init_17 : decode cX8_init 17 = .ok (.newarray .int, 2) := by decide +kernel
theorem dX8_init_19 : decode cX8_init 19 = .ok (.putfield 15, 3) := by decide +kernel
theorem dX8_init_22 : decode cX8_init 22 = .ok (.aload_n 0, 1) := by decide +kernel
theorem dX8_init_23 : decode cX8_init 23 = .ok (.sipush 2001, 3) := by decide +kernel
theorem dX8_init_26 : decode cX8_init 26 = .ok (.newarray .int, 2) := by decide +kernel
theorem dX8_init_28 : decode cX8_init 28 = .ok (.putfield 18, 3) := by decide +kernel
theorem dX8_init_31 : decode cX8_init 31 = .ok (.aload_n 0, 1) := by decide +kernel
theorem dX8_init_32 : decode cX8_init 32 = .ok (.sipush 2001, 3) := by decide +kernel
theorem dX8_init_35 : decode cX8_init 35 = .ok (.newarray .int, 2) := by decide +kernel
theorem dX8_init_37 : decode cX8_init 37 = .ok (.putfield 21, 3) := by decide +kernel
theorem dX8_init_40 : decode cX8_init 40 = .ok (.return_, 1) := by decide +kernel
theorem dX8_scan_0 : decode cX8_scan 0 = .ok (.aload_n 0, 1) := by decide +kernel
theorem dX8_scan_1 : decode cX8_scan 1 = .ok (.aload_n 1, 1) := by decide +kernel
theorem dX8_scan_2 : decode cX8_scan 2 = .ok (.putfield 24, 3) := by decide +kernel
theorem dX8_scan_5 : decode cX8_scan 5 = .ok (.aload_n 0, 1) := by decide +kernel
theorem dX8_scan_6 : decode cX8_scan 6 = .ok (.iload_n 2, 1) := by decide +kernel
theorem dX8_scan_7 : decode cX8_scan 7 = .ok (.aload_n 1, 1) := by decide +kernel
theorem dX8_scan_8 : decode cX8_scan 8 = .ok (.arraylength, 1) := by decide +kernel
theorem dX8_scan_9 : decode cX8_scan 9 = .ok (.invokestatic 28, 3) := by decide +kernel
theorem dX8_scan_12 : decode cX8_scan 12 = .ok (.putfield 34, 3) := by decide +kernel
theorem dX8_scan_15 : decode cX8_scan 15 = .ok (.aload_n 0, 1) := by decide +kernel
theorem dX8_scan_16 : decode cX8_scan 16 = .ok (.iconst 0, 1) := by decide +kernel
theorem dX8_scan_17 : decode cX8_scan 17 = .ok (.putfield 38, 3) := by decide +kernel
theorem dX8_scan_20 : decode cX8_scan 20 = .ok (.iconst 0, 1) := by decide +kernel
theorem dX8_scan_21 : decode cX8_scan 21 = .ok (.istore_n 3, 1) := by decide +kernel
theorem dX8_scan_22 : decode cX8_scan 22 = .ok (.iconst 0, 1) := by decide +kernel
theorem dX8_scan_23 : decode cX8_scan 23 = .ok (.istore 4, 2) := by decide +kernel
theorem dX8_scan_25 : decode cX8_scan 25 = .ok (.iload 4, 2) := by decide +kernel
theorem dX8_scan_27 : decode cX8_scan 27 = .ok (.sipush 2000, 3) := by decide +kernel
theorem dX8_scan_30 : decode cX8_scan 30 = .ok (.if_icmp .gt 81, 3) := by decide +kernel
theorem dX8_scan_33 : decode cX8_scan 33 = .ok (.iload_n 3, 1) := by decide +kernel
theorem dX8_scan_34 : decode cX8_scan 34 = .ok (.aload_n 0, 1) := by decide +kernel
theorem dX8_scan_35 : decode cX8_scan 35 = .ok (.getfield 34, 3) := by decide +kernel
theorem dX8_scan_38 : decode cX8_scan 38 = .ok (.if_icmp .ge 21, 3) := by decide +kernel
theorem dX8_scan_41 : decode cX8_scan 41 = .ok (.aload_n 0, 1) := by decide +kernel
theorem dX8_scan_42 : decode cX8_scan 42 = .ok (.getfield 24, 3) := by decide +kernel
theorem dX8_scan_45 : decode cX8_scan 45 = .ok (.iload_n 3, 1) := by decide +kernel
theorem dX8_scan_46 : decode cX8_scan 46 = .ok (.caload, 1) := by decide +kernel
theorem dX8_scan_47 : decode cX8_scan 47 = .ok (.invokestatic 41, 3) := by decide +kernel
theorem dX8_scan_50 : decode cX8_scan 50 = .ok (.ifCond .eq 9, 3) := by decide +kernel
theorem dX8_scan_53 : decode cX8_scan 53 = .ok (.iinc 3 1, 3) := by decide +kernel
theorem dX8_scan_56 : decode cX8_scan 56 = .ok (.goto (-23), 3) := by decide +kernel
theorem dX8_scan_59 : decode cX8_scan 59 = .ok (.iload_n 3, 1) := by decide +kernel
theorem dX8_scan_60 : decode cX8_scan 60 = .ok (.aload_n 0, 1) := by decide +kernel
theorem dX8_scan_61 : decode cX8_scan 61 = .ok (.getfield 34, 3) := by decide +kernel
theorem dX8_scan_64 : decode cX8_scan 64 = .ok (.if_icmp .lt 19, 3) := by decide +kernel
theorem dX8_scan_67 : decode cX8_scan 67 = .ok (.aload_n 0, 1) := by decide +kernel
theorem dX8_scan_68 : decode cX8_scan 68 = .ok (.iconst 0, 1) := by decide +kernel
theorem dX8_scan_69 : decode cX8_scan 69 = .ok (.aload_n 0, 1) := by decide +kernel
theorem dX8_scan_70 : decode cX8_scan 70 = .ok (.getfield 34, 3) := by decide +kernel
theorem dX8_scan_73 : decode cX8_scan 73 = .ok (.aload_n 0, 1) := by decide +kernel
theorem dX8_scan_74 : decode cX8_scan 74 = .ok (.getfield 34, 3) := by decide +kernel
theorem dX8_scan_77 : decode cX8_scan 77 = .ok (.iconst 0, 1) := by decide +kernel
theorem dX8_scan_78 : decode cX8_scan 78 = .ok (.invokevirtual 45, 3) := by decide +kernel
theorem dX8_scan_81 : decode cX8_scan 81 = .ok (.pop, 1) := by decide +kernel
theorem dX8_scan_82 : decode cX8_scan 82 = .ok (.return_, 1) := by decide +kernel
theorem dX8_scan_83 : decode cX8_scan 83 = .ok (.aload_n 0, 1) := by decide +kernel
theorem dX8_scan_84 : decode cX8_scan 84 = .ok (.iload_n 3, 1) := by decide +kernel
theorem dX8_scan_85 : decode cX8_scan 85 = .ok (.invokevirtual 49, 3) := by decide +kernel
theorem dX8_scan_88 : decode cX8_scan 88 = .ok (.istore_n 3, 1) := by decide +kernel
theorem dX8_scan_89 : decode cX8_scan 89 = .ok (.aload_n 0, 1) := by decide +kernel
theorem dX8_scan_90 : decode cX8_scan 90 = .ok (.getfield 9, 3) := by decide +kernel
theorem dX8_scan_93 : decode cX8_scan 93 = .ok (.aload_n 0, 1) := by decide +kernel
theorem dX8_scan_94 : decode cX8_scan 94 = .ok (.getfield 38, 3) := by decide +kernel
theorem dX8_scan_97 : decode cX8_scan 97 = .ok (.iconst 1, 1) := by decide +kernel
theorem dX8_scan_98 : decode cX8_scan 98 = .ok (.isub, 1) := by decide +kernel
theorem dX8_scan_99 : decode cX8_scan 99 = .ok (.iaload, 1) := by decide +kernel
theorem dX8_scan_100 : decode cX8_scan 100 = .ok (.iconst 1, 1) := by decide +kernel
theorem dX8_scan_101 : decode cX8_scan 101 = .ok (.if_icmp .ne 4, 3) := by decide +kernel
theorem dX8_scan_104 : decode cX8_scan 104 = .ok (.return_, 1) := by decide +kernel
theorem dX8_scan_105 : decode cX8_scan 105 = .ok (.iinc 4 1, 3) := by decide +kernel
theorem dX8_scan_108 : decode cX8_scan 108 = .ok (.goto (-83), 3) := by decide +kernel
theorem dX8_scan_111 : decode cX8_scan 111 = .ok (.return_, 1) := by decide +kernel
theorem dX9_init_0 : decode cX9_init 0 = .ok (.aload_n 0, 1) := by decide +kernel
theorem dX9_init_1 : decode cX9_init 1 = .ok (.invokespecial 3, 3) := by decide +kernel
theorem dX9_init_4 : decode cX9_init 4 = .ok (.iconst 0, 1) := by decide +kernel
theorem dX9_init_5 : decode cX9_init 5 = .ok (.iload_n 2, 1) := by decide +kernel
theorem dX9_init_6 : decode cX9_init 6 = .ok (.invokestatic 9, 3) := by decide +kernel
theorem dX9_init_9 : decode cX9_init 9 = .ok (.istore 4, 2) := by decide +kernel
theorem dX9_init_11 : decode cX9_init 11 = .ok (.iconst 0, 1) := by decide +kernel
theorem dX9_init_12 : decode cX9_init 12 = .ok (.aload_n 1, 1) := by decide +kernel
theorem dX9_init_13 : decode cX9_init 13 = .ok (.arraylength, 1) := by decide +kernel
