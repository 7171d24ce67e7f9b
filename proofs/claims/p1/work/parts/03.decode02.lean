theorem dX11_init_128 : decode cX11_init 128 = .ok (.putfield 83, 3) := by decide +kernel
theorem dX11_init_131 : decode cX11_init 131 = .ok (.aload_n 0, 1) := by decide +kernel
theorem dX11_init_132 : decode cX11_init 132 = .ok (.new 77, 3) := by decide +kernel
theorem dX11_init_135 : decode cX11_init 135 = .ok (.dup, 1) := by decide +kernel
theorem dX11_init_136 : decode cX11_init 136 = .ok (.invokespecial 86, 3) := by decide +kernel
theorem dX11_init_139 : decode cX11_init 139 = .ok (.putfield 87, 3) := by decide +kernel
theorem dX11_init_142 : decode cX11_init 142 = .ok (.iconst 0, 1) := by decide +kernel
theorem dX11_init_143 : decode cX11_init 143 = .ok (.istore_n 1, 1) := by decide +kernel
theorem dX11_init_144 : decode cX11_init 144 = .ok (.iload_n 1, 1) := by decide +kernel
theorem dX11_init_145 : decode cX11_init 145 = .ok (.iconst 3, 1) := by decide +kernel
theorem dX11_init_146 : decode cX11_init 146 = .ok (.if_icmp .ge 33, 3) := by decide +kernel
theorem dX11_init_149 : decode cX11_init 149 = .ok (.aload_n 0, 1) := by decide +kernel
theorem dX11_init_150 : decode cX11_init 150 = .ok (.getfield 49, 3) := by decide +kernel
theorem dX11_init_153 : decode cX11_init 153 = .ok (.iload_n 1, 1) := by decide +kernel
theorem dX11_init_154 : decode cX11_init 154 = .ok (.new 47, 3) := by decide +kernel
theorem dX11_init_157 : decode cX11_init 157 = .ok (.dup, 1) := by decide +kernel
theorem dX11_init_158 : decode cX11_init 158 = .ok (.iload_n 1, 1) := by decide +kernel
theorem dX11_init_159 : decode cX11_init 159 = .ok (.iconst 2, 1) := by decide +kernel
theorem dX11_init_160 : decode cX11_init 160 = .ok (.if_icmp .ne 8, 3) := by decide +kernel
theorem dX11_init_163 : decode cX11_init 163 = .ok (.bipush 30, 2) := by decide +kernel
theorem dX11_init_165 : decode cX11_init 165 = .ok (.goto 4, 3) := by decide +kernel
theorem dX11_init_168 : decode cX11_init 168 = .ok (.iconst 0, 1) := by decide +kernel
theorem dX11_init_169 : decode cX11_init 169 = .ok (.invokespecial 91, 3) := by decide +kernel
theorem dX11_init_172 : decode cX11_init 172 = .ok (.aastore, 1) := by decide +kernel
theorem dX11_init_173 : decode cX11_init 173 = .ok (.iinc 1 1, 3) := by decide +kernel
theorem dX11_init_176 : decode cX11_init 176 = .ok (.goto (-32), 3) := by decide +kernel
theorem dX11_init_179 : decode cX11_init 179 = .ok (.return_, 1) := by decide +kernel
theorem dX11_isLineOnTape_0 : decode cX11_isLineOnTape 0 = .ok (.aload_n 0, 1) := by decide +kernel
theorem dX11_isLineOnTape_1 : decode cX11_isLineOnTape 1 = .ok (.iload_n 1, 1) := by decide +kernel
theorem dX11_isLineOnTape_2 : decode cX11_isLineOnTape 2 = .ok (.invokevirtual 97, 3) := by decide +kernel
theorem dX11_isLineOnTape_5 : decode cX11_isLineOnTape 5 = .ok (.ifCond .eq 14, 3) := by decide +kernel
theorem dX11_isLineOnTape_8 : decode cX11_isLineOnTape 8 = .ok (.iload_n 1, 1) := by decide +kernel
theorem dX11_isLineOnTape_9 : decode cX11_isLineOnTape 9 = .ok (.sipush 400, 3) := by decide +kernel
theorem dX11_isLineOnTape_12 : decode cX11_isLineOnTape 12 = .ok (.if_icmp .gt 7, 3) := by decide +kernel
theorem dX11_isLineOnTape_15 : decode cX11_isLineOnTape 15 = .ok (.iconst 1, 1) := by decide +kernel
theorem dX11_isLineOnTape_16 : decode cX11_isLineOnTape 16 = .ok (.goto 4, 3) := by decide +kernel
theorem dX11_isLineOnTape_19 : decode cX11_isLineOnTape 19 = .ok (.iconst 0, 1) := by decide +kernel
theorem dX11_isLineOnTape_20 : decode cX11_isLineOnTape 20 = .ok (.ireturn, 1) := by decide +kernel
theorem dX11_isOnTape_0 : decode cX11_isOnTape 0 = .ok (.iload_n 1, 1) := by decide +kernel
theorem dX11_isOnTape_1 : decode cX11_isOnTape 1 = .ok (.ifCond .lt 15, 3) := by decide +kernel
theorem dX11_isOnTape_4 : decode cX11_isOnTape 4 = .ok (.iload_n 1, 1) := by decide +kernel
theorem dX11_isOnTape_5 : decode cX11_isOnTape 5 = .ok (.aload_n 0, 1) := by decide +kernel
theorem dX11_isOnTape_6 : decode cX11_isOnTape 6 = .ok (.getfield 15, 3) := by decide +kernel
theorem dX11_isOnTape_9 : decode cX11_isOnTape 9 = .ok (.if_icmp .gt 7, 3) := by decide +kernel
theorem dX11_isOnTape_12 : decode cX11_isOnTape 12 = .ok (.iconst 1, 1) := by decide +kernel
theorem dX11_isOnTape_13 : decode cX11_isOnTape 13 = .ok (.goto 4, 3) := by decide +kernel
theorem dX11_isOnTape_16 : decode cX11_isOnTape 16 = .ok (.iconst 0, 1) := by decide +kernel
theorem dX11_isOnTape_17 : decode cX11_isOnTape 17 = .ok (.ireturn, 1) := by decide +kernel
theorem dX11_isSortOfRows_0 : decode cX11_isSortOfRows 0 = .ok (.iload_n 0, 1) := by decide +kernel
theorem dX11_isSortOfRows_1 : decode cX11_isSortOfRows 1 = .ok (.ifCond .lt 12, 3) := by decide +kernel
theorem dX11_isSortOfRows_4 : decode cX11_isSortOfRows 4 = .ok (.iload_n 0, 1) := by decide +kernel
theorem dX11_isSortOfRows_5 : decode cX11_isSortOfRows 5 = .ok (.iconst 3, 1) := by decide +kernel
theorem dX11_isSortOfRows_6 : decode cX11_isSortOfRows 6 = .ok (.if_icmp .ge 7, 3) := by decide +kernel
theorem dX11_isSortOfRows_9 : decode cX11_isSortOfRows 9 = .ok (.iconst 1, 1) := by decide +kernel
theorem dX11_isSortOfRows_10 : decode cX11_isSortOfRows 10 = .ok (.goto 4, 3) := by decide +kernel
theorem dX11_isSortOfRows_13 : decode cX11_isSortOfRows 13 = .ok (.iconst 0, 1) := by decide +kernel
theorem dX11_isSortOfRows_14 : decode cX11_isSortOfRows 14 = .ok (.ireturn, 1) := by decide +kernel
theorem dX11_item_0 : decode cX11_item 0 = .ok (.aload_n 0, 1) := by decide +kernel
theorem dX11_item_1 : decode cX11_item 1 = .ok (.iload_n 1, 1) := by decide +kernel
theorem dX11_item_2 : decode cX11_item 2 = .ok (.invokevirtual 242, 3) := by decide +kernel
theorem dX11_item_5 : decode cX11_item 5 = .ok (.astore 4, 2) := by decide +kernel
theorem dX11_item_7 : decode cX11_item 7 = .ok (.iload_n 3, 1) := by decide +kernel
theorem dX11_item_8 : decode cX11_item 8 = .ok (.ifCond .ge 5, 3) := by decide +kernel
theorem dX11_item_11 : decode cX11_item 11 = .ok (.iconst 0, 1) := by decide +kernel
theorem dX11_item_12 : decode cX11_item 12 = .ok (.ireturn, 1) := by decide +kernel
theorem dX11_item_13 : decode cX11_item 13 = .ok (.iload_n 2, 1) := by decide +kernel
theorem dX11_item_14 : decode cX11_item 14 = .ok (.iconst (-1), 1) := by decide +kernel
theorem dX11_item_15 : decode cX11_item 15 = .ok (.if_icmp .ne 17, 3) := by decide +kernel
theorem dX11_item_18 : decode cX11_item 18 = .ok (.aload 4, 2) := by decide +kernel
theorem dX11_item_20 : decode cX11_item 20 = .ok (.iload_n 3, 1) := by decide +kernel
theorem dX11_item_21 : decode cX11_item 21 = .ok (.bipush 100, 2) := by decide +kernel
theorem dX11_item_23 : decode cX11_item 23 = .ok (.idiv, 1) := by decide +kernel
theorem dX11_item_24 : decode cX11_item 24 = .ok (.iload_n 3, 1) := by decide +kernel
theorem dX11_item_25 : decode cX11_item 25 = .ok (.bipush 100, 2) := by decide +kernel
theorem dX11_item_27 : decode cX11_item 27 = .ok (.irem, 1) := by decide +kernel
theorem dX11_item_28 : decode cX11_item 28 = .ok (.invokevirtual 266, 3) := by decide +kernel
theorem dX11_item_31 : decode cX11_item 31 = .ok (.ireturn, 1) := by decide +kernel
theorem dX11_item_32 : decode cX11_item 32 = .ok (.aload 4, 2) := by decide +kernel
theorem dX11_item_34 : decode cX11_item 34 = .ok (.iload_n 2, 1) := by decide +kernel
theorem dX11_item_35 : decode cX11_item 35 = .ok (.invokevirtual 256, 3) := by decide +kernel
theorem dX11_item_38 : decode cX11_item 38 = .ok (.ifCond .eq 13, 3) := by decide +kernel
theorem dX11_item_41 : decode cX11_item 41 = .ok (.aload 4, 2) := by decide +kernel
theorem dX11_item_43 : decode cX11_item 43 = .ok (.iload_n 2, 1) := by decide +kernel
theorem dX11_item_44 : decode cX11_item 44 = .ok (.iload_n 3, 1) := by decide +kernel
theorem dX11_item_45 : decode cX11_item 45 = .ok (.invokevirtual 270, 3) := by decide +kernel
theorem dX11_item_48 : decode cX11_item 48 = .ok (.goto 4, 3) := by decide +kernel
theorem dX11_item_51 : decode cX11_item 51 = .ok (.iconst 0, 1) := by decide +kernel
theorem dX11_item_52 : decode cX11_item 52 = .ok (.ireturn, 1) := by decide +kernel
theorem dX11_octet_0 : decode cX11_octet 0 = .ok (.iload_n 1, 1) := by decide +kernel
theorem dX11_octet_1 : decode cX11_octet 1 = .ok (.ifCond .lt 25, 3) := by decide +kernel
theorem dX11_octet_4 : decode cX11_octet 4 = .ok (.iload_n 1, 1) := by decide +kernel
theorem dX11_octet_5 : decode cX11_octet 5 = .ok (.aload_n 0, 1) := by decide +kernel
theorem dX11_octet_6 : decode cX11_octet 6 = .ok (.getfield 22, 3) := by decide +kernel
theorem dX11_octet_9 : decode cX11_octet 9 = .ok (.invokevirtual 233, 3) := by decide +kernel
theorem dX11_octet_12 : decode cX11_octet 12 = .ok (.if_icmp .ge 14, 3) := by decide +kernel
theorem dX11_octet_15 : decode cX11_octet 15 = .ok (.aload_n 0, 1) := by decide +kernel
theorem dX11_octet_16 : decode cX11_octet 16 = .ok (.getfield 22, 3) := by decide +kernel
theorem dX11_octet_19 : decode cX11_octet 19 = .ok (.iload_n 1, 1) := by decide +kernel
theorem dX11_octet_20 : decode cX11_octet 20 = .ok (.invokevirtual 284, 3) := by decide +kernel
theorem dX11_octet_23 : decode cX11_octet 23 = .ok (.goto 4, 3) := by decide +kernel
theorem dX11_octet_26 : decode cX11_octet 26 = .ok (.iconst (-1), 1) := by decide +kernel
theorem dX11_octet_27 : decode cX11_octet 27 = .ok (.ireturn, 1) := by decide +kernel
theorem dX11_print_0 : decode cX11_print 0 = .ok (.aload_n 0, 1) := by decide +kernel
theorem dX11_print_1 : decode cX11_print 1 = .ok (.iload_n 1, 1) := by decide +kernel
theorem dX11_print_2 : decode cX11_print 2 = .ok (.invokevirtual 242, 3) := by decide +kernel
theorem dX11_print_5 : decode cX11_print 5 = .ok (.astore_n 2, 1) := by decide +kernel
theorem dX11_print_6 : decode cX11_print 6 = .ok (.aload_n 0, 1) := by decide +kernel
theorem dX11_print_7 : decode cX11_print 7 = .ok (.getfield 22, 3) := by decide +kernel
theorem dX11_print_10 : decode cX11_print 10 = .ok (.iconst 0, 1) := by decide +kernel
theorem dX11_print_11 : decode cX11_print 11 = .ok (.invokevirtual 277, 3) := by decide +kernel
theorem dX11_print_14 : decode cX11_print 14 = .ok (.aload_n 2, 1) := by decide +kernel
theorem dX11_print_15 : decode cX11_print 15 = .ok (.aload_n 0, 1) := by decide +kernel
theorem dX11_print_16 : decode cX11_print 16 = .ok (.getfield 22, 3) := by decide +kernel
theorem dX11_print_19 : decode cX11_print 19 = .ok (.invokevirtual 280, 3) := by decide +kernel
theorem dX11_print_22 : decode cX11_print 22 = .ok (.aload_n 0, 1) := by decide +kernel
theorem dX11_print_23 : decode cX11_print 23 = .ok (.getfield 22, 3) := by decide +kernel
theorem dX11_print_26 : decode cX11_print 26 = .ok (.invokevirtual 233, 3) := by decide +kernel
theorem dX11_print_29 : decode cX11_print 29 = .ok (.ireturn, 1) := by decide +kernel
theorem dX11_put_0 : decode cX11_put 0 = .ok (.aload_n 0, 1) := by decide +kernel
theorem dX11_put_1 : decode cX11_put 1 = .ok (.iload_n 2, 1) := by decide +kernel
theorem dX11_put_2 : decode cX11_put 2 = .ok (.invokevirtual 97, 3) := by decide +kernel
theorem dX11_put_5 : decode cX11_put 5 = .ok (.ifCond .eq 10, 3) := by decide +kernel
theorem dX11_put_8 : decode cX11_put 8 = .ok (.iload_n 1, 1) := by decide +kernel
theorem dX11_put_9 : decode cX11_put 9 = .ok (.invokestatic 117, 3) := by decide +kernel
theorem dX11_put_12 : decode cX11_put 12 = .ok (.ifCond .ne 11, 3) := by decide +kernel
theorem dX11_put_15 : decode cX11_put 15 = .ok (.new 101, 3) := by decide +kernel
theorem dX11_put_18 : decode cX11_put 18 = .ok (.dup, 1) := by decide +kernel
theorem dX11_put_19 : decode cX11_put 19 = .ok (.invokespecial 103, 3) := by decide +kernel
theorem dX11_put_22 : decode cX11_put 22 = .ok (.athrow, 1) := by decide +kernel
theorem dX11_put_23 : decode cX11_put 23 = .ok (.aload_n 0, 1) := by decide +kernel
theorem dX11_put_24 : decode cX11_put 24 = .ok (.iconst 0, 1) := by decide +kernel
theorem dX11_put_25 : decode cX11_put 25 = .ok (.putfield 15, 3) := by decide +kernel
theorem dX11_put_28 : decode cX11_put 28 = .ok (.iconst 0, 1) := by decide +kernel
theorem dX11_put_29 : decode cX11_put 29 = .ok (.istore_n 3, 1) := by decide +kernel
theorem dX11_put_30 : decode cX11_put 30 = .ok (.iload_n 3, 1) := by decide +kernel
theorem dX11_put_31 : decode cX11_put 31 = .ok (.iload_n 2, 1) := by decide +kernel
theorem dX11_put_32 : decode cX11_put 32 = .ok (.if_icmp .ge 20, 3) := by decide +kernel
theorem dX11_put_35 : decode cX11_put 35 = .ok (.aload_n 0, 1) := by decide +kernel
theorem dX11_put_36 : decode cX11_put 36 = .ok (.getfield 11, 3) := by decide +kernel
theorem dX11_put_39 : decode cX11_put 39 = .ok (.iload_n 3, 1) := by decide +kernel
theorem dX11_put_40 : decode cX11_put 40 = .ok (.caload, 1) := by decide +kernel
theorem dX11_put_41 : decode cX11_put 41 = .ok (.bipush 61, 2) := by decide +kernel
theorem dX11_put_43 : decode cX11_put 43 = .ok (.if_icmp .eq 9, 3) := by decide +kernel
theorem dX11_put_46 : decode cX11_put 46 = .ok (.iinc 3 1, 3) := by decide +kernel
theorem dX11_put_49 : decode cX11_put 49 = .ok (.goto (-19), 3) := by decide +kernel
theorem dX11_put_52 : decode cX11_put 52 = .ok (.iload_n 3, 1) := by decide +kernel
theorem dX11_put_53 : decode cX11_put 53 = .ok (.iload_n 2, 1) := by decide +kernel
theorem dX11_put_54 : decode cX11_put 54 = .ok (.if_icmp .ge 23, 3) := by decide +kernel
theorem dX11_put_57 : decode cX11_put 57 = .ok (.aload_n 0, 1) := by decide +kernel
theorem dX11_put_58 : decode cX11_put 58 = .ok (.iload_n 1, 1) := by decide +kernel
theorem dX11_put_59 : decode cX11_put 59 = .ok (.iload_n 3, 1) := by decide +kernel
theorem dX11_put_60 : decode cX11_put 60 = .ok (.invokevirtual 120, 3) := by decide +kernel
theorem dX11_put_63 : decode cX11_put 63 = .ok (.ifCond .eq 14, 3) := by decide +kernel
theorem dX11_put_66 : decode cX11_put 66 = .ok (.aload_n 0, 1) := by decide +kernel
theorem dX11_put_67 : decode cX11_put 67 = .ok (.iload_n 3, 1) := by decide +kernel
theorem dX11_put_68 : decode cX11_put 68 = .ok (.iconst 1, 1) := by decide +kernel
theorem dX11_put_69 : decode cX11_put 69 = .ok (.iadd, 1) := by decide +kernel
theorem dX11_put_70 : decode cX11_put 70 = .ok (.iload_n 2, 1) := by decide +kernel
theorem dX11_put_71 : decode cX11_put 71 = .ok (.invokevirtual 124, 3) := by decide +kernel
theorem dX11_put_74 : decode cX11_put 74 = .ok (.ifCond .ne 5, 3) := by decide +kernel
theorem dX11_put_77 : decode cX11_put 77 = .ok (.iconst 0, 1) := by decide +kernel
theorem dX11_put_78 : decode cX11_put 78 = .ok (.ireturn, 1) := by decide +kernel
theorem dX11_put_79 : decode cX11_put 79 = .ok (.iload_n 1, 1) := by decide +kernel
theorem dX11_put_80 : decode cX11_put 80 = .ok (.iconst 2, 1) := by decide +kernel
theorem dX11_put_81 : decode cX11_put 81 = .ok (.if_icmp .ne 23, 3) := by decide +kernel
theorem dX11_put_84 : decode cX11_put 84 = .ok (.aload_n 0, 1) := by decide +kernel
theorem dX11_put_85 : decode cX11_put 85 = .ok (.getfield 56, 3) := by decide +kernel
theorem dX11_put_88 : decode cX11_put 88 = .ok (.aload_n 0, 1) := by decide +kernel
theorem dX11_put_89 : decode cX11_put 89 = .ok (.getfield 11, 3) := by decide +kernel
theorem dX11_put_92 : decode cX11_put 92 = .ok (.iload_n 3, 1) := by decide +kernel
theorem dX11_put_93 : decode cX11_put 93 = .ok (.iconst 1, 1) := by decide +kernel
theorem dX11_put_94 : decode cX11_put 94 = .ok (.iadd, 1) := by decide +kernel
theorem dX11_put_95 : decode cX11_put 95 = .ok (.iload_n 2, 1) := by decide +kernel
theorem dX11_put_96 : decode cX11_put 96 = .ok (.invokevirtual 127, 3) := by decide +kernel
theorem dX11_put_99 : decode cX11_put 99 = .ok (.ifCond .ne 5, 3) := by decide +kernel
theorem dX11_put_102 : decode cX11_put 102 = .ok (.iconst 0, 1) := by decide +kernel
theorem dX11_put_103 : decode cX11_put 103 = .ok (.ireturn, 1) := by decide +kernel
theorem dX11_put_104 : decode cX11_put 104 = .ok (.new 131, 3) := by decide +kernel
theorem dX11_put_107 : decode cX11_put 107 = .ok (.dup, 1) := by decide +kernel
theorem dX11_put_108 : decode cX11_put 108 = .ok (.aload_n 0, 1) := by decide +kernel
theorem dX11_put_109 : decode cX11_put 109 = .ok (.getfield 11, 3) := by decide +kernel
theorem dX11_put_112 : decode cX11_put 112 = .ok (.iconst 0, 1) := by decide +kernel
theorem dX11_put_113 : decode cX11_put 113 = .ok (.iload_n 3, 1) := by decide +kernel
theorem dX11_put_114 : decode cX11_put 114 = .ok (.invokespecial 133, 3) := by decide +kernel
theorem dX11_put_117 : decode cX11_put 117 = .ok (.astore 4, 2) := by decide +kernel
theorem dX11_put_119 : decode cX11_put 119 = .ok (.aload_n 0, 1) := by decide +kernel
theorem dX11_put_120 : decode cX11_put 120 = .ok (.getfield 49, 3) := by decide +kernel
theorem dX11_put_123 : decode cX11_put 123 = .ok (.iload_n 1, 1) := by decide +kernel
theorem dX11_put_124 : decode cX11_put 124 = .ok (.aaload, 1) := by decide +kernel
theorem dX11_put_125 : decode cX11_put 125 = .ok (.aload 4, 2) := by decide +kernel
theorem dX11_put_127 : decode cX11_put 127 = .ok (.new 131, 3) := by decide +kernel
theorem dX11_put_130 : decode cX11_put 130 = .ok (.dup, 1) := by decide +kernel
theorem dX11_put_131 : decode cX11_put 131 = .ok (.aload_n 0, 1) := by decide +kernel
theorem dX11_put_132 : decode cX11_put 132 = .ok (.getfield 11, 3) := by decide +kernel
theorem dX11_put_135 : decode cX11_put 135 = .ok (.iload_n 3, 1) := by decide +kernel
theorem dX11_put_136 : decode cX11_put 136 = .ok (.iconst 1, 1) := by decide +kernel
theorem dX11_put_137 : decode cX11_put 137 = .ok (.iadd, 1) := by decide +kernel
theorem dX11_put_138 : decode cX11_put 138 = .ok (.iload_n 2, 1) := by decide +kernel
theorem dX11_put_139 : decode cX11_put 139 = .ok (.invokespecial 133, 3) := by decide +kernel
theorem dX11_put_142 : decode cX11_put 142 = .ok (.aload_n 0, 1) := by decide +kernel
theorem dX11_put_143 : decode cX11_put 143 = .ok (.getfield 56, 3) := by decide +kernel
theorem dX11_put_146 : decode cX11_put 146 = .ok (.invokevirtual 136, 3) := by decide +kernel
theorem dX11_put_149 : decode cX11_put 149 = .ok (.ifCond .eq 7, 3) := by decide +kernel
theorem dX11_put_152 : decode cX11_put 152 = .ok (.iconst 1, 1) := by decide +kernel
theorem dX11_put_153 : decode cX11_put 153 = .ok (.goto 4, 3) := by decide +kernel
theorem dX11_put_156 : decode cX11_put 156 = .ok (.iconst 0, 1) := by decide +kernel
theorem dX11_put_157 : decode cX11_put 157 = .ok (.ireturn, 1) := by decide +kernel
theorem dX11_record_0 : decode cX11_record 0 = .ok (.aload_n 0, 1) := by decide +kernel
theorem dX11_record_1 : decode cX11_record 1 = .ok (.iload_n 1, 1) := by decide +kernel
theorem dX11_record_2 : decode cX11_record 2 = .ok (.invokevirtual 242, 3) := by decide +kernel
theorem dX11_record_5 : decode cX11_record 5 = .ok (.astore_n 3, 1) := by decide +kernel
theorem dX11_record_6 : decode cX11_record 6 = .ok (.iload_n 2, 1) := by decide +kernel
theorem dX11_record_7 : decode cX11_record 7 = .ok (.tableswitch 46 0 2 #[25, 33, 41], 25) := by decide +kernel
theorem dX11_record_32 : decode cX11_record 32 = .ok (.aload_n 3, 1) := by decide +kernel
theorem dX11_record_33 : decode cX11_record 33 = .ok (.getfield 246, 3) := by decide +kernel
theorem dX11_record_36 : decode cX11_record 36 = .ok (.getfield 111, 3) := by decide +kernel
theorem dX11_record_39 : decode cX11_record 39 = .ok (.ireturn, 1) := by decide +kernel
theorem dX11_record_40 : decode cX11_record 40 = .ok (.aload_n 3, 1) := by decide +kernel
theorem dX11_record_41 : decode cX11_record 41 = .ok (.getfield 247, 3) := by decide +kernel
theorem dX11_record_44 : decode cX11_record 44 = .ok (.getfield 248, 3) := by decide +kernel
theorem dX11_record_47 : decode cX11_record 47 = .ok (.ireturn, 1) := by decide +kernel
theorem dX11_record_48 : decode cX11_record 48 = .ok (.aload_n 3, 1) := by decide +kernel
theorem dX11_record_49 : decode cX11_record 49 = .ok (.getfield 253, 3) := by decide +kernel
theorem dX11_record_52 : decode cX11_record 52 = .ok (.ireturn, 1) := by decide +kernel
theorem dX11_record_53 : decode cX11_record 53 = .ok (.new 101, 3) := by decide +kernel
theorem dX11_record_56 : decode cX11_record 56 = .ok (.dup, 1) := by decide +kernel
theorem dX11_record_57 : decode cX11_record 57 = .ok (.invokespecial 103, 3) := by decide +kernel
theorem dX11_record_60 : decode cX11_record 60 = .ok (.athrow, 1) := by decide +kernel
theorem dX11_recordAt_0 : decode cX11_recordAt 0 = .ok (.iload_n 1, 1) := by decide +kernel
theorem dX11_recordAt_1 : decode cX11_recordAt 1 = .ok (.ifCond .lt 20, 3) := by decide +kernel
theorem dX11_recordAt_4 : decode cX11_recordAt 4 = .ok (.iload_n 1, 1) := by decide +kernel
theorem dX11_recordAt_5 : decode cX11_recordAt 5 = .ok (.aload_n 0, 1) := by decide +kernel
theorem dX11_recordAt_6 : decode cX11_recordAt 6 = .ok (.getfield 83, 3) := by decide +kernel
theorem dX11_recordAt_9 : decode cX11_recordAt 9 = .ok (.if_icmp .ge 12, 3) := by decide +kernel
theorem dX11_recordAt_12 : decode cX11_recordAt 12 = .ok (.iload_n 1, 1) := by decide +kernel
theorem dX11_recordAt_13 : decode cX11_recordAt 13 = .ok (.aload_n 0, 1) := by decide +kernel
theorem dX11_recordAt_14 : decode cX11_recordAt 14 = .ok (.getfield 79, 3) := by decide +kernel
theorem dX11_recordAt_17 : decode cX11_recordAt 17 = .ok (.arraylength, 1) := by decide +kernel
theorem dX11_recordAt_18 : decode cX11_recordAt 18 = .ok (.if_icmp .lt 11, 3) := by decide +kernel
theorem dX11_recordAt_21 : decode cX11_recordAt 21 = .ok (.new 312, 3) := by decide +kernel
theorem dX11_recordAt_24 : decode cX11_recordAt 24 = .ok (.dup, 1) := by decide +kernel
theorem dX11_recordAt_25 : decode cX11_recordAt 25 = .ok (.invokespecial 314, 3) := by decide +kernel
theorem dX11_recordAt_28 : decode cX11_recordAt 28 = .ok (.athrow, 1) := by decide +kernel
theorem dX11_recordAt_29 : decode cX11_recordAt 29 = .ok (.aload_n 0, 1) := by decide +kernel
theorem dX11_recordAt_30 : decode cX11_recordAt 30 = .ok (.getfield 79, 3) := by decide +kernel
theorem dX11_recordAt_33 : decode cX11_recordAt 33 = .ok (.iload_n 1, 1) := by decide +kernel
theorem dX11_recordAt_34 : decode cX11_recordAt 34 = .ok (.aaload, 1) := by decide +kernel
theorem dX11_recordAt_35 : decode cX11_recordAt 35 = .ok (.areturn, 1) := by decide +kernel
theorem dX11_run_0 : decode cX11_run 0 = .ok (.aload_n 0, 1) := by decide +kernel
theorem dX11_run_1 : decode cX11_run 1 = .ok (.iload_n 1, 1) := by decide +kernel
theorem dX11_run_2 : decode cX11_run 2 = .ok (.invokevirtual 148, 3) := by decide +kernel
theorem dX11_run_5 : decode cX11_run 5 = .ok (.ifCond .ne 11, 3) := by decide +kernel
theorem dX11_run_8 : decode cX11_run 8 = .ok (.new 101, 3) := by decide +kernel
theorem dX11_run_11 : decode cX11_run 11 = .ok (.dup, 1) := by decide +kernel
theorem dX11_run_12 : decode cX11_run 12 = .ok (.invokespecial 103, 3) := by decide +kernel
theorem dX11_run_15 : decode cX11_run 15 = .ok (.athrow, 1) := by decide +kernel
theorem dX11_run_16 : decode cX11_run 16 = .ok (.aload_n 0, 1) := by decide +kernel
theorem dX11_run_17 : decode cX11_run 17 = .ok (.getfield 83, 3) := by decide +kernel
theorem dX11_run_20 : decode cX11_run 20 = .ok (.aload_n 0, 1) := by decide +kernel
theorem dX11_run_21 : decode cX11_run 21 = .ok (.getfield 79, 3) := by decide +kernel
theorem dX11_run_24 : decode cX11_run 24 = .ok (.arraylength, 1) := by decide +kernel
theorem dX11_run_25 : decode cX11_run 25 = .ok (.if_icmp .lt 11, 3) := by decide +kernel
theorem dX11_run_28 : decode cX11_run 28 = .ok (.new 151, 3) := by decide +kernel
theorem dX11_run_31 : decode cX11_run 31 = .ok (.dup, 1) := by decide +kernel
theorem dX11_run_32 : decode cX11_run 32 = .ok (.invokespecial 153, 3) := by decide +kernel
theorem dX11_run_35 : decode cX11_run 35 = .ok (.athrow, 1) := by decide +kernel
theorem dX11_run_36 : decode cX11_run 36 = .ok (.aload_n 0, 1) := by decide +kernel
theorem dX11_run_37 : decode cX11_run 37 = .ok (.iload_n 1, 1) := by decide +kernel
theorem dX11_run_38 : decode cX11_run 38 = .ok (.invokevirtual 154, 3) := by decide +kernel
theorem dX11_run_41 : decode cX11_run 41 = .ok (.aload_n 0, 1) := by decide +kernel
theorem dX11_run_42 : decode cX11_run 42 = .ok (.getfield 60, 3) := by decide +kernel
theorem dX11_run_45 : decode cX11_run 45 = .ok (.getfield 157, 3) := by decide +kernel
theorem dX11_run_48 : decode cX11_run 48 = .ok (.ifCond .ne 18, 3) := by decide +kernel
theorem dX11_run_51 : decode cX11_run 51 = .ok (.aload_n 0, 1) := by decide +kernel
theorem dX11_run_52 : decode cX11_run 52 = .ok (.getfield 60, 3) := by decide +kernel
theorem dX11_run_55 : decode cX11_run 55 = .ok (.aload_n 0, 1) := by decide +kernel
theorem dX11_run_56 : decode cX11_run 56 = .ok (.getfield 49, 3) := by decide +kernel
theorem dX11_run_59 : decode cX11_run 59 = .ok (.iconst 2, 1) := by decide +kernel
theorem dX11_run_60 : decode cX11_run 60 = .ok (.aaload, 1) := by decide +kernel
theorem dX11_run_61 : decode cX11_run 61 = .ok (.bipush 60, 2) := by decide +kernel
theorem dX11_run_63 : decode cX11_run 63 = .ok (.invokevirtual 160, 3) := by decide +kernel
theorem dX11_run_66 : decode cX11_run 66 = .ok (.aload_n 0, 1) := by decide +kernel
theorem dX11_run_67 : decode cX11_run 67 = .ok (.getfield 60, 3) := by decide +kernel
theorem dX11_run_70 : decode cX11_run 70 = .ok (.getfield 157, 3) := by decide +kernel
theorem dX11_run_73 : decode cX11_run 73 = .ok (.ifCond .ne 22, 3) := by decide +kernel
theorem dX11_run_76 : decode cX11_run 76 = .ok (.aload_n 0, 1) := by decide +kernel
theorem dX11_run_77 : decode cX11_run 77 = .ok (.getfield 60, 3) := by decide +kernel
theorem dX11_run_80 : decode cX11_run 80 = .ok (.getfield 164, 3) := by decide +kernel
theorem dX11_run_83 : decode cX11_run 83 = .ok (.ifCond .ne 12, 3) := by decide +kernel
theorem dX11_run_86 : decode cX11_run 86 = .ok (.aload_n 0, 1) := by decide +kernel
theorem dX11_run_87 : decode cX11_run 87 = .ok (.getfield 60, 3) := by decide +kernel
theorem dX11_run_90 : decode cX11_run 90 = .ok (.iconst 4, 1) := by decide +kernel
theorem dX11_run_91 : decode cX11_run 91 = .ok (.iconst 0, 1) := by decide +kernel
theorem dX11_run_92 : decode cX11_run 92 = .ok (.invokevirtual 165, 3) := by decide +kernel
theorem dX11_run_95 : decode cX11_run 95 = .ok (.aload_n 0, 1) := by decide +kernel
theorem dX11_run_96 : decode cX11_run 96 = .ok (.getfield 60, 3) := by decide +kernel
theorem dX11_run_99 : decode cX11_run 99 = .ok (.getfield 157, 3) := by decide +kernel
theorem dX11_run_102 : decode cX11_run 102 = .ok (.ifCond .ne 77, 3) := by decide +kernel
theorem dX11_run_105 : decode cX11_run 105 = .ok (.aload_n 0, 1) := by decide +kernel
theorem dX11_run_106 : decode cX11_run 106 = .ok (.getfield 66, 3) := by decide +kernel
theorem dX11_run_109 : decode cX11_run 109 = .ok (.aload_n 0, 1) := by decide +kernel
theorem dX11_run_110 : decode cX11_run 110 = .ok (.getfield 60, 3) := by decide +kernel
theorem dX11_run_113 : decode cX11_run 113 = .ok (.aload_n 0, 1) := by decide +kernel
theorem dX11_run_114 : decode cX11_run 114 = .ok (.getfield 28, 3) := by decide +kernel
theorem dX11_run_117 : decode cX11_run 117 = .ok (.aload_n 0, 1) := by decide +kernel
theorem dX11_run_118 : decode cX11_run 118 = .ok (.getfield 32, 3) := by decide +kernel
theorem dX11_run_121 : decode cX11_run 121 = .ok (.aload_n 0, 1) := by decide +kernel
theorem dX11_run_122 : decode cX11_run 122 = .ok (.getfield 87, 3) := by decide +kernel
theorem dX11_run_125 : decode cX11_run 125 = .ok (.iconst 0, 1) := by decide +kernel
theorem dX11_run_126 : decode cX11_run 126 = .ok (.invokevirtual 169, 3) := by decide +kernel
theorem dX11_run_129 : decode cX11_run 129 = .ok (.ifCond .eq 50, 3) := by decide +kernel
theorem dX11_run_132 : decode cX11_run 132 = .ok (.aload_n 0, 1) := by decide +kernel
theorem dX11_run_133 : decode cX11_run 133 = .ok (.getfield 66, 3) := by decide +kernel
theorem dX11_run_136 : decode cX11_run 136 = .ok (.invokevirtual 173, 3) := by decide +kernel
theorem dX11_run_139 : decode cX11_run 139 = .ok (.ifCond .eq 40, 3) := by decide +kernel
theorem dX11_run_142 : decode cX11_run 142 = .ok (.aload_n 0, 1) := by decide +kernel
theorem dX11_run_143 : decode cX11_run 143 = .ok (.getfield 66, 3) := by decide +kernel
theorem dX11_run_146 : decode cX11_run 146 = .ok (.aload_n 0, 1) := by decide +kernel
theorem dX11_run_147 : decode cX11_run 147 = .ok (.getfield 49, 3) := by decide +kernel
theorem dX11_run_150 : decode cX11_run 150 = .ok (.iconst 0, 1) := by decide +kernel
theorem dX11_run_151 : decode cX11_run 151 = .ok (.aaload, 1) := by decide +kernel
theorem dX11_run_152 : decode cX11_run 152 = .ok (.aload_n 0, 1) := by decide +kernel
theorem dX11_run_153 : decode cX11_run 153 = .ok (.getfield 49, 3) := by decide +kernel
theorem dX11_run_156 : decode cX11_run 156 = .ok (.iconst 1, 1) := by decide +kernel
theorem dX11_run_157 : decode cX11_run 157 = .ok (.aaload, 1) := by decide +kernel
theorem dX11_run_158 : decode cX11_run 158 = .ok (.invokevirtual 177, 3) := by decide +kernel
theorem dX11_run_161 : decode cX11_run 161 = .ok (.ifCond .eq 18, 3) := by decide +kernel
theorem dX11_run_164 : decode cX11_run 164 = .ok (.aload_n 0, 1) := by decide +kernel
theorem dX11_run_165 : decode cX11_run 165 = .ok (.getfield 66, 3) := by decide +kernel
theorem dX11_run_168 : decode cX11_run 168 = .ok (.invokevirtual 181, 3) := by decide +kernel
theorem dX11_run_171 : decode cX11_run 171 = .ok (.ifCond .eq 8, 3) := by decide +kernel
theorem dX11_run_174 : decode cX11_run 174 = .ok (.aload_n 0, 1) := by decide +kernel
theorem dX11_run_175 : decode cX11_run 175 = .ok (.invokevirtual 184, 3) := by decide +kernel
theorem dX11_run_178 : decode cX11_run 178 = .ok (.ireturn, 1) := by decide +kernel
theorem dX11_run_179 : decode cX11_run 179 = .ok (.aload_n 0, 1) := by decide +kernel
theorem dX11_run_180 : decode cX11_run 180 = .ok (.invokevirtual 188, 3) := by decide +kernel
theorem dX11_run_183 : decode cX11_run 183 = .ok (.aload_n 0, 1) := by decide +kernel
theorem dX11_run_184 : decode cX11_run 184 = .ok (.getfield 60, 3) := by decide +kernel
theorem dX11_run_187 : decode cX11_run 187 = .ok (.getfield 157, 3) := by decide +kernel
theorem dX11_run_190 : decode cX11_run 190 = .ok (.bipush 20, 2) := by decide +kernel
theorem dX11_run_192 : decode cX11_run 192 = .ok (.isub, 1) := by decide +kernel
theorem dX11_run_193 : decode cX11_run 193 = .ok (.ireturn, 1) := by decide +kernel
theorem dX11_same_0 : decode cX11_same 0 = .ok (.aload_n 0, 1) := by decide +kernel
theorem dX11_same_1 : decode cX11_same 1 = .ok (.iload_n 1, 1) := by decide +kernel
theorem dX11_same_2 : decode cX11_same 2 = .ok (.invokevirtual 242, 3) := by decide +kernel
theorem dX11_same_5 : decode cX11_same 5 = .ok (.aload_n 0, 1) := by decide +kernel
theorem dX11_same_6 : decode cX11_same 6 = .ok (.iload_n 2, 1) := by decide +kernel
theorem dX11_same_7 : decode cX11_same 7 = .ok (.invokevirtual 242, 3) := by decide +kernel
theorem dX11_same_10 : decode cX11_same 10 = .ok (.invokevirtual 273, 3) := by decide +kernel
theorem dX11_same_13 : decode cX11_same 13 = .ok (.ireturn, 1) := by decide +kernel
theorem dX11_show_0 : decode cX11_show 0 = .ok (.iload_n 1, 1) := by decide +kernel
theorem dX11_show_1 : decode cX11_show 1 = .ok (.ifCond .eq 16, 3) := by decide +kernel
theorem dX11_show_4 : decode cX11_show 4 = .ok (.iload_n 1, 1) := by decide +kernel
theorem dX11_show_5 : decode cX11_show 5 = .ok (.iconst 1, 1) := by decide +kernel
theorem dX11_show_6 : decode cX11_show 6 = .ok (.if_icmp .eq 11, 3) := by decide +kernel
theorem dX11_show_9 : decode cX11_show 9 = .ok (.new 101, 3) := by decide +kernel
theorem dX11_show_12 : decode cX11_show 12 = .ok (.dup, 1) := by decide +kernel
theorem dX11_show_13 : decode cX11_show 13 = .ok (.invokespecial 103, 3) := by decide +kernel
theorem dX11_show_16 : decode cX11_show 16 = .ok (.athrow, 1) := by decide +kernel
theorem dX11_show_17 : decode cX11_show 17 = .ok (.iload_n 1, 1) := by decide +kernel
theorem dX11_show_18 : decode cX11_show 18 = .ok (.ifCond .ne 14, 3) := by decide +kernel
theorem dX11_show_21 : decode cX11_show 21 = .ok (.aload_n 0, 1) := by decide +kernel
theorem dX11_show_22 : decode cX11_show 22 = .ok (.getfield 73, 3) := by decide +kernel
theorem dX11_show_25 : decode cX11_show 25 = .ok (.iload_n 2, 1) := by decide +kernel
theorem dX11_show_26 : decode cX11_show 26 = .ok (.invokevirtual 304, 3) := by decide +kernel
theorem dX11_show_29 : decode cX11_show 29 = .ok (.goto 11, 3) := by decide +kernel
theorem dX11_show_32 : decode cX11_show 32 = .ok (.aload_n 0, 1) := by decide +kernel
theorem dX11_show_33 : decode cX11_show 33 = .ok (.getfield 73, 3) := by decide +kernel
theorem dX11_show_36 : decode cX11_show 36 = .ok (.iload_n 2, 1) := by decide +kernel
theorem dX11_show_37 : decode cX11_show 37 = .ok (.invokevirtual 308, 3) := by decide +kernel
theorem dX11_show_40 : decode cX11_show 40 = .ok (.astore_n 3, 1) := by decide +kernel
theorem dX11_show_41 : decode cX11_show 41 = .ok (.aload_n 3, 1) := by decide +kernel
theorem dX11_show_42 : decode cX11_show 42 = .ok (.ifnonnull 5, 3) := by decide +kernel
theorem dX11_show_45 : decode cX11_show 45 = .ok (.iconst (-1), 1) := by decide +kernel
theorem dX11_show_46 : decode cX11_show 46 = .ok (.ireturn, 1) := by decide +kernel
theorem dX11_show_47 : decode cX11_show 47 = .ok (.aload_n 0, 1) := by decide +kernel
theorem dX11_show_48 : decode cX11_show 48 = .ok (.getfield 22, 3) := by decide +kernel
theorem dX11_show_51 : decode cX11_show 51 = .ok (.iconst 0, 1) := by decide +kernel
theorem dX11_show_52 : decode cX11_show 52 = .ok (.invokevirtual 277, 3) := by decide +kernel
theorem dX11_show_55 : decode cX11_show 55 = .ok (.aload_n 3, 1) := by decide +kernel
theorem dX11_show_56 : decode cX11_show 56 = .ok (.aload_n 0, 1) := by decide +kernel
theorem dX11_show_57 : decode cX11_show 57 = .ok (.getfield 22, 3) := by decide +kernel
theorem dX11_show_60 : decode cX11_show 60 = .ok (.invokevirtual 311, 3) := by decide +kernel
theorem dX11_show_63 : decode cX11_show 63 = .ok (.aload_n 0, 1) := by decide +kernel
theorem dX11_show_64 : decode cX11_show 64 = .ok (.getfield 22, 3) := by decide +kernel
theorem dX11_show_67 : decode cX11_show 67 = .ok (.invokevirtual 233, 3) := by decide +kernel
theorem dX11_show_70 : decode cX11_show 70 = .ok (.ireturn, 1) := by decide +kernel
theorem dX11_source_0 : decode cX11_source 0 = .ok (.aload_n 0, 1) := by decide +kernel
theorem dX11_source_1 : decode cX11_source 1 = .ok (.iload_n 1, 1) := by decide +kernel
theorem dX11_source_2 : decode cX11_source 2 = .ok (.invokevirtual 242, 3) := by decide +kernel
theorem dX11_source_5 : decode cX11_source 5 = .ok (.astore_n 3, 1) := by decide +kernel
theorem dX11_source_6 : decode cX11_source 6 = .ok (.aload_n 3, 1) := by decide +kernel
theorem dX11_source_7 : decode cX11_source 7 = .ok (.iload_n 2, 1) := by decide +kernel
theorem dX11_source_8 : decode cX11_source 8 = .ok (.invokevirtual 256, 3) := by decide +kernel
theorem dX11_source_11 : decode cX11_source 11 = .ok (.ifCond .eq 12, 3) := by decide +kernel
theorem dX11_source_14 : decode cX11_source 14 = .ok (.aload_n 3, 1) := by decide +kernel
theorem dX11_source_15 : decode cX11_source 15 = .ok (.getfield 259, 3) := by decide +kernel
theorem dX11_source_18 : decode cX11_source 18 = .ok (.iload_n 2, 1) := by decide +kernel
theorem dX11_source_19 : decode cX11_source 19 = .ok (.iaload, 1) := by decide +kernel
theorem dX11_source_20 : decode cX11_source 20 = .ok (.goto 4, 3) := by decide +kernel
theorem dX11_source_23 : decode cX11_source 23 = .ok (.iconst (-1), 1) := by decide +kernel
theorem dX11_source_24 : decode cX11_source 24 = .ok (.ireturn, 1) := by decide +kernel
theorem dX11_takeLine_0 : decode cX11_takeLine 0 = .ok (.aload_n 0, 1) := by decide +kernel
theorem dX11_takeLine_1 : decode cX11_takeLine 1 = .ok (.iconst 0, 1) := by decide +kernel
theorem dX11_takeLine_2 : decode cX11_takeLine 2 = .ok (.putfield 15, 3) := by decide +kernel
theorem dX11_takeLine_5 : decode cX11_takeLine 5 = .ok (.aload_n 0, 1) := by decide +kernel
theorem dX11_takeLine_6 : decode cX11_takeLine 6 = .ok (.getfield 73, 3) := by decide +kernel
theorem dX11_takeLine_9 : decode cX11_takeLine 9 = .ok (.invokevirtual 191, 3) := by decide +kernel
theorem dX11_takeLine_12 : decode cX11_takeLine 12 = .ok (.aload_n 0, 1) := by decide +kernel
theorem dX11_takeLine_13 : decode cX11_takeLine 13 = .ok (.getfield 60, 3) := by decide +kernel
theorem dX11_takeLine_16 : decode cX11_takeLine 16 = .ok (.aload_n 0, 1) := by decide +kernel
theorem dX11_takeLine_17 : decode cX11_takeLine 17 = .ok (.getfield 11, 3) := by decide +kernel
theorem dX11_takeLine_20 : decode cX11_takeLine 20 = .ok (.iconst 0, 1) := by decide +kernel
theorem dX11_takeLine_21 : decode cX11_takeLine 21 = .ok (.iload_n 1, 1) := by decide +kernel
theorem dX11_takeLine_22 : decode cX11_takeLine 22 = .ok (.invokevirtual 127, 3) := by decide +kernel
theorem dX11_takeLine_25 : decode cX11_takeLine 25 = .ok (.pop, 1) := by decide +kernel
theorem dX11_takeLine_26 : decode cX11_takeLine 26 = .ok (.return_, 1) := by decide +kernel
theorem dX11_value_0 : decode cX11_value 0 = .ok (.aload_n 0, 1) := by decide +kernel
theorem dX11_value_1 : decode cX11_value 1 = .ok (.iload_n 1, 1) := by decide +kernel
theorem dX11_value_2 : decode cX11_value 2 = .ok (.invokevirtual 242, 3) := by decide +kernel
theorem dX11_value_5 : decode cX11_value 5 = .ok (.astore_n 3, 1) := by decide +kernel
theorem dX11_value_6 : decode cX11_value 6 = .ok (.aload_n 3, 1) := by decide +kernel
theorem dX11_value_7 : decode cX11_value 7 = .ok (.iload_n 2, 1) := by decide +kernel
theorem dX11_value_8 : decode cX11_value 8 = .ok (.invokevirtual 256, 3) := by decide +kernel
theorem dX11_value_11 : decode cX11_value 11 = .ok (.ifCond .eq 12, 3) := by decide +kernel
theorem dX11_value_14 : decode cX11_value 14 = .ok (.aload_n 3, 1) := by decide +kernel
theorem dX11_value_15 : decode cX11_value 15 = .ok (.getfield 263, 3) := by decide +kernel
theorem dX11_value_18 : decode cX11_value 18 = .ok (.iload_n 2, 1) := by decide +kernel
theorem dX11_value_19 : decode cX11_value 19 = .ok (.iaload, 1) := by decide +kernel
theorem dX11_value_20 : decode cX11_value 20 = .ok (.goto 4, 3) := by decide +kernel
theorem dX11_value_23 : decode cX11_value 23 = .ok (.iconst 0, 1) := by decide +kernel
theorem dX11_value_24 : decode cX11_value 24 = .ok (.ireturn, 1) := by decide +kernel
theorem dX11_word_0 : decode cX11_word 0 = .ok (.iload_n 1, 1) := by decide +kernel
theorem dX11_word_1 : decode cX11_word 1 = .ok (.ifCond .lt 26, 3) := by decide +kernel
theorem dX11_word_4 : decode cX11_word 4 = .ok (.iload_n 1, 1) := by decide +kernel
theorem dX11_word_5 : decode cX11_word 5 = .ok (.aload_n 0, 1) := by decide +kernel
theorem dX11_word_6 : decode cX11_word 6 = .ok (.getfield 60, 3) := by decide +kernel
theorem dX11_word_9 : decode cX11_word 9 = .ok (.getfield 164, 3) := by decide +kernel
theorem dX11_word_12 : decode cX11_word 12 = .ok (.if_icmp .ge 15, 3) := by decide +kernel
theorem dX11_word_15 : decode cX11_word 15 = .ok (.iload_n 1, 1) := by decide +kernel
theorem dX11_word_16 : decode cX11_word 16 = .ok (.aload_n 0, 1) := by decide +kernel
theorem dX11_word_17 : decode cX11_word 17 = .ok (.getfield 60, 3) := by decide +kernel
theorem dX11_word_20 : decode cX11_word 20 = .ok (.getfield 194, 3) := by decide +kernel
theorem dX11_word_23 : decode cX11_word 23 = .ok (.arraylength, 1) := by decide +kernel
theorem dX11_word_24 : decode cX11_word 24 = .ok (.if_icmp .lt 5, 3) := by decide +kernel
theorem dX11_word_27 : decode cX11_word 27 = .ok (.iconst (-1), 1) := by decide +kernel
theorem dX11_word_28 : decode cX11_word 28 = .ok (.ireturn, 1) := by decide +kernel
theorem dX11_word_29 : decode cX11_word 29 = .ok (.aload_n 0, 1) := by decide +kernel
theorem dX11_word_30 : decode cX11_word 30 = .ok (.getfield 60, 3) := by decide +kernel
theorem dX11_word_33 : decode cX11_word 33 = .ok (.getfield 194, 3) := by decide +kernel
theorem dX11_word_36 : decode cX11_word 36 = .ok (.iload_n 1, 1) := by decide +kernel
theorem dX11_word_37 : decode cX11_word 37 = .ok (.aaload, 1) := by decide +kernel
theorem dX11_word_38 : decode cX11_word 38 = .ok (.iload_n 2, 1) := by decide +kernel
theorem dX11_word_39 : decode cX11_word 39 = .ok (.invokevirtual 229, 3) := by decide +kernel
theorem dX11_word_42 : decode cX11_word 42 = .ok (.ireturn, 1) := by decide +kernel
theorem dX12_at_0 : decode cX12_at 0 = .ok (.iload_n 1, 1) := by decide +kernel
theorem dX12_at_1 : decode cX12_at 1 = .ok (.aload_n 0, 1) := by decide +kernel
theorem dX12_at_2 : decode cX12_at 2 = .ok (.getfield 347, 3) := by decide +kernel
theorem dX12_at_5 : decode cX12_at 5 = .ok (.if_icmp .ge 12, 3) := by decide +kernel
theorem dX12_at_8 : decode cX12_at 8 = .ok (.aload_n 0, 1) := by decide +kernel
theorem dX12_at_9 : decode cX12_at 9 = .ok (.getfield 192, 3) := by decide +kernel
theorem dX12_at_12 : decode cX12_at 12 = .ok (.iload_n 1, 1) := by decide +kernel
theorem dX12_at_13 : decode cX12_at 13 = .ok (.iaload, 1) := by decide +kernel
theorem dX12_at_14 : decode cX12_at 14 = .ok (.goto 4, 3) := by decide +kernel
theorem dX12_at_17 : decode cX12_at 17 = .ok (.iconst 0, 1) := by decide +kernel
theorem dX12_at_18 : decode cX12_at 18 = .ok (.ireturn, 1) := by decide +kernel
theorem dX12_beginBlame_0 : decode cX12_beginBlame 0 = .ok (.aload_n 0, 1) := by decide +kernel
theorem dX12_beginBlame_1 : decode cX12_beginBlame 1 = .ok (.iconst 0, 1) := by decide +kernel
theorem dX12_beginBlame_2 : decode cX12_beginBlame 2 = .ok (.putfield 538, 3) := by decide +kernel
theorem dX12_beginBlame_5 : decode cX12_beginBlame 5 = .ok (.aload_n 0, 1) := by decide +kernel
theorem dX12_beginBlame_6 : decode cX12_beginBlame 6 = .ok (.iconst (-1), 1) := by decide +kernel
theorem dX12_beginBlame_7 : decode cX12_beginBlame 7 = .ok (.putfield 243, 3) := by decide +kernel
theorem dX12_beginBlame_10 : decode cX12_beginBlame 10 = .ok (.aload_n 0, 1) := by decide +kernel
theorem dX12_beginBlame_11 : decode cX12_beginBlame 11 = .ok (.iconst (-1), 1) := by decide +kernel
theorem dX12_beginBlame_12 : decode cX12_beginBlame 12 = .ok (.putfield 246, 3) := by decide +kernel
theorem dX12_beginBlame_15 : decode cX12_beginBlame 15 = .ok (.aload_n 0, 1) := by decide +kernel
theorem dX12_beginBlame_16 : decode cX12_beginBlame 16 = .ok (.iconst (-1), 1) := by decide +kernel
theorem dX12_beginBlame_17 : decode cX12_beginBlame 17 = .ok (.putfield 249, 3) := by decide +kernel
theorem dX12_beginBlame_20 : decode cX12_beginBlame 20 = .ok (.aload_n 0, 1) := by decide +kernel
theorem dX12_beginBlame_21 : decode cX12_beginBlame 21 = .ok (.iconst (-1), 1) := by decide +kernel
theorem dX12_beginBlame_22 : decode cX12_beginBlame 22 = .ok (.putfield 252, 3) := by decide +kernel
theorem dX12_beginBlame_25 : decode cX12_beginBlame 25 = .ok (.aload_n 0, 1) := by decide +kernel
theorem dX12_beginBlame_26 : decode cX12_beginBlame 26 = .ok (.iconst 0, 1) := by decide +kernel
theorem dX12_beginBlame_27 : decode cX12_beginBlame 27 = .ok (.putfield 541, 3) := by decide +kernel
theorem dX12_beginBlame_30 : decode cX12_beginBlame 30 = .ok (.aload_n 0, 1) := by decide +kernel
theorem dX12_beginBlame_31 : decode cX12_beginBlame 31 = .ok (.iconst 0, 1) := by decide +kernel
theorem dX12_beginBlame_32 : decode cX12_beginBlame 32 = .ok (.putfield 544, 3) := by decide +kernel
theorem dX12_beginBlame_35 : decode cX12_beginBlame 35 = .ok (.aload_n 0, 1) := by decide +kernel
theorem dX12_beginBlame_36 : decode cX12_beginBlame 36 = .ok (.iconst 0, 1) := by decide +kernel
theorem dX12_beginBlame_37 : decode cX12_beginBlame 37 = .ok (.putfield 547, 3) := by decide +kernel
theorem dX12_beginBlame_40 : decode cX12_beginBlame 40 = .ok (.return_, 1) := by decide +kernel
theorem dX12_blame_0 : decode cX12_blame 0 = .ok (.aload_n 0, 1) := by decide +kernel
theorem dX12_blame_1 : decode cX12_blame 1 = .ok (.iconst 0, 1) := by decide +kernel
theorem dX12_blame_2 : decode cX12_blame 2 = .ok (.putfield 1, 3) := by decide +kernel
theorem dX12_blame_5 : decode cX12_blame 5 = .ok (.iload_n 1, 1) := by decide +kernel
theorem dX12_blame_6 : decode cX12_blame 6 = .ok (.tableswitch 68 0 5 #[38, 43, 48, 53, 58, 63], 38) := by decide +kernel
theorem dX12_blame_44 : decode cX12_blame 44 = .ok (.aload_n 0, 1) := by decide +kernel
theorem dX12_blame_45 : decode cX12_blame 45 = .ok (.getfield 538, 3) := by decide +kernel
theorem dX12_blame_48 : decode cX12_blame 48 = .ok (.ireturn, 1) := by decide +kernel
theorem dX12_blame_49 : decode cX12_blame 49 = .ok (.aload_n 0, 1) := by decide +kernel
theorem dX12_blame_50 : decode cX12_blame 50 = .ok (.getfield 243, 3) := by decide +kernel
theorem dX12_blame_53 : decode cX12_blame 53 = .ok (.ireturn, 1) := by decide +kernel
theorem dX12_blame_54 : decode cX12_blame 54 = .ok (.aload_n 0, 1) := by decide +kernel
theorem dX12_blame_55 : decode cX12_blame 55 = .ok (.getfield 246, 3) := by decide +kernel
theorem dX12_blame_58 : decode cX12_blame 58 = .ok (.ireturn, 1) := by decide +kernel
theorem dX12_blame_59 : decode cX12_blame 59 = .ok (.aload_n 0, 1) := by decide +kernel
theorem dX12_blame_60 : decode cX12_blame 60 = .ok (.getfield 249, 3) := by decide +kernel
theorem dX12_blame_63 : decode cX12_blame 63 = .ok (.ireturn, 1) := by decide +kernel
theorem dX12_blame_64 : decode cX12_blame 64 = .ok (.aload_n 0, 1) := by decide +kernel
theorem dX12_blame_65 : decode cX12_blame 65 = .ok (.getfield 252, 3) := by decide +kernel
theorem dX12_blame_68 : decode cX12_blame 68 = .ok (.ireturn, 1) := by decide +kernel
theorem dX12_blame_69 : decode cX12_blame 69 = .ok (.aload_n 0, 1) := by decide +kernel
theorem dX12_blame_70 : decode cX12_blame 70 = .ok (.getfield 541, 3) := by decide +kernel
theorem dX12_blame_73 : decode cX12_blame 73 = .ok (.ireturn, 1) := by decide +kernel
theorem dX12_blame_74 : decode cX12_blame 74 = .ok (.iconst (-1), 1) := by decide +kernel
theorem dX12_blame_75 : decode cX12_blame 75 = .ok (.ireturn, 1) := by decide +kernel
theorem dX12_blames_0 : decode cX12_blames 0 = .ok (.aload_n 0, 1) := by decide +kernel
theorem dX12_blames_1 : decode cX12_blames 1 = .ok (.getfield 538, 3) := by decide +kernel
theorem dX12_blames_4 : decode cX12_blames 4 = .ok (.ifCond .eq 4, 3) := by decide +kernel
theorem dX12_blames_7 : decode cX12_blames 7 = .ok (.return_, 1) := by decide +kernel
theorem dX12_blames_8 : decode cX12_blames 8 = .ok (.aload_n 0, 1) := by decide +kernel
theorem dX12_blames_9 : decode cX12_blames 9 = .ok (.iload_n 1, 1) := by decide +kernel
theorem dX12_blames_10 : decode cX12_blames 10 = .ok (.putfield 538, 3) := by decide +kernel
theorem dX12_blames_13 : decode cX12_blames 13 = .ok (.aload_n 0, 1) := by decide +kernel
theorem dX12_blames_14 : decode cX12_blames 14 = .ok (.iload_n 2, 1) := by decide +kernel
theorem dX12_blames_15 : decode cX12_blames 15 = .ok (.putfield 243, 3) := by decide +kernel
theorem dX12_blames_18 : decode cX12_blames 18 = .ok (.aload_n 0, 1) := by decide +kernel
theorem dX12_blames_19 : decode cX12_blames 19 = .ok (.iload_n 3, 1) := by decide +kernel
theorem dX12_blames_20 : decode cX12_blames 20 = .ok (.putfield 246, 3) := by decide +kernel
theorem dX12_blames_23 : decode cX12_blames 23 = .ok (.aload_n 0, 1) := by decide +kernel
theorem dX12_blames_24 : decode cX12_blames 24 = .ok (.iload 4, 2) := by decide +kernel
theorem dX12_blames_26 : decode cX12_blames 26 = .ok (.putfield 249, 3) := by decide +kernel
theorem dX12_blames_29 : decode cX12_blames 29 = .ok (.return_, 1) := by decide +kernel
theorem dX12_clear_0 : decode cX12_clear 0 = .ok (.aload_n 0, 1) := by decide +kernel
theorem dX12_clear_1 : decode cX12_clear 1 = .ok (.iconst 0, 1) := by decide +kernel
theorem dX12_clear_2 : decode cX12_clear 2 = .ok (.putfield 1, 3) := by decide +kernel
theorem dX12_clear_5 : decode cX12_clear 5 = .ok (.aload_n 0, 1) := by decide +kernel
theorem dX12_clear_6 : decode cX12_clear 6 = .ok (.iload_n 1, 1) := by decide +kernel
theorem dX12_clear_7 : decode cX12_clear 7 = .ok (.ifCond .lt 12, 3) := by decide +kernel
theorem dX12_clear_10 : decode cX12_clear 10 = .ok (.iload_n 1, 1) := by decide +kernel
theorem dX12_clear_11 : decode cX12_clear 11 = .ok (.iconst 2, 1) := by decide +kernel
theorem dX12_clear_12 : decode cX12_clear 12 = .ok (.if_icmp .gt 7, 3) := by decide +kernel
theorem dX12_clear_15 : decode cX12_clear 15 = .ok (.iconst 1, 1) := by decide +kernel
theorem dX12_clear_16 : decode cX12_clear 16 = .ok (.goto 4, 3) := by decide +kernel
theorem dX12_clear_19 : decode cX12_clear 19 = .ok (.iconst 0, 1) := by decide +kernel
theorem dX12_clear_20 : decode cX12_clear 20 = .ok (.iconst 1, 1) := by decide +kernel
theorem dX12_clear_21 : decode cX12_clear 21 = .ok (.invokevirtual 414, 3) := by decide +kernel
theorem dX12_clear_24 : decode cX12_clear 24 = .ok (.ifCond .ne 5, 3) := by decide +kernel
theorem dX12_clear_27 : decode cX12_clear 27 = .ok (.iconst 0, 1) := by decide +kernel
theorem dX12_clear_28 : decode cX12_clear 28 = .ok (.ireturn, 1) := by decide +kernel
theorem dX12_clear_29 : decode cX12_clear 29 = .ok (.aload_n 0, 1) := by decide +kernel
theorem dX12_clear_30 : decode cX12_clear 30 = .ok (.getfield 225, 3) := by decide +kernel
theorem dX12_clear_33 : decode cX12_clear 33 = .ok (.iload_n 1, 1) := by decide +kernel
theorem dX12_clear_34 : decode cX12_clear 34 = .ok (.iaload, 1) := by decide +kernel
theorem dX12_clear_35 : decode cX12_clear 35 = .ok (.istore_n 2, 1) := by decide +kernel
theorem dX12_clear_36 : decode cX12_clear 36 = .ok (.aload_n 0, 1) := by decide +kernel
theorem dX12_clear_37 : decode cX12_clear 37 = .ok (.getfield 225, 3) := by decide +kernel
theorem dX12_clear_40 : decode cX12_clear 40 = .ok (.iload_n 1, 1) := by decide +kernel
theorem dX12_clear_41 : decode cX12_clear 41 = .ok (.iconst 0, 1) := by decide +kernel
theorem dX12_clear_42 : decode cX12_clear 42 = .ok (.iastore, 1) := by decide +kernel
theorem dX12_clear_43 : decode cX12_clear 43 = .ok (.iload_n 2, 1) := by decide +kernel
theorem dX12_clear_44 : decode cX12_clear 44 = .ok (.ireturn, 1) := by decide +kernel
theorem dX12_count_0 : decode cX12_count 0 = .ok (.aload_n 0, 1) := by decide +kernel
theorem dX12_count_1 : decode cX12_count 1 = .ok (.iconst 0, 1) := by decide +kernel
theorem dX12_count_2 : decode cX12_count 2 = .ok (.putfield 1, 3) := by decide +kernel
theorem dX12_count_5 : decode cX12_count 5 = .ok (.iload_n 1, 1) := by decide +kernel
theorem dX12_count_6 : decode cX12_count 6 = .ok (.tableswitch 89 0 8 #[50, 55, 60, 65, 70, 70, 70, 79, 84], 50) := by decide +kernel
theorem dX12_count_56 : decode cX12_count 56 = .ok (.aload_n 0, 1) := by decide +kernel
theorem dX12_count_57 : decode cX12_count 57 = .ok (.getfield 421, 3) := by decide +kernel
theorem dX12_count_60 : decode cX12_count 60 = .ok (.ireturn, 1) := by decide +kernel
theorem dX12_count_61 : decode cX12_count 61 = .ok (.aload_n 0, 1) := by decide +kernel
theorem dX12_count_62 : decode cX12_count 62 = .ok (.getfield 616, 3) := by decide +kernel
theorem dX12_count_65 : decode cX12_count 65 = .ok (.ireturn, 1) := by decide +kernel
theorem dX12_count_66 : decode cX12_count 66 = .ok (.aload_n 0, 1) := by decide +kernel
theorem dX12_count_67 : decode cX12_count 67 = .ok (.getfield 344, 3) := by decide +kernel
theorem dX12_count_70 : decode cX12_count 70 = .ok (.ireturn, 1) := by decide +kernel
theorem dX12_count_71 : decode cX12_count 71 = .ok (.aload_n 0, 1) := by decide +kernel
theorem dX12_count_72 : decode cX12_count 72 = .ok (.getfield 689, 3) := by decide +kernel
theorem dX12_count_75 : decode cX12_count 75 = .ok (.ireturn, 1) := by decide +kernel
theorem dX12_count_76 : decode cX12_count 76 = .ok (.aload_n 0, 1) := by decide +kernel
theorem dX12_count_77 : decode cX12_count 77 = .ok (.getfield 225, 3) := by decide +kernel
theorem dX12_count_80 : decode cX12_count 80 = .ok (.iload_n 1, 1) := by decide +kernel
theorem dX12_count_81 : decode cX12_count 81 = .ok (.iconst 4, 1) := by decide +kernel
theorem dX12_count_82 : decode cX12_count 82 = .ok (.isub, 1) := by decide +kernel
theorem dX12_count_83 : decode cX12_count 83 = .ok (.iaload, 1) := by decide +kernel
theorem dX12_count_84 : decode cX12_count 84 = .ok (.ireturn, 1) := by decide +kernel
theorem dX12_count_85 : decode cX12_count 85 = .ok (.aload_n 0, 1) := by decide +kernel
theorem dX12_count_86 : decode cX12_count 86 = .ok (.getfield 656, 3) := by decide +kernel
theorem dX12_count_89 : decode cX12_count 89 = .ok (.ireturn, 1) := by decide +kernel
theorem dX12_count_90 : decode cX12_count 90 = .ok (.aload_n 0, 1) := by decide +kernel
theorem dX12_count_91 : decode cX12_count 91 = .ok (.getfield 544, 3) := by decide +kernel
theorem dX12_count_94 : decode cX12_count 94 = .ok (.ireturn, 1) := by decide +kernel
theorem dX12_count_95 : decode cX12_count 95 = .ok (.iconst (-1), 1) := by decide +kernel
theorem dX12_count_96 : decode cX12_count 96 = .ok (.ireturn, 1) := by decide +kernel
theorem dX12_cut_0 : decode cX12_cut 0 = .ok (.aload_n 0, 1) := by decide +kernel
theorem dX12_cut_1 : decode cX12_cut 1 = .ok (.iconst 0, 1) := by decide +kernel
theorem dX12_cut_2 : decode cX12_cut 2 = .ok (.putfield 522, 3) := by decide +kernel
theorem dX12_cut_5 : decode cX12_cut 5 = .ok (.aload_n 0, 1) := by decide +kernel
theorem dX12_cut_6 : decode cX12_cut 6 = .ok (.iconst 0, 1) := by decide +kernel
theorem dX12_cut_7 : decode cX12_cut 7 = .ok (.putfield 525, 3) := by decide +kernel
theorem dX12_cut_10 : decode cX12_cut 10 = .ok (.aload_n 0, 1) := by decide +kernel
theorem dX12_cut_11 : decode cX12_cut 11 = .ok (.iconst 0, 1) := by decide +kernel
theorem dX12_cut_12 : decode cX12_cut 12 = .ok (.putfield 529, 3) := by decide +kernel
theorem dX12_cut_15 : decode cX12_cut 15 = .ok (.iconst 0, 1) := by decide +kernel
theorem dX12_cut_16 : decode cX12_cut 16 = .ok (.istore_n 2, 1) := by decide +kernel
theorem dX12_cut_17 : decode cX12_cut 17 = .ok (.iload_n 2, 1) := by decide +kernel
theorem dX12_cut_18 : decode cX12_cut 18 = .ok (.iload_n 1, 1) := by decide +kernel
theorem dX12_cut_19 : decode cX12_cut 19 = .ok (.if_icmp .ge 31, 3) := by decide +kernel
theorem dX12_cut_22 : decode cX12_cut 22 = .ok (.aload_n 0, 1) := by decide +kernel
theorem dX12_cut_23 : decode cX12_cut 23 = .ok (.getfield 228, 3) := by decide +kernel
theorem dX12_cut_26 : decode cX12_cut 26 = .ok (.iload_n 2, 1) := by decide +kernel
theorem dX12_cut_27 : decode cX12_cut 27 = .ok (.iaload, 1) := by decide +kernel
theorem dX12_cut_28 : decode cX12_cut 28 = .ok (.bipush 32, 2) := by decide +kernel
theorem dX12_cut_30 : decode cX12_cut 30 = .ok (.if_icmp .eq 14, 3) := by decide +kernel
theorem dX12_cut_33 : decode cX12_cut 33 = .ok (.aload_n 0, 1) := by decide +kernel
theorem dX12_cut_34 : decode cX12_cut 34 = .ok (.getfield 228, 3) := by decide +kernel
theorem dX12_cut_37 : decode cX12_cut 37 = .ok (.iload_n 2, 1) := by decide +kernel
theorem dX12_cut_38 : decode cX12_cut 38 = .ok (.iaload, 1) := by decide +kernel
theorem dX12_cut_39 : decode cX12_cut 39 = .ok (.bipush 10, 2) := by decide +kernel
theorem dX12_cut_41 : decode cX12_cut 41 = .ok (.if_icmp .ne 9, 3) := by decide +kernel
theorem dX12_cut_44 : decode cX12_cut 44 = .ok (.iinc 2 1, 3) := by decide +kernel
theorem dX12_cut_47 : decode cX12_cut 47 = .ok (.goto (-30), 3) := by decide +kernel
theorem dX12_cut_50 : decode cX12_cut 50 = .ok (.aload_n 0, 1) := by decide +kernel
theorem dX12_cut_51 : decode cX12_cut 51 = .ok (.iload_n 2, 1) := by decide +kernel
theorem dX12_cut_52 : decode cX12_cut 52 = .ok (.iload_n 1, 1) := by decide +kernel
theorem dX12_cut_53 : decode cX12_cut 53 = .ok (.if_icmp .ge 18, 3) := by decide +kernel
theorem dX12_cut_56 : decode cX12_cut 56 = .ok (.aload_n 0, 1) := by decide +kernel
theorem dX12_cut_57 : decode cX12_cut 57 = .ok (.getfield 228, 3) := by decide +kernel
theorem dX12_cut_60 : decode cX12_cut 60 = .ok (.iload_n 2, 1) := by decide +kernel
theorem dX12_cut_61 : decode cX12_cut 61 = .ok (.iaload, 1) := by decide +kernel
theorem dX12_cut_62 : decode cX12_cut 62 = .ok (.bipush 35, 2) := by decide +kernel
theorem dX12_cut_64 : decode cX12_cut 64 = .ok (.if_icmp .ne 7, 3) := by decide +kernel
theorem dX12_cut_67 : decode cX12_cut 67 = .ok (.iconst 1, 1) := by decide +kernel
theorem dX12_cut_68 : decode cX12_cut 68 = .ok (.goto 4, 3) := by decide +kernel
theorem dX12_cut_71 : decode cX12_cut 71 = .ok (.iconst 0, 1) := by decide +kernel
theorem dX12_cut_72 : decode cX12_cut 72 = .ok (.putfield 529, 3) := by decide +kernel
theorem dX12_cut_75 : decode cX12_cut 75 = .ok (.iload_n 2, 1) := by decide +kernel
theorem dX12_cut_76 : decode cX12_cut 76 = .ok (.iload_n 1, 1) := by decide +kernel
theorem dX12_cut_77 : decode cX12_cut 77 = .ok (.if_icmp .ge 10, 3) := by decide +kernel
theorem dX12_cut_80 : decode cX12_cut 80 = .ok (.aload_n 0, 1) := by decide +kernel
theorem dX12_cut_81 : decode cX12_cut 81 = .ok (.getfield 529, 3) := by decide +kernel
theorem dX12_cut_84 : decode cX12_cut 84 = .ok (.ifCond .eq 5, 3) := by decide +kernel
theorem dX12_cut_87 : decode cX12_cut 87 = .ok (.iconst 0, 1) := by decide +kernel
theorem dX12_cut_88 : decode cX12_cut 88 = .ok (.ireturn, 1) := by decide +kernel
theorem dX12_cut_89 : decode cX12_cut 89 = .ok (.iload_n 2, 1) := by decide +kernel
theorem dX12_cut_90 : decode cX12_cut 90 = .ok (.istore_n 3, 1) := by decide +kernel
theorem dX12_cut_91 : decode cX12_cut 91 = .ok (.aload_n 0, 1) := by decide +kernel
theorem dX12_cut_92 : decode cX12_cut 92 = .ok (.getfield 522, 3) := by decide +kernel
theorem dX12_cut_95 : decode cX12_cut 95 = .ok (.bipush 60, 2) := by decide +kernel
theorem dX12_cut_97 : decode cX12_cut 97 = .ok (.if_icmp .ne 10, 3) := by decide +kernel
theorem dX12_cut_100 : decode cX12_cut 100 = .ok (.aload_n 0, 1) := by decide +kernel
theorem dX12_cut_101 : decode cX12_cut 101 = .ok (.iconst 2, 1) := by decide +kernel
theorem dX12_cut_102 : decode cX12_cut 102 = .ok (.iload_n 3, 1) := by decide +kernel
theorem dX12_cut_103 : decode cX12_cut 103 = .ok (.invokevirtual 532, 3) := by decide +kernel
theorem dX12_cut_106 : decode cX12_cut 106 = .ok (.ireturn, 1) := by decide +kernel
theorem dX12_cut_107 : decode cX12_cut 107 = .ok (.aload_n 0, 1) := by decide +kernel
theorem dX12_cut_108 : decode cX12_cut 108 = .ok (.getfield 234, 3) := by decide +kernel
theorem dX12_cut_111 : decode cX12_cut 111 = .ok (.aload_n 0, 1) := by decide +kernel
theorem dX12_cut_112 : decode cX12_cut 112 = .ok (.getfield 522, 3) := by decide +kernel
theorem dX12_cut_115 : decode cX12_cut 115 = .ok (.iconst 0, 1) := by decide +kernel
theorem dX12_cut_116 : decode cX12_cut 116 = .ok (.iastore, 1) := by decide +kernel
theorem dX12_cut_117 : decode cX12_cut 117 = .ok (.iconst 0, 1) := by decide +kernel
theorem dX12_cut_118 : decode cX12_cut 118 = .ok (.istore 4, 2) := by decide +kernel
theorem dX12_cut_120 : decode cX12_cut 120 = .ok (.iconst 0, 1) := by decide +kernel
theorem dX12_cut_121 : decode cX12_cut 121 = .ok (.istore 5, 2) := by decide +kernel
theorem dX12_cut_123 : decode cX12_cut 123 = .ok (.iconst 1, 1) := by decide +kernel
theorem dX12_cut_124 : decode cX12_cut 124 = .ok (.istore 6, 2) := by decide +kernel
theorem dX12_cut_126 : decode cX12_cut 126 = .ok (.iload 6, 2) := by decide +kernel
theorem dX12_cut_128 : decode cX12_cut 128 = .ok (.ifCond .eq 261, 3) := by decide +kernel
theorem dX12_cut_131 : decode cX12_cut 131 = .ok (.iload_n 2, 1) := by decide +kernel
theorem dX12_cut_132 : decode cX12_cut 132 = .ok (.iload_n 1, 1) := by decide +kernel
theorem dX12_cut_133 : decode cX12_cut 133 = .ok (.if_icmp .lt 27, 3) := by decide +kernel
theorem dX12_cut_136 : decode cX12_cut 136 = .ok (.iload 4, 2) := by decide +kernel
theorem dX12_cut_138 : decode cX12_cut 138 = .ok (.ifCond .eq 11, 3) := by decide +kernel
theorem dX12_cut_141 : decode cX12_cut 141 = .ok (.aload_n 0, 1) := by decide +kernel
theorem dX12_cut_142 : decode cX12_cut 142 = .ok (.iconst 1, 1) := by decide +kernel
theorem dX12_cut_143 : decode cX12_cut 143 = .ok (.iload 5, 2) := by decide +kernel
theorem dX12_cut_145 : decode cX12_cut 145 = .ok (.invokevirtual 532, 3) := by decide +kernel
theorem dX12_cut_148 : decode cX12_cut 148 = .ok (.ireturn, 1) := by decide +kernel
theorem dX12_cut_149 : decode cX12_cut 149 = .ok (.aload_n 0, 1) := by decide +kernel
theorem dX12_cut_150 : decode cX12_cut 150 = .ok (.iconst 1, 1) := by decide +kernel
theorem dX12_cut_151 : decode cX12_cut 151 = .ok (.putfield 525, 3) := by decide +kernel
theorem dX12_cut_154 : decode cX12_cut 154 = .ok (.iconst 0, 1) := by decide +kernel
theorem dX12_cut_155 : decode cX12_cut 155 = .ok (.istore 6, 2) := by decide +kernel
theorem dX12_cut_157 : decode cX12_cut 157 = .ok (.goto (-31), 3) := by decide +kernel
theorem dX12_cut_160 : decode cX12_cut 160 = .ok (.aload_n 0, 1) := by decide +kernel
theorem dX12_cut_161 : decode cX12_cut 161 = .ok (.getfield 228, 3) := by decide +kernel
theorem dX12_cut_164 : decode cX12_cut 164 = .ok (.iload_n 2, 1) := by decide +kernel
theorem dX12_cut_165 : decode cX12_cut 165 = .ok (.iaload, 1) := by decide +kernel
theorem dX12_cut_166 : decode cX12_cut 166 = .ok (.istore 7, 2) := by decide +kernel
theorem dX12_cut_168 : decode cX12_cut 168 = .ok (.iload_n 2, 1) := by decide +kernel
theorem dX12_cut_169 : decode cX12_cut 169 = .ok (.istore 8, 2) := by decide +kernel
theorem dX12_cut_171 : decode cX12_cut 171 = .ok (.iinc 2 1, 3) := by decide +kernel
theorem dX12_cut_174 : decode cX12_cut 174 = .ok (.iload 4, 2) := by decide +kernel
theorem dX12_cut_176 : decode cX12_cut 176 = .ok (.ifCond .ne 23, 3) := by decide +kernel
theorem dX12_cut_179 : decode cX12_cut 179 = .ok (.iload 7, 2) := by decide +kernel
theorem dX12_cut_181 : decode cX12_cut 181 = .ok (.bipush 32, 2) := by decide +kernel
theorem dX12_cut_183 : decode cX12_cut 183 = .ok (.if_icmp .eq 10, 3) := by decide +kernel
theorem dX12_cut_186 : decode cX12_cut 186 = .ok (.iload 7, 2) := by decide +kernel
theorem dX12_cut_188 : decode cX12_cut 188 = .ok (.bipush 10, 2) := by decide +kernel
