theorem dX12_may_17 : decode cX12_may 17 = .ok (.getfield 1, 3) := by decide +kernel
theorem dX12_may_20 : decode cX12_may 20 = .ok (.ifCond .ne 7, 3) := by decide +kernel
theorem dX12_may_23 : decode cX12_may 23 = .ok (.iconst 1, 1) := by decide +kernel
theorem dX12_may_24 : decode cX12_may 24 = .ok (.goto 4, 3) := by decide +kernel
theorem dX12_may_27 : decode cX12_may 27 = .ok (.iconst 0, 1) := by decide +kernel
theorem dX12_may_28 : decode cX12_may 28 = .ok (.ireturn, 1) := by decide +kernel
theorem dX12_need_0 : decode cX12_need 0 = .ok (.aload_n 0, 1) := by decide +kernel
theorem dX12_need_1 : decode cX12_need 1 = .ok (.iload_n 1, 1) := by decide +kernel
theorem dX12_need_2 : decode cX12_need 2 = .ok (.invokevirtual 401, 3) := by decide +kernel
theorem dX12_need_5 : decode cX12_need 5 = .ok (.ifCond .eq 10, 3) := by decide +kernel
theorem dX12_need_8 : decode cX12_need 8 = .ok (.aload_n 0, 1) := by decide +kernel
theorem dX12_need_9 : decode cX12_need 9 = .ok (.invokevirtual 404, 3) := by decide +kernel
theorem dX12_need_12 : decode cX12_need 12 = .ok (.goto 12, 3) := by decide +kernel
theorem dX12_need_15 : decode cX12_need 15 = .ok (.aload_n 0, 1) := by decide +kernel
theorem dX12_need_16 : decode cX12_need 16 = .ok (.iconst 1, 1) := by decide +kernel
theorem dX12_need_17 : decode cX12_need 17 = .ok (.aload_n 0, 1) := by decide +kernel
theorem dX12_need_18 : decode cX12_need 18 = .ok (.getfield 353, 3) := by decide +kernel
theorem dX12_need_21 : decode cX12_need 21 = .ok (.invokevirtual 407, 3) := by decide +kernel
theorem dX12_need_24 : decode cX12_need 24 = .ok (.return_, 1) := by decide +kernel
theorem dX12_needWord_0 : decode cX12_needWord 0 = .ok (.aload_n 0, 1) := by decide +kernel
theorem dX12_needWord_1 : decode cX12_needWord 1 = .ok (.lload_n 1, 1) := by decide +kernel
theorem dX12_needWord_2 : decode cX12_needWord 2 = .ok (.invokevirtual 411, 3) := by decide +kernel
theorem dX12_needWord_5 : decode cX12_needWord 5 = .ok (.ifCond .eq 10, 3) := by decide +kernel
theorem dX12_needWord_8 : decode cX12_needWord 8 = .ok (.aload_n 0, 1) := by decide +kernel
theorem dX12_needWord_9 : decode cX12_needWord 9 = .ok (.invokevirtual 404, 3) := by decide +kernel
theorem dX12_needWord_12 : decode cX12_needWord 12 = .ok (.goto 12, 3) := by decide +kernel
theorem dX12_needWord_15 : decode cX12_needWord 15 = .ok (.aload_n 0, 1) := by decide +kernel
theorem dX12_needWord_16 : decode cX12_needWord 16 = .ok (.iconst 1, 1) := by decide +kernel
theorem dX12_needWord_17 : decode cX12_needWord 17 = .ok (.aload_n 0, 1) := by decide +kernel
theorem dX12_needWord_18 : decode cX12_needWord 18 = .ok (.getfield 353, 3) := by decide +kernel
theorem dX12_needWord_21 : decode cX12_needWord 21 = .ok (.invokevirtual 407, 3) := by decide +kernel
theorem dX12_needWord_24 : decode cX12_needWord 24 = .ok (.return_, 1) := by decide +kernel
theorem dX12_octet_0 : decode cX12_octet 0 = .ok (.aload_n 0, 1) := by decide +kernel
theorem dX12_octet_1 : decode cX12_octet 1 = .ok (.iconst 0, 1) := by decide +kernel
theorem dX12_octet_2 : decode cX12_octet 2 = .ok (.putfield 1, 3) := by decide +kernel
theorem dX12_octet_5 : decode cX12_octet 5 = .ok (.iload_n 1, 1) := by decide +kernel
theorem dX12_octet_6 : decode cX12_octet 6 = .ok (.ifCond .lt 20, 3) := by decide +kernel
theorem dX12_octet_9 : decode cX12_octet 9 = .ok (.iload_n 1, 1) := by decide +kernel
theorem dX12_octet_10 : decode cX12_octet 10 = .ok (.aload_n 0, 1) := by decide +kernel
theorem dX12_octet_11 : decode cX12_octet 11 = .ok (.getfield 689, 3) := by decide +kernel
theorem dX12_octet_14 : decode cX12_octet 14 = .ok (.if_icmp .ge 12, 3) := by decide +kernel
theorem dX12_octet_17 : decode cX12_octet 17 = .ok (.aload_n 0, 1) := by decide +kernel
theorem dX12_octet_18 : decode cX12_octet 18 = .ok (.getfield 320, 3) := by decide +kernel
theorem dX12_octet_21 : decode cX12_octet 21 = .ok (.iload_n 1, 1) := by decide +kernel
theorem dX12_octet_22 : decode cX12_octet 22 = .ok (.iaload, 1) := by decide +kernel
theorem dX12_octet_23 : decode cX12_octet 23 = .ok (.goto 4, 3) := by decide +kernel
theorem dX12_octet_26 : decode cX12_octet 26 = .ok (.iconst (-1), 1) := by decide +kernel
theorem dX12_octet_27 : decode cX12_octet 27 = .ok (.ireturn, 1) := by decide +kernel
theorem dX12_packed_0 : decode cX12_packed 0 = .ok (.lconst 0, 1) := by decide +kernel
theorem dX12_packed_1 : decode cX12_packed 1 = .ok (.lstore_n 1, 1) := by decide +kernel
theorem dX12_packed_2 : decode cX12_packed 2 = .ok (.iconst 0, 1) := by decide +kernel
theorem dX12_packed_3 : decode cX12_packed 3 = .ok (.istore_n 3, 1) := by decide +kernel
theorem dX12_packed_4 : decode cX12_packed 4 = .ok (.iload_n 3, 1) := by decide +kernel
theorem dX12_packed_5 : decode cX12_packed 5 = .ok (.aload_n 0, 1) := by decide +kernel
theorem dX12_packed_6 : decode cX12_packed 6 = .ok (.invokevirtual 7, 3) := by decide +kernel
theorem dX12_packed_9 : decode cX12_packed 9 = .ok (.if_icmp .ge 24, 3) := by decide +kernel
theorem dX12_packed_12 : decode cX12_packed 12 = .ok (.lload_n 1, 1) := by decide +kernel
theorem dX12_packed_13 : decode cX12_packed 13 = .ok (.bipush 6, 2) := by decide +kernel
theorem dX12_packed_15 : decode cX12_packed 15 = .ok (.lshl, 1) := by decide +kernel
theorem dX12_packed_16 : decode cX12_packed 16 = .ok (.aload_n 0, 1) := by decide +kernel
theorem dX12_packed_17 : decode cX12_packed 17 = .ok (.iload_n 3, 1) := by decide +kernel
theorem dX12_packed_18 : decode cX12_packed 18 = .ok (.invokevirtual 13, 3) := by decide +kernel
theorem dX12_packed_21 : decode cX12_packed 21 = .ok (.invokestatic 17, 3) := by decide +kernel
theorem dX12_packed_24 : decode cX12_packed 24 = .ok (.i2l, 1) := by decide +kernel
theorem dX12_packed_25 : decode cX12_packed 25 = .ok (.lor, 1) := by decide +kernel
theorem dX12_packed_26 : decode cX12_packed 26 = .ok (.lstore_n 1, 1) := by decide +kernel
theorem dX12_packed_27 : decode cX12_packed 27 = .ok (.iinc 3 1, 3) := by decide +kernel
theorem dX12_packed_30 : decode cX12_packed 30 = .ok (.goto (-26), 3) := by decide +kernel
theorem dX12_packed_33 : decode cX12_packed 33 = .ok (.lload_n 1, 1) := by decide +kernel
theorem dX12_packed_34 : decode cX12_packed 34 = .ok (.lreturn, 1) := by decide +kernel
theorem dX12_print_0 : decode cX12_print 0 = .ok (.aload_n 0, 1) := by decide +kernel
theorem dX12_print_1 : decode cX12_print 1 = .ok (.iconst 0, 1) := by decide +kernel
theorem dX12_print_2 : decode cX12_print 2 = .ok (.putfield 1, 3) := by decide +kernel
theorem dX12_print_5 : decode cX12_print 5 = .ok (.aload_n 0, 1) := by decide +kernel
theorem dX12_print_6 : decode cX12_print 6 = .ok (.iload_n 1, 1) := by decide +kernel
theorem dX12_print_7 : decode cX12_print 7 = .ok (.invokevirtual 683, 3) := by decide +kernel
theorem dX12_print_10 : decode cX12_print 10 = .ok (.ifCond .ne 5, 3) := by decide +kernel
theorem dX12_print_13 : decode cX12_print 13 = .ok (.iconst 0, 1) := by decide +kernel
theorem dX12_print_14 : decode cX12_print 14 = .ok (.ireturn, 1) := by decide +kernel
theorem dX12_print_15 : decode cX12_print 15 = .ok (.aload_n 0, 1) := by decide +kernel
theorem dX12_print_16 : decode cX12_print 16 = .ok (.iconst 0, 1) := by decide +kernel
theorem dX12_print_17 : decode cX12_print 17 = .ok (.putfield 689, 3) := by decide +kernel
theorem dX12_print_20 : decode cX12_print 20 = .ok (.iconst 0, 1) := by decide +kernel
theorem dX12_print_21 : decode cX12_print 21 = .ok (.istore_n 2, 1) := by decide +kernel
theorem dX12_print_22 : decode cX12_print 22 = .ok (.aload_n 0, 1) := by decide +kernel
theorem dX12_print_23 : decode cX12_print 23 = .ok (.getfield 285, 3) := by decide +kernel
theorem dX12_print_26 : decode cX12_print 26 = .ok (.iload_n 1, 1) := by decide +kernel
theorem dX12_print_27 : decode cX12_print 27 = .ok (.iaload, 1) := by decide +kernel
theorem dX12_print_28 : decode cX12_print 28 = .ok (.istore_n 3, 1) := by decide +kernel
theorem dX12_print_29 : decode cX12_print 29 = .ok (.iload_n 3, 1) := by decide +kernel
theorem dX12_print_30 : decode cX12_print 30 = .ok (.iconst (-1), 1) := by decide +kernel
theorem dX12_print_31 : decode cX12_print 31 = .ok (.if_icmp .eq 33, 3) := by decide +kernel
theorem dX12_print_34 : decode cX12_print 34 = .ok (.aload_n 0, 1) := by decide +kernel
theorem dX12_print_35 : decode cX12_print 35 = .ok (.getfield 316, 3) := by decide +kernel
theorem dX12_print_38 : decode cX12_print 38 = .ok (.iload_n 2, 1) := by decide +kernel
theorem dX12_print_39 : decode cX12_print 39 = .ok (.iload_n 3, 1) := by decide +kernel
theorem dX12_print_40 : decode cX12_print 40 = .ok (.iastore, 1) := by decide +kernel
theorem dX12_print_41 : decode cX12_print 41 = .ok (.iinc 2 1, 3) := by decide +kernel
theorem dX12_print_44 : decode cX12_print 44 = .ok (.aload_n 0, 1) := by decide +kernel
theorem dX12_print_45 : decode cX12_print 45 = .ok (.getfield 38, 3) := by decide +kernel
theorem dX12_print_48 : decode cX12_print 48 = .ok (.bipush 17, 2) := by decide +kernel
theorem dX12_print_50 : decode cX12_print 50 = .ok (.aload_n 0, 1) := by decide +kernel
theorem dX12_print_51 : decode cX12_print 51 = .ok (.getfield 282, 3) := by decide +kernel
theorem dX12_print_54 : decode cX12_print 54 = .ok (.iload_n 1, 1) := by decide +kernel
theorem dX12_print_55 : decode cX12_print 55 = .ok (.iaload, 1) := by decide +kernel
theorem dX12_print_56 : decode cX12_print 56 = .ok (.imul, 1) := by decide +kernel
theorem dX12_print_57 : decode cX12_print 57 = .ok (.iload_n 3, 1) := by decide +kernel
theorem dX12_print_58 : decode cX12_print 58 = .ok (.iadd, 1) := by decide +kernel
theorem dX12_print_59 : decode cX12_print 59 = .ok (.iaload, 1) := by decide +kernel
theorem dX12_print_60 : decode cX12_print 60 = .ok (.istore_n 3, 1) := by decide +kernel
theorem dX12_print_61 : decode cX12_print 61 = .ok (.goto (-32), 3) := by decide +kernel
theorem dX12_print_64 : decode cX12_print 64 = .ok (.iload_n 2, 1) := by decide +kernel
theorem dX12_print_65 : decode cX12_print 65 = .ok (.iconst 1, 1) := by decide +kernel
theorem dX12_print_66 : decode cX12_print 66 = .ok (.isub, 1) := by decide +kernel
theorem dX12_print_67 : decode cX12_print 67 = .ok (.istore_n 3, 1) := by decide +kernel
theorem dX12_print_68 : decode cX12_print 68 = .ok (.iload_n 3, 1) := by decide +kernel
theorem dX12_print_69 : decode cX12_print 69 = .ok (.ifCond .lt 47, 3) := by decide +kernel
theorem dX12_print_72 : decode cX12_print 72 = .ok (.aload_n 0, 1) := by decide +kernel
theorem dX12_print_73 : decode cX12_print 73 = .ok (.getfield 689, 3) := by decide +kernel
theorem dX12_print_76 : decode cX12_print 76 = .ok (.ifCond .le 9, 3) := by decide +kernel
theorem dX12_print_79 : decode cX12_print 79 = .ok (.aload_n 0, 1) := by decide +kernel
theorem dX12_print_80 : decode cX12_print 80 = .ok (.bipush 32, 2) := by decide +kernel
theorem dX12_print_82 : decode cX12_print 82 = .ok (.invokevirtual 692, 3) := by decide +kernel
theorem dX12_print_85 : decode cX12_print 85 = .ok (.aload_n 0, 1) := by decide +kernel
theorem dX12_print_86 : decode cX12_print 86 = .ok (.aload_n 0, 1) := by decide +kernel
theorem dX12_print_87 : decode cX12_print 87 = .ok (.getfield 110, 3) := by decide +kernel
theorem dX12_print_90 : decode cX12_print 90 = .ok (.bipush 17, 2) := by decide +kernel
theorem dX12_print_92 : decode cX12_print 92 = .ok (.aload_n 0, 1) := by decide +kernel
theorem dX12_print_93 : decode cX12_print 93 = .ok (.getfield 282, 3) := by decide +kernel
theorem dX12_print_96 : decode cX12_print 96 = .ok (.iload_n 1, 1) := by decide +kernel
theorem dX12_print_97 : decode cX12_print 97 = .ok (.iaload, 1) := by decide +kernel
theorem dX12_print_98 : decode cX12_print 98 = .ok (.imul, 1) := by decide +kernel
theorem dX12_print_99 : decode cX12_print 99 = .ok (.aload_n 0, 1) := by decide +kernel
theorem dX12_print_100 : decode cX12_print 100 = .ok (.getfield 316, 3) := by decide +kernel
theorem dX12_print_103 : decode cX12_print 103 = .ok (.iload_n 3, 1) := by decide +kernel
theorem dX12_print_104 : decode cX12_print 104 = .ok (.iaload, 1) := by decide +kernel
theorem dX12_print_105 : decode cX12_print 105 = .ok (.iadd, 1) := by decide +kernel
theorem dX12_print_106 : decode cX12_print 106 = .ok (.laload, 1) := by decide +kernel
theorem dX12_print_107 : decode cX12_print 107 = .ok (.invokevirtual 703, 3) := by decide +kernel
theorem dX12_print_110 : decode cX12_print 110 = .ok (.iinc 3 (-1), 3) := by decide +kernel
theorem dX12_print_113 : decode cX12_print 113 = .ok (.goto (-45), 3) := by decide +kernel
theorem dX12_print_116 : decode cX12_print 116 = .ok (.iconst 0, 1) := by decide +kernel
theorem dX12_print_117 : decode cX12_print 117 = .ok (.istore_n 3, 1) := by decide +kernel
theorem dX12_print_118 : decode cX12_print 118 = .ok (.iload_n 3, 1) := by decide +kernel
theorem dX12_print_119 : decode cX12_print 119 = .ok (.aload_n 0, 1) := by decide +kernel
theorem dX12_print_120 : decode cX12_print 120 = .ok (.getfield 122, 3) := by decide +kernel
theorem dX12_print_123 : decode cX12_print 123 = .ok (.aload_n 0, 1) := by decide +kernel
theorem dX12_print_124 : decode cX12_print 124 = .ok (.getfield 282, 3) := by decide +kernel
theorem dX12_print_127 : decode cX12_print 127 = .ok (.iload_n 1, 1) := by decide +kernel
theorem dX12_print_128 : decode cX12_print 128 = .ok (.iaload, 1) := by decide +kernel
theorem dX12_print_129 : decode cX12_print 129 = .ok (.iaload, 1) := by decide +kernel
theorem dX12_print_130 : decode cX12_print 130 = .ok (.if_icmp .ge 39, 3) := by decide +kernel
theorem dX12_print_133 : decode cX12_print 133 = .ok (.aload_n 0, 1) := by decide +kernel
theorem dX12_print_134 : decode cX12_print 134 = .ok (.iload_n 1, 1) := by decide +kernel
theorem dX12_print_135 : decode cX12_print 135 = .ok (.iload_n 3, 1) := by decide +kernel
theorem dX12_print_136 : decode cX12_print 136 = .ok (.invokevirtual 686, 3) := by decide +kernel
theorem dX12_print_139 : decode cX12_print 139 = .ok (.ifCond .eq 24, 3) := by decide +kernel
theorem dX12_print_142 : decode cX12_print 142 = .ok (.aload_n 0, 1) := by decide +kernel
theorem dX12_print_143 : decode cX12_print 143 = .ok (.getfield 291, 3) := by decide +kernel
theorem dX12_print_146 : decode cX12_print 146 = .ok (.bipush 40, 2) := by decide +kernel
theorem dX12_print_148 : decode cX12_print 148 = .ok (.iload_n 1, 1) := by decide +kernel
theorem dX12_print_149 : decode cX12_print 149 = .ok (.imul, 1) := by decide +kernel
theorem dX12_print_150 : decode cX12_print 150 = .ok (.iload_n 3, 1) := by decide +kernel
theorem dX12_print_151 : decode cX12_print 151 = .ok (.iadd, 1) := by decide +kernel
theorem dX12_print_152 : decode cX12_print 152 = .ok (.iaload, 1) := by decide +kernel
theorem dX12_print_153 : decode cX12_print 153 = .ok (.iconst 2, 1) := by decide +kernel
theorem dX12_print_154 : decode cX12_print 154 = .ok (.if_icmp .gt 9, 3) := by decide +kernel
theorem dX12_print_157 : decode cX12_print 157 = .ok (.aload_n 0, 1) := by decide +kernel
theorem dX12_print_158 : decode cX12_print 158 = .ok (.iload_n 1, 1) := by decide +kernel
theorem dX12_print_159 : decode cX12_print 159 = .ok (.iload_n 3, 1) := by decide +kernel
theorem dX12_print_160 : decode cX12_print 160 = .ok (.invokevirtual 716, 3) := by decide +kernel
theorem dX12_print_163 : decode cX12_print 163 = .ok (.iinc 3 1, 3) := by decide +kernel
theorem dX12_print_166 : decode cX12_print 166 = .ok (.goto (-48), 3) := by decide +kernel
theorem dX12_print_169 : decode cX12_print 169 = .ok (.aload_n 0, 1) := by decide +kernel
theorem dX12_print_170 : decode cX12_print 170 = .ok (.getfield 288, 3) := by decide +kernel
theorem dX12_print_173 : decode cX12_print 173 = .ok (.iload_n 1, 1) := by decide +kernel
theorem dX12_print_174 : decode cX12_print 174 = .ok (.iaload, 1) := by decide +kernel
theorem dX12_print_175 : decode cX12_print 175 = .ok (.ifCond .le 21, 3) := by decide +kernel
theorem dX12_print_178 : decode cX12_print 178 = .ok (.aload_n 0, 1) := by decide +kernel
theorem dX12_print_179 : decode cX12_print 179 = .ok (.bipush 32, 2) := by decide +kernel
theorem dX12_print_181 : decode cX12_print 181 = .ok (.invokevirtual 692, 3) := by decide +kernel
theorem dX12_print_184 : decode cX12_print 184 = .ok (.aload_n 0, 1) := by decide +kernel
theorem dX12_print_185 : decode cX12_print 185 = .ok (.bipush 45, 2) := by decide +kernel
theorem dX12_print_187 : decode cX12_print 187 = .ok (.invokevirtual 692, 3) := by decide +kernel
theorem dX12_print_190 : decode cX12_print 190 = .ok (.aload_n 0, 1) := by decide +kernel
theorem dX12_print_191 : decode cX12_print 191 = .ok (.bipush 45, 2) := by decide +kernel
theorem dX12_print_193 : decode cX12_print 193 = .ok (.invokevirtual 692, 3) := by decide +kernel
theorem dX12_print_196 : decode cX12_print 196 = .ok (.iconst 0, 1) := by decide +kernel
theorem dX12_print_197 : decode cX12_print 197 = .ok (.istore_n 3, 1) := by decide +kernel
theorem dX12_print_198 : decode cX12_print 198 = .ok (.iload_n 3, 1) := by decide +kernel
theorem dX12_print_199 : decode cX12_print 199 = .ok (.aload_n 0, 1) := by decide +kernel
theorem dX12_print_200 : decode cX12_print 200 = .ok (.getfield 288, 3) := by decide +kernel
theorem dX12_print_203 : decode cX12_print 203 = .ok (.iload_n 1, 1) := by decide +kernel
theorem dX12_print_204 : decode cX12_print 204 = .ok (.iaload, 1) := by decide +kernel
theorem dX12_print_205 : decode cX12_print 205 = .ok (.if_icmp .ge 43, 3) := by decide +kernel
theorem dX12_print_208 : decode cX12_print 208 = .ok (.aload_n 0, 1) := by decide +kernel
theorem dX12_print_209 : decode cX12_print 209 = .ok (.bipush 32, 2) := by decide +kernel
theorem dX12_print_211 : decode cX12_print 211 = .ok (.invokevirtual 692, 3) := by decide +kernel
theorem dX12_print_214 : decode cX12_print 214 = .ok (.aload_n 0, 1) := by decide +kernel
theorem dX12_print_215 : decode cX12_print 215 = .ok (.aload_n 0, 1) := by decide +kernel
theorem dX12_print_216 : decode cX12_print 216 = .ok (.getfield 310, 3) := by decide +kernel
theorem dX12_print_219 : decode cX12_print 219 = .ok (.bipush 40, 2) := by decide +kernel
theorem dX12_print_221 : decode cX12_print 221 = .ok (.bipush 60, 2) := by decide +kernel
theorem dX12_print_223 : decode cX12_print 223 = .ok (.iload_n 1, 1) := by decide +kernel
theorem dX12_print_224 : decode cX12_print 224 = .ok (.imul, 1) := by decide +kernel
theorem dX12_print_225 : decode cX12_print 225 = .ok (.iload_n 3, 1) := by decide +kernel
theorem dX12_print_226 : decode cX12_print 226 = .ok (.iadd, 1) := by decide +kernel
theorem dX12_print_227 : decode cX12_print 227 = .ok (.imul, 1) := by decide +kernel
theorem dX12_print_228 : decode cX12_print 228 = .ok (.aload_n 0, 1) := by decide +kernel
theorem dX12_print_229 : decode cX12_print 229 = .ok (.getfield 307, 3) := by decide +kernel
theorem dX12_print_232 : decode cX12_print 232 = .ok (.bipush 60, 2) := by decide +kernel
theorem dX12_print_234 : decode cX12_print 234 = .ok (.iload_n 1, 1) := by decide +kernel
theorem dX12_print_235 : decode cX12_print 235 = .ok (.imul, 1) := by decide +kernel
theorem dX12_print_236 : decode cX12_print 236 = .ok (.iload_n 3, 1) := by decide +kernel
theorem dX12_print_237 : decode cX12_print 237 = .ok (.iadd, 1) := by decide +kernel
theorem dX12_print_238 : decode cX12_print 238 = .ok (.iaload, 1) := by decide +kernel
theorem dX12_print_239 : decode cX12_print 239 = .ok (.invokevirtual 712, 3) := by decide +kernel
theorem dX12_print_242 : decode cX12_print 242 = .ok (.iinc 3 1, 3) := by decide +kernel
theorem dX12_print_245 : decode cX12_print 245 = .ok (.goto (-47), 3) := by decide +kernel
theorem dX12_print_248 : decode cX12_print 248 = .ok (.aload_n 0, 1) := by decide +kernel
theorem dX12_print_249 : decode cX12_print 249 = .ok (.getfield 689, 3) := by decide +kernel
theorem dX12_print_252 : decode cX12_print 252 = .ok (.ireturn, 1) := by decide +kernel
theorem dX12_put_0 : decode cX12_put 0 = .ok (.aload_n 0, 1) := by decide +kernel
theorem dX12_put_1 : decode cX12_put 1 = .ok (.iconst 0, 1) := by decide +kernel
theorem dX12_put_2 : decode cX12_put 2 = .ok (.putfield 1, 3) := by decide +kernel
theorem dX12_put_5 : decode cX12_put 5 = .ok (.aload_n 0, 1) := by decide +kernel
theorem dX12_put_6 : decode cX12_put 6 = .ok (.iload_n 2, 1) := by decide +kernel
theorem dX12_put_7 : decode cX12_put 7 = .ok (.ifCond .lt 24, 3) := by decide +kernel
theorem dX12_put_10 : decode cX12_put 10 = .ok (.iload_n 2, 1) := by decide +kernel
theorem dX12_put_11 : decode cX12_put 11 = .ok (.aload_n 0, 1) := by decide +kernel
theorem dX12_put_12 : decode cX12_put 12 = .ok (.getfield 344, 3) := by decide +kernel
theorem dX12_put_15 : decode cX12_put 15 = .ok (.if_icmp .gt 16, 3) := by decide +kernel
theorem dX12_put_18 : decode cX12_put 18 = .ok (.iload_n 1, 1) := by decide +kernel
theorem dX12_put_19 : decode cX12_put 19 = .ok (.ifCond .lt 12, 3) := by decide +kernel
theorem dX12_put_22 : decode cX12_put 22 = .ok (.iload_n 1, 1) := by decide +kernel
theorem dX12_put_23 : decode cX12_put 23 = .ok (.iconst 2, 1) := by decide +kernel
theorem dX12_put_24 : decode cX12_put 24 = .ok (.if_icmp .gt 7, 3) := by decide +kernel
theorem dX12_put_27 : decode cX12_put 27 = .ok (.iconst 1, 1) := by decide +kernel
theorem dX12_put_28 : decode cX12_put 28 = .ok (.goto 4, 3) := by decide +kernel
theorem dX12_put_31 : decode cX12_put 31 = .ok (.iconst 0, 1) := by decide +kernel
theorem dX12_put_32 : decode cX12_put 32 = .ok (.iconst 1, 1) := by decide +kernel
theorem dX12_put_33 : decode cX12_put 33 = .ok (.invokevirtual 414, 3) := by decide +kernel
theorem dX12_put_36 : decode cX12_put 36 = .ok (.ifCond .ne 5, 3) := by decide +kernel
theorem dX12_put_39 : decode cX12_put 39 = .ok (.iconst 0, 1) := by decide +kernel
theorem dX12_put_40 : decode cX12_put 40 = .ok (.ireturn, 1) := by decide +kernel
theorem dX12_put_41 : decode cX12_put 41 = .ok (.aload_n 0, 1) := by decide +kernel
theorem dX12_put_42 : decode cX12_put 42 = .ok (.iconst 0, 1) := by decide +kernel
theorem dX12_put_43 : decode cX12_put 43 = .ok (.putfield 344, 3) := by decide +kernel
theorem dX12_put_46 : decode cX12_put 46 = .ok (.iconst 0, 1) := by decide +kernel
theorem dX12_put_47 : decode cX12_put 47 = .ok (.istore_n 3, 1) := by decide +kernel
theorem dX12_put_48 : decode cX12_put 48 = .ok (.iload_n 3, 1) := by decide +kernel
theorem dX12_put_49 : decode cX12_put 49 = .ok (.iload_n 2, 1) := by decide +kernel
theorem dX12_put_50 : decode cX12_put 50 = .ok (.if_icmp .ge 20, 3) := by decide +kernel
theorem dX12_put_53 : decode cX12_put 53 = .ok (.aload_n 0, 1) := by decide +kernel
theorem dX12_put_54 : decode cX12_put 54 = .ok (.getfield 192, 3) := by decide +kernel
theorem dX12_put_57 : decode cX12_put 57 = .ok (.iload_n 3, 1) := by decide +kernel
theorem dX12_put_58 : decode cX12_put 58 = .ok (.iaload, 1) := by decide +kernel
theorem dX12_put_59 : decode cX12_put 59 = .ok (.bipush 61, 2) := by decide +kernel
theorem dX12_put_61 : decode cX12_put 61 = .ok (.if_icmp .eq 9, 3) := by decide +kernel
theorem dX12_put_64 : decode cX12_put 64 = .ok (.iinc 3 1, 3) := by decide +kernel
theorem dX12_put_67 : decode cX12_put 67 = .ok (.goto (-19), 3) := by decide +kernel
theorem dX12_put_70 : decode cX12_put 70 = .ok (.iload_n 2, 1) := by decide +kernel
theorem dX12_put_71 : decode cX12_put 71 = .ok (.iload_n 3, 1) := by decide +kernel
theorem dX12_put_72 : decode cX12_put 72 = .ok (.isub, 1) := by decide +kernel
theorem dX12_put_73 : decode cX12_put 73 = .ok (.iconst 1, 1) := by decide +kernel
theorem dX12_put_74 : decode cX12_put 74 = .ok (.isub, 1) := by decide +kernel
theorem dX12_put_75 : decode cX12_put 75 = .ok (.istore 4, 2) := by decide +kernel
theorem dX12_put_77 : decode cX12_put 77 = .ok (.iload_n 3, 1) := by decide +kernel
theorem dX12_put_78 : decode cX12_put 78 = .ok (.iload_n 2, 1) := by decide +kernel
theorem dX12_put_79 : decode cX12_put 79 = .ok (.if_icmp .ge 10, 3) := by decide +kernel
theorem dX12_put_82 : decode cX12_put 82 = .ok (.iload 4, 2) := by decide +kernel
theorem dX12_put_84 : decode cX12_put 84 = .ok (.bipush 60, 2) := by decide +kernel
theorem dX12_put_86 : decode cX12_put 86 = .ok (.if_icmp .le 5, 3) := by decide +kernel
theorem dX12_put_89 : decode cX12_put 89 = .ok (.iconst 0, 1) := by decide +kernel
theorem dX12_put_90 : decode cX12_put 90 = .ok (.ireturn, 1) := by decide +kernel
theorem dX12_put_91 : decode cX12_put 91 = .ok (.iload_n 3, 1) := by decide +kernel
theorem dX12_put_92 : decode cX12_put 92 = .ok (.iconst 1, 1) := by decide +kernel
theorem dX12_put_93 : decode cX12_put 93 = .ok (.iadd, 1) := by decide +kernel
theorem dX12_put_94 : decode cX12_put 94 = .ok (.istore 5, 2) := by decide +kernel
theorem dX12_put_96 : decode cX12_put 96 = .ok (.iload 5, 2) := by decide +kernel
theorem dX12_put_98 : decode cX12_put 98 = .ok (.iload_n 2, 1) := by decide +kernel
theorem dX12_put_99 : decode cX12_put 99 = .ok (.if_icmp .ge 35, 3) := by decide +kernel
theorem dX12_put_102 : decode cX12_put 102 = .ok (.aload_n 0, 1) := by decide +kernel
theorem dX12_put_103 : decode cX12_put 103 = .ok (.getfield 192, 3) := by decide +kernel
theorem dX12_put_106 : decode cX12_put 106 = .ok (.iload 5, 2) := by decide +kernel
theorem dX12_put_108 : decode cX12_put 108 = .ok (.iaload, 1) := by decide +kernel
theorem dX12_put_109 : decode cX12_put 109 = .ok (.bipush 32, 2) := by decide +kernel
theorem dX12_put_111 : decode cX12_put 111 = .ok (.if_icmp .lt 15, 3) := by decide +kernel
theorem dX12_put_114 : decode cX12_put 114 = .ok (.aload_n 0, 1) := by decide +kernel
theorem dX12_put_115 : decode cX12_put 115 = .ok (.getfield 192, 3) := by decide +kernel
theorem dX12_put_118 : decode cX12_put 118 = .ok (.iload 5, 2) := by decide +kernel
theorem dX12_put_120 : decode cX12_put 120 = .ok (.iaload, 1) := by decide +kernel
theorem dX12_put_121 : decode cX12_put 121 = .ok (.bipush 126, 2) := by decide +kernel
theorem dX12_put_123 : decode cX12_put 123 = .ok (.if_icmp .le 5, 3) := by decide +kernel
theorem dX12_put_126 : decode cX12_put 126 = .ok (.iconst 0, 1) := by decide +kernel
theorem dX12_put_127 : decode cX12_put 127 = .ok (.ireturn, 1) := by decide +kernel
theorem dX12_put_128 : decode cX12_put 128 = .ok (.iinc 5 1, 3) := by decide +kernel
theorem dX12_put_131 : decode cX12_put 131 = .ok (.goto (-35), 3) := by decide +kernel
theorem dX12_put_134 : decode cX12_put 134 = .ok (.lconst 0, 1) := by decide +kernel
theorem dX12_put_135 : decode cX12_put 135 = .ok (.lstore 5, 2) := by decide +kernel
theorem dX12_put_137 : decode cX12_put 137 = .ok (.iload_n 1, 1) := by decide +kernel
theorem dX12_put_138 : decode cX12_put 138 = .ok (.iconst 1, 1) := by decide +kernel
theorem dX12_put_139 : decode cX12_put 139 = .ok (.if_icmp .ne 13, 3) := by decide +kernel
theorem dX12_put_142 : decode cX12_put 142 = .ok (.aload_n 0, 1) := by decide +kernel
theorem dX12_put_143 : decode cX12_put 143 = .ok (.iload_n 3, 1) := by decide +kernel
theorem dX12_put_144 : decode cX12_put 144 = .ok (.invokevirtual 508, 3) := by decide +kernel
theorem dX12_put_147 : decode cX12_put 147 = .ok (.ifCond .ne 26, 3) := by decide +kernel
theorem dX12_put_150 : decode cX12_put 150 = .ok (.iconst 0, 1) := by decide +kernel
theorem dX12_put_151 : decode cX12_put 151 = .ok (.ireturn, 1) := by decide +kernel
theorem dX12_put_152 : decode cX12_put 152 = .ok (.aload_n 0, 1) := by decide +kernel
theorem dX12_put_153 : decode cX12_put 153 = .ok (.aload_n 0, 1) := by decide +kernel
theorem dX12_put_154 : decode cX12_put 154 = .ok (.getfield 192, 3) := by decide +kernel
theorem dX12_put_157 : decode cX12_put 157 = .ok (.iconst 0, 1) := by decide +kernel
theorem dX12_put_158 : decode cX12_put 158 = .ok (.iload_n 3, 1) := by decide +kernel
theorem dX12_put_159 : decode cX12_put 159 = .ok (.invokevirtual 511, 3) := by decide +kernel
theorem dX12_put_162 : decode cX12_put 162 = .ok (.lstore 5, 2) := by decide +kernel
theorem dX12_put_164 : decode cX12_put 164 = .ok (.lload 5, 2) := by decide +kernel
theorem dX12_put_166 : decode cX12_put 166 = .ok (.lconst 0, 1) := by decide +kernel
theorem dX12_put_167 : decode cX12_put 167 = .ok (.lcmp, 1) := by decide +kernel
theorem dX12_put_168 : decode cX12_put 168 = .ok (.ifCond .ne 5, 3) := by decide +kernel
theorem dX12_put_171 : decode cX12_put 171 = .ok (.iconst 0, 1) := by decide +kernel
theorem dX12_put_172 : decode cX12_put 172 = .ok (.ireturn, 1) := by decide +kernel
theorem dX12_put_173 : decode cX12_put 173 = .ok (.iconst 0, 1) := by decide +kernel
theorem dX12_put_174 : decode cX12_put 174 = .ok (.istore 7, 2) := by decide +kernel
theorem dX12_put_176 : decode cX12_put 176 = .ok (.iload 7, 2) := by decide +kernel
theorem dX12_put_178 : decode cX12_put 178 = .ok (.iload 4, 2) := by decide +kernel
theorem dX12_put_180 : decode cX12_put 180 = .ok (.if_icmp .ge 27, 3) := by decide +kernel
theorem dX12_put_183 : decode cX12_put 183 = .ok (.aload_n 0, 1) := by decide +kernel
theorem dX12_put_184 : decode cX12_put 184 = .ok (.getfield 228, 3) := by decide +kernel
theorem dX12_put_187 : decode cX12_put 187 = .ok (.iload 7, 2) := by decide +kernel
theorem dX12_put_189 : decode cX12_put 189 = .ok (.aload_n 0, 1) := by decide +kernel
theorem dX12_put_190 : decode cX12_put 190 = .ok (.getfield 192, 3) := by decide +kernel
theorem dX12_put_193 : decode cX12_put 193 = .ok (.iload_n 3, 1) := by decide +kernel
theorem dX12_put_194 : decode cX12_put 194 = .ok (.iconst 1, 1) := by decide +kernel
theorem dX12_put_195 : decode cX12_put 195 = .ok (.iadd, 1) := by decide +kernel
theorem dX12_put_196 : decode cX12_put 196 = .ok (.iload 7, 2) := by decide +kernel
theorem dX12_put_198 : decode cX12_put 198 = .ok (.iadd, 1) := by decide +kernel
theorem dX12_put_199 : decode cX12_put 199 = .ok (.iaload, 1) := by decide +kernel
theorem dX12_put_200 : decode cX12_put 200 = .ok (.iastore, 1) := by decide +kernel
theorem dX12_put_201 : decode cX12_put 201 = .ok (.iinc 7 1, 3) := by decide +kernel
theorem dX12_put_204 : decode cX12_put 204 = .ok (.goto (-28), 3) := by decide +kernel
theorem dX12_put_207 : decode cX12_put 207 = .ok (.iload_n 1, 1) := by decide +kernel
theorem dX12_put_208 : decode cX12_put 208 = .ok (.iconst 2, 1) := by decide +kernel
theorem dX12_put_209 : decode cX12_put 209 = .ok (.if_icmp .ne 14, 3) := by decide +kernel
theorem dX12_put_212 : decode cX12_put 212 = .ok (.aload_n 0, 1) := by decide +kernel
theorem dX12_put_213 : decode cX12_put 213 = .ok (.iload 4, 2) := by decide +kernel
theorem dX12_put_215 : decode cX12_put 215 = .ok (.invokevirtual 515, 3) := by decide +kernel
theorem dX12_put_218 : decode cX12_put 218 = .ok (.ifCond .eq 5, 3) := by decide +kernel
theorem dX12_put_221 : decode cX12_put 221 = .ok (.iconst 0, 1) := by decide +kernel
theorem dX12_put_222 : decode cX12_put 222 = .ok (.ireturn, 1) := by decide +kernel
theorem dX12_put_223 : decode cX12_put 223 = .ok (.iconst 0, 1) := by decide +kernel
theorem dX12_put_224 : decode cX12_put 224 = .ok (.istore 7, 2) := by decide +kernel
theorem dX12_put_226 : decode cX12_put 226 = .ok (.iload 7, 2) := by decide +kernel
theorem dX12_put_228 : decode cX12_put 228 = .ok (.aload_n 0, 1) := by decide +kernel
theorem dX12_put_229 : decode cX12_put 229 = .ok (.getfield 225, 3) := by decide +kernel
theorem dX12_put_232 : decode cX12_put 232 = .ok (.iload_n 1, 1) := by decide +kernel
theorem dX12_put_233 : decode cX12_put 233 = .ok (.iaload, 1) := by decide +kernel
theorem dX12_put_234 : decode cX12_put 234 = .ok (.if_icmp .ge 49, 3) := by decide +kernel
theorem dX12_put_237 : decode cX12_put 237 = .ok (.iload_n 1, 1) := by decide +kernel
theorem dX12_put_238 : decode cX12_put 238 = .ok (.iconst 1, 1) := by decide +kernel
theorem dX12_put_239 : decode cX12_put 239 = .ok (.if_icmp .ne 20, 3) := by decide +kernel
theorem dX12_put_242 : decode cX12_put 242 = .ok (.aload_n 0, 1) := by decide +kernel
theorem dX12_put_243 : decode cX12_put 243 = .ok (.iload 7, 2) := by decide +kernel
theorem dX12_put_245 : decode cX12_put 245 = .ok (.aload_n 0, 1) := by decide +kernel
theorem dX12_put_246 : decode cX12_put 246 = .ok (.getfield 192, 3) := by decide +kernel
theorem dX12_put_249 : decode cX12_put 249 = .ok (.iload_n 3, 1) := by decide +kernel
theorem dX12_put_250 : decode cX12_put 250 = .ok (.invokevirtual 518, 3) := by decide +kernel
theorem dX12_put_253 : decode cX12_put 253 = .ok (.ifCond .eq 24, 3) := by decide +kernel
theorem dX12_put_256 : decode cX12_put 256 = .ok (.goto 27, 3) := by decide +kernel
theorem dX12_put_259 : decode cX12_put 259 = .ok (.aload_n 0, 1) := by decide +kernel
theorem dX12_put_260 : decode cX12_put 260 = .ok (.getfield 210, 3) := by decide +kernel
theorem dX12_put_263 : decode cX12_put 263 = .ok (.bipush 20, 2) := by decide +kernel
theorem dX12_put_265 : decode cX12_put 265 = .ok (.iload_n 1, 1) := by decide +kernel
theorem dX12_put_266 : decode cX12_put 266 = .ok (.imul, 1) := by decide +kernel
theorem dX12_put_267 : decode cX12_put 267 = .ok (.iload 7, 2) := by decide +kernel
theorem dX12_put_269 : decode cX12_put 269 = .ok (.iadd, 1) := by decide +kernel
theorem dX12_put_270 : decode cX12_put 270 = .ok (.laload, 1) := by decide +kernel
theorem dX12_put_271 : decode cX12_put 271 = .ok (.lload 5, 2) := by decide +kernel
theorem dX12_put_273 : decode cX12_put 273 = .ok (.lcmp, 1) := by decide +kernel
theorem dX12_put_274 : decode cX12_put 274 = .ok (.ifCond .eq 9, 3) := by decide +kernel
theorem dX12_put_277 : decode cX12_put 277 = .ok (.iinc 7 1, 3) := by decide +kernel
theorem dX12_put_280 : decode cX12_put 280 = .ok (.goto (-54), 3) := by decide +kernel
theorem dX12_put_283 : decode cX12_put 283 = .ok (.iload 7, 2) := by decide +kernel
theorem dX12_put_285 : decode cX12_put 285 = .ok (.bipush 20, 2) := by decide +kernel
theorem dX12_put_287 : decode cX12_put 287 = .ok (.if_icmp .ne 5, 3) := by decide +kernel
theorem dX12_put_290 : decode cX12_put 290 = .ok (.iconst 0, 1) := by decide +kernel
theorem dX12_put_291 : decode cX12_put 291 = .ok (.ireturn, 1) := by decide +kernel
theorem dX12_put_292 : decode cX12_put 292 = .ok (.iload 7, 2) := by decide +kernel
theorem dX12_put_294 : decode cX12_put 294 = .ok (.aload_n 0, 1) := by decide +kernel
theorem dX12_put_295 : decode cX12_put 295 = .ok (.getfield 225, 3) := by decide +kernel
theorem dX12_put_298 : decode cX12_put 298 = .ok (.iload_n 1, 1) := by decide +kernel
theorem dX12_put_299 : decode cX12_put 299 = .ok (.iaload, 1) := by decide +kernel
theorem dX12_put_300 : decode cX12_put 300 = .ok (.if_icmp .ne 13, 3) := by decide +kernel
theorem dX12_put_303 : decode cX12_put 303 = .ok (.aload_n 0, 1) := by decide +kernel
theorem dX12_put_304 : decode cX12_put 304 = .ok (.getfield 225, 3) := by decide +kernel
theorem dX12_put_307 : decode cX12_put 307 = .ok (.iload_n 1, 1) := by decide +kernel
theorem dX12_put_308 : decode cX12_put 308 = .ok (.dup2, 1) := by decide +kernel
theorem dX12_put_309 : decode cX12_put 309 = .ok (.iaload, 1) := by decide +kernel
theorem dX12_put_310 : decode cX12_put 310 = .ok (.iconst 1, 1) := by decide +kernel
theorem dX12_put_311 : decode cX12_put 311 = .ok (.iadd, 1) := by decide +kernel
theorem dX12_put_312 : decode cX12_put 312 = .ok (.iastore, 1) := by decide +kernel
theorem dX12_put_313 : decode cX12_put 313 = .ok (.aload_n 0, 1) := by decide +kernel
theorem dX12_put_314 : decode cX12_put 314 = .ok (.getfield 210, 3) := by decide +kernel
theorem dX12_put_317 : decode cX12_put 317 = .ok (.bipush 20, 2) := by decide +kernel
theorem dX12_put_319 : decode cX12_put 319 = .ok (.iload_n 1, 1) := by decide +kernel
theorem dX12_put_320 : decode cX12_put 320 = .ok (.imul, 1) := by decide +kernel
theorem dX12_put_321 : decode cX12_put 321 = .ok (.iload 7, 2) := by decide +kernel
theorem dX12_put_323 : decode cX12_put 323 = .ok (.iadd, 1) := by decide +kernel
theorem dX12_put_324 : decode cX12_put 324 = .ok (.lload 5, 2) := by decide +kernel
theorem dX12_put_326 : decode cX12_put 326 = .ok (.lastore, 1) := by decide +kernel
theorem dX12_put_327 : decode cX12_put 327 = .ok (.iload_n 1, 1) := by decide +kernel
theorem dX12_put_328 : decode cX12_put 328 = .ok (.iconst 1, 1) := by decide +kernel
theorem dX12_put_329 : decode cX12_put 329 = .ok (.if_icmp .ne 46, 3) := by decide +kernel
theorem dX12_put_332 : decode cX12_put 332 = .ok (.aload_n 0, 1) := by decide +kernel
theorem dX12_put_333 : decode cX12_put 333 = .ok (.getfield 216, 3) := by decide +kernel
theorem dX12_put_336 : decode cX12_put 336 = .ok (.iload 7, 2) := by decide +kernel
theorem dX12_put_338 : decode cX12_put 338 = .ok (.iload_n 3, 1) := by decide +kernel
theorem dX12_put_339 : decode cX12_put 339 = .ok (.iastore, 1) := by decide +kernel
theorem dX12_put_340 : decode cX12_put 340 = .ok (.iconst 0, 1) := by decide +kernel
theorem dX12_put_341 : decode cX12_put 341 = .ok (.istore 8, 2) := by decide +kernel
theorem dX12_put_343 : decode cX12_put 343 = .ok (.iload 8, 2) := by decide +kernel
theorem dX12_put_345 : decode cX12_put 345 = .ok (.iload_n 3, 1) := by decide +kernel
theorem dX12_put_346 : decode cX12_put 346 = .ok (.if_icmp .ge 29, 3) := by decide +kernel
theorem dX12_put_349 : decode cX12_put 349 = .ok (.aload_n 0, 1) := by decide +kernel
theorem dX12_put_350 : decode cX12_put 350 = .ok (.getfield 213, 3) := by decide +kernel
theorem dX12_put_353 : decode cX12_put 353 = .ok (.bipush 70, 2) := by decide +kernel
theorem dX12_put_355 : decode cX12_put 355 = .ok (.iload 7, 2) := by decide +kernel
theorem dX12_put_357 : decode cX12_put 357 = .ok (.imul, 1) := by decide +kernel
theorem dX12_put_358 : decode cX12_put 358 = .ok (.iload 8, 2) := by decide +kernel
theorem dX12_put_360 : decode cX12_put 360 = .ok (.iadd, 1) := by decide +kernel
theorem dX12_put_361 : decode cX12_put 361 = .ok (.aload_n 0, 1) := by decide +kernel
theorem dX12_put_362 : decode cX12_put 362 = .ok (.getfield 192, 3) := by decide +kernel
theorem dX12_put_365 : decode cX12_put 365 = .ok (.iload 8, 2) := by decide +kernel
theorem dX12_put_367 : decode cX12_put 367 = .ok (.iaload, 1) := by decide +kernel
theorem dX12_put_368 : decode cX12_put 368 = .ok (.iastore, 1) := by decide +kernel
theorem dX12_put_369 : decode cX12_put 369 = .ok (.iinc 8 1, 3) := by decide +kernel
theorem dX12_put_372 : decode cX12_put 372 = .ok (.goto (-29), 3) := by decide +kernel
theorem dX12_put_375 : decode cX12_put 375 = .ok (.aload_n 0, 1) := by decide +kernel
theorem dX12_put_376 : decode cX12_put 376 = .ok (.getfield 222, 3) := by decide +kernel
theorem dX12_put_379 : decode cX12_put 379 = .ok (.bipush 20, 2) := by decide +kernel
theorem dX12_put_381 : decode cX12_put 381 = .ok (.iload_n 1, 1) := by decide +kernel
theorem dX12_put_382 : decode cX12_put 382 = .ok (.imul, 1) := by decide +kernel
theorem dX12_put_383 : decode cX12_put 383 = .ok (.iload 7, 2) := by decide +kernel
theorem dX12_put_385 : decode cX12_put 385 = .ok (.iadd, 1) := by decide +kernel
theorem dX12_put_386 : decode cX12_put 386 = .ok (.iload 4, 2) := by decide +kernel
theorem dX12_put_388 : decode cX12_put 388 = .ok (.iastore, 1) := by decide +kernel
theorem dX12_put_389 : decode cX12_put 389 = .ok (.iconst 0, 1) := by decide +kernel
theorem dX12_put_390 : decode cX12_put 390 = .ok (.istore 8, 2) := by decide +kernel
theorem dX12_put_392 : decode cX12_put 392 = .ok (.iload 8, 2) := by decide +kernel
theorem dX12_put_394 : decode cX12_put 394 = .ok (.iload 4, 2) := by decide +kernel
theorem dX12_put_396 : decode cX12_put 396 = .ok (.if_icmp .ge 38, 3) := by decide +kernel
theorem dX12_put_399 : decode cX12_put 399 = .ok (.aload_n 0, 1) := by decide +kernel
theorem dX12_put_400 : decode cX12_put 400 = .ok (.getfield 219, 3) := by decide +kernel
theorem dX12_put_403 : decode cX12_put 403 = .ok (.bipush 60, 2) := by decide +kernel
theorem dX12_put_405 : decode cX12_put 405 = .ok (.bipush 20, 2) := by decide +kernel
theorem dX12_put_407 : decode cX12_put 407 = .ok (.iload_n 1, 1) := by decide +kernel
theorem dX12_put_408 : decode cX12_put 408 = .ok (.imul, 1) := by decide +kernel
theorem dX12_put_409 : decode cX12_put 409 = .ok (.iload 7, 2) := by decide +kernel
theorem dX12_put_411 : decode cX12_put 411 = .ok (.iadd, 1) := by decide +kernel
theorem dX12_put_412 : decode cX12_put 412 = .ok (.imul, 1) := by decide +kernel
theorem dX12_put_413 : decode cX12_put 413 = .ok (.iload 8, 2) := by decide +kernel
theorem dX12_put_415 : decode cX12_put 415 = .ok (.iadd, 1) := by decide +kernel
theorem dX12_put_416 : decode cX12_put 416 = .ok (.aload_n 0, 1) := by decide +kernel
theorem dX12_put_417 : decode cX12_put 417 = .ok (.getfield 192, 3) := by decide +kernel
theorem dX12_put_420 : decode cX12_put 420 = .ok (.iload_n 3, 1) := by decide +kernel
theorem dX12_put_421 : decode cX12_put 421 = .ok (.iconst 1, 1) := by decide +kernel
theorem dX12_put_422 : decode cX12_put 422 = .ok (.iadd, 1) := by decide +kernel
theorem dX12_put_423 : decode cX12_put 423 = .ok (.iload 8, 2) := by decide +kernel
theorem dX12_put_425 : decode cX12_put 425 = .ok (.iadd, 1) := by decide +kernel
theorem dX12_put_426 : decode cX12_put 426 = .ok (.iaload, 1) := by decide +kernel
theorem dX12_put_427 : decode cX12_put 427 = .ok (.iastore, 1) := by decide +kernel
theorem dX12_put_428 : decode cX12_put 428 = .ok (.iinc 8 1, 3) := by decide +kernel
theorem dX12_put_431 : decode cX12_put 431 = .ok (.goto (-39), 3) := by decide +kernel
theorem dX12_put_434 : decode cX12_put 434 = .ok (.iconst 1, 1) := by decide +kernel
theorem dX12_put_435 : decode cX12_put 435 = .ok (.ireturn, 1) := by decide +kernel
theorem dX12_putAliases_0 : decode cX12_putAliases 0 = .ok (.iconst 0, 1) := by decide +kernel
theorem dX12_putAliases_1 : decode cX12_putAliases 1 = .ok (.istore_n 1, 1) := by decide +kernel
theorem dX12_putAliases_2 : decode cX12_putAliases 2 = .ok (.iload_n 1, 1) := by decide +kernel
theorem dX12_putAliases_3 : decode cX12_putAliases 3 = .ok (.bipush 20, 2) := by decide +kernel
theorem dX12_putAliases_5 : decode cX12_putAliases 5 = .ok (.if_icmp .ge 16, 3) := by decide +kernel
theorem dX12_putAliases_8 : decode cX12_putAliases 8 = .ok (.aload_n 0, 1) := by decide +kernel
theorem dX12_putAliases_9 : decode cX12_putAliases 9 = .ok (.getfield 255, 3) := by decide +kernel
theorem dX12_putAliases_12 : decode cX12_putAliases 12 = .ok (.iload_n 1, 1) := by decide +kernel
theorem dX12_putAliases_13 : decode cX12_putAliases 13 = .ok (.iconst 0, 1) := by decide +kernel
theorem dX12_putAliases_14 : decode cX12_putAliases 14 = .ok (.bastore, 1) := by decide +kernel
theorem dX12_putAliases_15 : decode cX12_putAliases 15 = .ok (.iinc 1 1, 3) := by decide +kernel
theorem dX12_putAliases_18 : decode cX12_putAliases 18 = .ok (.goto (-16), 3) := by decide +kernel
theorem dX12_putAliases_21 : decode cX12_putAliases 21 = .ok (.iconst 1, 1) := by decide +kernel
theorem dX12_putAliases_22 : decode cX12_putAliases 22 = .ok (.istore_n 1, 1) := by decide +kernel
theorem dX12_putAliases_23 : decode cX12_putAliases 23 = .ok (.iload_n 1, 1) := by decide +kernel
theorem dX12_putAliases_24 : decode cX12_putAliases 24 = .ok (.ifCond .eq 124, 3) := by decide +kernel
theorem dX12_putAliases_27 : decode cX12_putAliases 27 = .ok (.aload_n 0, 1) := by decide +kernel
theorem dX12_putAliases_28 : decode cX12_putAliases 28 = .ok (.invokevirtual 550, 3) := by decide +kernel
theorem dX12_putAliases_31 : decode cX12_putAliases 31 = .ok (.ifCond .eq 117, 3) := by decide +kernel
theorem dX12_putAliases_34 : decode cX12_putAliases 34 = .ok (.iconst 0, 1) := by decide +kernel
theorem dX12_putAliases_35 : decode cX12_putAliases 35 = .ok (.istore_n 1, 1) := by decide +kernel
theorem dX12_putAliases_36 : decode cX12_putAliases 36 = .ok (.aload_n 0, 1) := by decide +kernel
theorem dX12_putAliases_37 : decode cX12_putAliases 37 = .ok (.getfield 522, 3) := by decide +kernel
theorem dX12_putAliases_40 : decode cX12_putAliases 40 = .ok (.ifCond .le 11, 3) := by decide +kernel
theorem dX12_putAliases_43 : decode cX12_putAliases 43 = .ok (.aload_n 0, 1) := by decide +kernel
theorem dX12_putAliases_44 : decode cX12_putAliases 44 = .ok (.iconst 0, 1) := by decide +kernel
theorem dX12_putAliases_45 : decode cX12_putAliases 45 = .ok (.invokevirtual 553, 3) := by decide +kernel
theorem dX12_putAliases_48 : decode cX12_putAliases 48 = .ok (.goto 4, 3) := by decide +kernel
theorem dX12_putAliases_51 : decode cX12_putAliases 51 = .ok (.lconst 0, 1) := by decide +kernel
theorem dX12_putAliases_52 : decode cX12_putAliases 52 = .ok (.lstore_n 2, 1) := by decide +kernel
theorem dX12_putAliases_53 : decode cX12_putAliases 53 = .ok (.iconst 0, 1) := by decide +kernel
theorem dX12_putAliases_54 : decode cX12_putAliases 54 = .ok (.istore 4, 2) := by decide +kernel
theorem dX12_putAliases_56 : decode cX12_putAliases 56 = .ok (.iload 4, 2) := by decide +kernel
theorem dX12_putAliases_58 : decode cX12_putAliases 58 = .ok (.aload_n 0, 1) := by decide +kernel
theorem dX12_putAliases_59 : decode cX12_putAliases 59 = .ok (.getfield 225, 3) := by decide +kernel
theorem dX12_putAliases_62 : decode cX12_putAliases 62 = .ok (.iconst 2, 1) := by decide +kernel
theorem dX12_putAliases_63 : decode cX12_putAliases 63 = .ok (.iaload, 1) := by decide +kernel
theorem dX12_putAliases_64 : decode cX12_putAliases 64 = .ok (.if_icmp .ge 81, 3) := by decide +kernel
theorem dX12_putAliases_67 : decode cX12_putAliases 67 = .ok (.lload_n 2, 1) := by decide +kernel
theorem dX12_putAliases_68 : decode cX12_putAliases 68 = .ok (.lconst 0, 1) := by decide +kernel
theorem dX12_putAliases_69 : decode cX12_putAliases 69 = .ok (.lcmp, 1) := by decide +kernel
theorem dX12_putAliases_70 : decode cX12_putAliases 70 = .ok (.ifCond .eq 75, 3) := by decide +kernel
theorem dX12_putAliases_73 : decode cX12_putAliases 73 = .ok (.iload_n 1, 1) := by decide +kernel
theorem dX12_putAliases_74 : decode cX12_putAliases 74 = .ok (.ifCond .ne 71, 3) := by decide +kernel
theorem dX12_putAliases_77 : decode cX12_putAliases 77 = .ok (.aload_n 0, 1) := by decide +kernel
theorem dX12_putAliases_78 : decode cX12_putAliases 78 = .ok (.getfield 210, 3) := by decide +kernel
theorem dX12_putAliases_81 : decode cX12_putAliases 81 = .ok (.bipush 40, 2) := by decide +kernel
theorem dX12_putAliases_83 : decode cX12_putAliases 83 = .ok (.iload 4, 2) := by decide +kernel
theorem dX12_putAliases_85 : decode cX12_putAliases 85 = .ok (.iadd, 1) := by decide +kernel
theorem dX12_putAliases_86 : decode cX12_putAliases 86 = .ok (.laload, 1) := by decide +kernel
theorem dX12_putAliases_87 : decode cX12_putAliases 87 = .ok (.lload_n 2, 1) := by decide +kernel
theorem dX12_putAliases_88 : decode cX12_putAliases 88 = .ok (.lcmp, 1) := by decide +kernel
theorem dX12_putAliases_89 : decode cX12_putAliases 89 = .ok (.ifCond .eq 6, 3) := by decide +kernel
theorem dX12_putAliases_92 : decode cX12_putAliases 92 = .ok (.goto 47, 3) := by decide +kernel
theorem dX12_putAliases_95 : decode cX12_putAliases 95 = .ok (.iconst 1, 1) := by decide +kernel
theorem dX12_putAliases_96 : decode cX12_putAliases 96 = .ok (.istore_n 1, 1) := by decide +kernel
theorem dX12_putAliases_97 : decode cX12_putAliases 97 = .ok (.aload_n 0, 1) := by decide +kernel
theorem dX12_putAliases_98 : decode cX12_putAliases 98 = .ok (.getfield 255, 3) := by decide +kernel
theorem dX12_putAliases_101 : decode cX12_putAliases 101 = .ok (.iload 4, 2) := by decide +kernel
theorem dX12_putAliases_103 : decode cX12_putAliases 103 = .ok (.baload, 1) := by decide +kernel
theorem dX12_putAliases_104 : decode cX12_putAliases 104 = .ok (.ifCond .eq 11, 3) := by decide +kernel
theorem dX12_putAliases_107 : decode cX12_putAliases 107 = .ok (.aload_n 0, 1) := by decide +kernel
theorem dX12_putAliases_108 : decode cX12_putAliases 108 = .ok (.iconst 3, 1) := by decide +kernel
theorem dX12_putAliases_109 : decode cX12_putAliases 109 = .ok (.iconst 0, 1) := by decide +kernel
theorem dX12_putAliases_110 : decode cX12_putAliases 110 = .ok (.iconst 0, 1) := by decide +kernel
theorem dX12_putAliases_111 : decode cX12_putAliases 111 = .ok (.iconst (-1), 1) := by decide +kernel
theorem dX12_putAliases_112 : decode cX12_putAliases 112 = .ok (.invokevirtual 557, 3) := by decide +kernel
theorem dX12_putAliases_115 : decode cX12_putAliases 115 = .ok (.aload_n 0, 1) := by decide +kernel
theorem dX12_putAliases_116 : decode cX12_putAliases 116 = .ok (.getfield 255, 3) := by decide +kernel
theorem dX12_putAliases_119 : decode cX12_putAliases 119 = .ok (.iload 4, 2) := by decide +kernel
theorem dX12_putAliases_121 : decode cX12_putAliases 121 = .ok (.iconst 1, 1) := by decide +kernel
theorem dX12_putAliases_122 : decode cX12_putAliases 122 = .ok (.bastore, 1) := by decide +kernel
theorem dX12_putAliases_123 : decode cX12_putAliases 123 = .ok (.aload_n 0, 1) := by decide +kernel
theorem dX12_putAliases_124 : decode cX12_putAliases 124 = .ok (.invokevirtual 550, 3) := by decide +kernel
theorem dX12_putAliases_127 : decode cX12_putAliases 127 = .ok (.ifCond .eq 12, 3) := by decide +kernel
theorem dX12_putAliases_130 : decode cX12_putAliases 130 = .ok (.aload_n 0, 1) := by decide +kernel
theorem dX12_putAliases_131 : decode cX12_putAliases 131 = .ok (.bipush 40, 2) := by decide +kernel
theorem dX12_putAliases_133 : decode cX12_putAliases 133 = .ok (.iload 4, 2) := by decide +kernel
theorem dX12_putAliases_135 : decode cX12_putAliases 135 = .ok (.iadd, 1) := by decide +kernel
theorem dX12_putAliases_136 : decode cX12_putAliases 136 = .ok (.invokevirtual 561, 3) := by decide +kernel
theorem dX12_putAliases_139 : decode cX12_putAliases 139 = .ok (.iinc 4 1, 3) := by decide +kernel
theorem dX12_putAliases_142 : decode cX12_putAliases 142 = .ok (.goto (-86), 3) := by decide +kernel
theorem dX12_putAliases_145 : decode cX12_putAliases 145 = .ok (.goto (-122), 3) := by decide +kernel
theorem dX12_putAliases_148 : decode cX12_putAliases 148 = .ok (.return_, 1) := by decide +kernel
theorem dX12_readPlace_0 : decode cX12_readPlace 0 = .ok (.aload_n 0, 1) := by decide +kernel
theorem dX12_readPlace_1 : decode cX12_readPlace 1 = .ok (.invokevirtual 397, 3) := by decide +kernel
theorem dX12_readPlace_4 : decode cX12_readPlace 4 = .ok (.ifCond .eq 82, 3) := by decide +kernel
theorem dX12_readPlace_7 : decode cX12_readPlace 7 = .ok (.aload_n 0, 1) := by decide +kernel
theorem dX12_readPlace_8 : decode cX12_readPlace 8 = .ok (.getstatic 105, 3) := by decide +kernel
theorem dX12_readPlace_11 : decode cX12_readPlace 11 = .ok (.invokevirtual 411, 3) := by decide +kernel
theorem dX12_readPlace_14 : decode cX12_readPlace 14 = .ok (.ifCond .ne 72, 3) := by decide +kernel
theorem dX12_readPlace_17 : decode cX12_readPlace 17 = .ok (.aload_n 0, 1) := by decide +kernel
theorem dX12_readPlace_18 : decode cX12_readPlace 18 = .ok (.getstatic 59, 3) := by decide +kernel
theorem dX12_readPlace_21 : decode cX12_readPlace 21 = .ok (.invokevirtual 411, 3) := by decide +kernel
theorem dX12_readPlace_24 : decode cX12_readPlace 24 = .ok (.ifCond .eq 12, 3) := by decide +kernel
theorem dX12_readPlace_27 : decode cX12_readPlace 27 = .ok (.aload_n 0, 1) := by decide +kernel
theorem dX12_readPlace_28 : decode cX12_readPlace 28 = .ok (.iload_n 1, 1) := by decide +kernel
theorem dX12_readPlace_29 : decode cX12_readPlace 29 = .ok (.iload_n 2, 1) := by decide +kernel
theorem dX12_readPlace_30 : decode cX12_readPlace 30 = .ok (.invokevirtual 434, 3) := by decide +kernel
theorem dX12_readPlace_33 : decode cX12_readPlace 33 = .ok (.goto (-33), 3) := by decide +kernel
theorem dX12_readPlace_36 : decode cX12_readPlace 36 = .ok (.aload_n 0, 1) := by decide +kernel
theorem dX12_readPlace_37 : decode cX12_readPlace 37 = .ok (.getstatic 62, 3) := by decide +kernel
theorem dX12_readPlace_40 : decode cX12_readPlace 40 = .ok (.invokevirtual 411, 3) := by decide +kernel
theorem dX12_readPlace_43 : decode cX12_readPlace 43 = .ok (.ifCond .eq 12, 3) := by decide +kernel
theorem dX12_readPlace_46 : decode cX12_readPlace 46 = .ok (.aload_n 0, 1) := by decide +kernel
theorem dX12_readPlace_47 : decode cX12_readPlace 47 = .ok (.iload_n 1, 1) := by decide +kernel
theorem dX12_readPlace_48 : decode cX12_readPlace 48 = .ok (.iload_n 2, 1) := by decide +kernel
theorem dX12_readPlace_49 : decode cX12_readPlace 49 = .ok (.invokevirtual 437, 3) := by decide +kernel
theorem dX12_readPlace_52 : decode cX12_readPlace 52 = .ok (.goto (-52), 3) := by decide +kernel
theorem dX12_readPlace_55 : decode cX12_readPlace 55 = .ok (.aload_n 0, 1) := by decide +kernel
theorem dX12_readPlace_56 : decode cX12_readPlace 56 = .ok (.getstatic 56, 3) := by decide +kernel
theorem dX12_readPlace_59 : decode cX12_readPlace 59 = .ok (.invokevirtual 411, 3) := by decide +kernel
theorem dX12_readPlace_62 : decode cX12_readPlace 62 = .ok (.ifCond .eq 12, 3) := by decide +kernel
theorem dX12_readPlace_65 : decode cX12_readPlace 65 = .ok (.aload_n 0, 1) := by decide +kernel
theorem dX12_readPlace_66 : decode cX12_readPlace 66 = .ok (.iload_n 1, 1) := by decide +kernel
theorem dX12_readPlace_67 : decode cX12_readPlace 67 = .ok (.iload_n 2, 1) := by decide +kernel
theorem dX12_readPlace_68 : decode cX12_readPlace 68 = .ok (.invokevirtual 440, 3) := by decide +kernel
theorem dX12_readPlace_71 : decode cX12_readPlace 71 = .ok (.goto (-71), 3) := by decide +kernel
theorem dX12_readPlace_74 : decode cX12_readPlace 74 = .ok (.aload_n 0, 1) := by decide +kernel
theorem dX12_readPlace_75 : decode cX12_readPlace 75 = .ok (.iconst 1, 1) := by decide +kernel
theorem dX12_readPlace_76 : decode cX12_readPlace 76 = .ok (.aload_n 0, 1) := by decide +kernel
theorem dX12_readPlace_77 : decode cX12_readPlace 77 = .ok (.getfield 353, 3) := by decide +kernel
theorem dX12_readPlace_80 : decode cX12_readPlace 80 = .ok (.invokevirtual 407, 3) := by decide +kernel
theorem dX12_readPlace_83 : decode cX12_readPlace 83 = .ok (.goto (-83), 3) := by decide +kernel
theorem dX12_readPlace_86 : decode cX12_readPlace 86 = .ok (.aload_n 0, 1) := by decide +kernel
theorem dX12_readPlace_87 : decode cX12_readPlace 87 = .ok (.getstatic 105, 3) := by decide +kernel
theorem dX12_readPlace_90 : decode cX12_readPlace 90 = .ok (.invokevirtual 424, 3) := by decide +kernel
theorem dX12_readPlace_93 : decode cX12_readPlace 93 = .ok (.aload_n 0, 1) := by decide +kernel
theorem dX12_readPlace_94 : decode cX12_readPlace 94 = .ok (.bipush 59, 2) := by decide +kernel
theorem dX12_readPlace_96 : decode cX12_readPlace 96 = .ok (.invokevirtual 443, 3) := by decide +kernel
theorem dX12_readPlace_99 : decode cX12_readPlace 99 = .ok (.return_, 1) := by decide +kernel
theorem dX12_record_0 : decode cX12_record 0 = .ok (.aload_n 0, 1) := by decide +kernel
theorem dX12_record_1 : decode cX12_record 1 = .ok (.iconst 0, 1) := by decide +kernel
theorem dX12_record_2 : decode cX12_record 2 = .ok (.putfield 1, 3) := by decide +kernel
theorem dX12_record_5 : decode cX12_record 5 = .ok (.aload_n 0, 1) := by decide +kernel
theorem dX12_record_6 : decode cX12_record 6 = .ok (.iload_n 1, 1) := by decide +kernel
theorem dX12_record_7 : decode cX12_record 7 = .ok (.invokevirtual 683, 3) := by decide +kernel
theorem dX12_record_10 : decode cX12_record 10 = .ok (.ifCond .eq 25, 3) := by decide +kernel
theorem dX12_record_13 : decode cX12_record 13 = .ok (.aload_n 0, 1) := by decide +kernel
theorem dX12_record_14 : decode cX12_record 14 = .ok (.iload_n 2, 1) := by decide +kernel
theorem dX12_record_15 : decode cX12_record 15 = .ok (.ifCond .lt 12, 3) := by decide +kernel
theorem dX12_record_18 : decode cX12_record 18 = .ok (.iload_n 2, 1) := by decide +kernel
theorem dX12_record_19 : decode cX12_record 19 = .ok (.iconst 2, 1) := by decide +kernel
theorem dX12_record_20 : decode cX12_record 20 = .ok (.if_icmp .gt 7, 3) := by decide +kernel
theorem dX12_record_23 : decode cX12_record 23 = .ok (.iconst 1, 1) := by decide +kernel
theorem dX12_record_24 : decode cX12_record 24 = .ok (.goto 4, 3) := by decide +kernel
theorem dX12_record_27 : decode cX12_record 27 = .ok (.iconst 0, 1) := by decide +kernel
theorem dX12_record_28 : decode cX12_record 28 = .ok (.iconst 2, 1) := by decide +kernel
theorem dX12_record_29 : decode cX12_record 29 = .ok (.invokevirtual 414, 3) := by decide +kernel
theorem dX12_record_32 : decode cX12_record 32 = .ok (.ifCond .ne 5, 3) := by decide +kernel
theorem dX12_record_35 : decode cX12_record 35 = .ok (.iconst 0, 1) := by decide +kernel
theorem dX12_record_36 : decode cX12_record 36 = .ok (.ireturn, 1) := by decide +kernel
theorem dX12_record_37 : decode cX12_record 37 = .ok (.iload_n 2, 1) := by decide +kernel
theorem dX12_record_38 : decode cX12_record 38 = .ok (.ifCond .ne 10, 3) := by decide +kernel
theorem dX12_record_41 : decode cX12_record 41 = .ok (.aload_n 0, 1) := by decide +kernel
theorem dX12_record_42 : decode cX12_record 42 = .ok (.getfield 282, 3) := by decide +kernel
theorem dX12_record_45 : decode cX12_record 45 = .ok (.iload_n 1, 1) := by decide +kernel
theorem dX12_record_46 : decode cX12_record 46 = .ok (.iaload, 1) := by decide +kernel
theorem dX12_record_47 : decode cX12_record 47 = .ok (.ireturn, 1) := by decide +kernel
theorem dX12_record_48 : decode cX12_record 48 = .ok (.iload_n 2, 1) := by decide +kernel
theorem dX12_record_49 : decode cX12_record 49 = .ok (.iconst 2, 1) := by decide +kernel
theorem dX12_record_50 : decode cX12_record 50 = .ok (.if_icmp .ne 10, 3) := by decide +kernel
theorem dX12_record_53 : decode cX12_record 53 = .ok (.aload_n 0, 1) := by decide +kernel
theorem dX12_record_54 : decode cX12_record 54 = .ok (.getfield 288, 3) := by decide +kernel
theorem dX12_record_57 : decode cX12_record 57 = .ok (.iload_n 1, 1) := by decide +kernel
theorem dX12_record_58 : decode cX12_record 58 = .ok (.iaload, 1) := by decide +kernel
theorem dX12_record_59 : decode cX12_record 59 = .ok (.ireturn, 1) := by decide +kernel
theorem dX12_record_60 : decode cX12_record 60 = .ok (.iconst 0, 1) := by decide +kernel
theorem dX12_record_61 : decode cX12_record 61 = .ok (.istore_n 3, 1) := by decide +kernel
theorem dX12_record_62 : decode cX12_record 62 = .ok (.aload_n 0, 1) := by decide +kernel
theorem dX12_record_63 : decode cX12_record 63 = .ok (.getfield 285, 3) := by decide +kernel
theorem dX12_record_66 : decode cX12_record 66 = .ok (.iload_n 1, 1) := by decide +kernel
theorem dX12_record_67 : decode cX12_record 67 = .ok (.iaload, 1) := by decide +kernel
theorem dX12_record_68 : decode cX12_record 68 = .ok (.istore 4, 2) := by decide +kernel
theorem dX12_record_70 : decode cX12_record 70 = .ok (.iload 4, 2) := by decide +kernel
theorem dX12_record_72 : decode cX12_record 72 = .ok (.ifCond .eq 28, 3) := by decide +kernel
theorem dX12_record_75 : decode cX12_record 75 = .ok (.iinc 3 1, 3) := by decide +kernel
theorem dX12_record_78 : decode cX12_record 78 = .ok (.aload_n 0, 1) := by decide +kernel
theorem dX12_record_79 : decode cX12_record 79 = .ok (.getfield 38, 3) := by decide +kernel
theorem dX12_record_82 : decode cX12_record 82 = .ok (.bipush 17, 2) := by decide +kernel
theorem dX12_record_84 : decode cX12_record 84 = .ok (.aload_n 0, 1) := by decide +kernel
theorem dX12_record_85 : decode cX12_record 85 = .ok (.getfield 282, 3) := by decide +kernel
theorem dX12_record_88 : decode cX12_record 88 = .ok (.iload_n 1, 1) := by decide +kernel
theorem dX12_record_89 : decode cX12_record 89 = .ok (.iaload, 1) := by decide +kernel
theorem dX12_record_90 : decode cX12_record 90 = .ok (.imul, 1) := by decide +kernel
theorem dX12_record_91 : decode cX12_record 91 = .ok (.iload 4, 2) := by decide +kernel
theorem dX12_record_93 : decode cX12_record 93 = .ok (.iadd, 1) := by decide +kernel
theorem dX12_record_94 : decode cX12_record 94 = .ok (.iaload, 1) := by decide +kernel
theorem dX12_record_95 : decode cX12_record 95 = .ok (.istore 4, 2) := by decide +kernel
theorem dX12_record_97 : decode cX12_record 97 = .ok (.goto (-27), 3) := by decide +kernel
theorem dX12_record_100 : decode cX12_record 100 = .ok (.iload_n 3, 1) := by decide +kernel
theorem dX12_record_101 : decode cX12_record 101 = .ok (.ireturn, 1) := by decide +kernel
theorem dX12_run_0 : decode cX12_run 0 = .ok (.aload_n 0, 1) := by decide +kernel
theorem dX12_run_1 : decode cX12_run 1 = .ok (.iconst 0, 1) := by decide +kernel
theorem dX12_run_2 : decode cX12_run 2 = .ok (.putfield 1, 3) := by decide +kernel
theorem dX12_run_5 : decode cX12_run 5 = .ok (.aload_n 0, 1) := by decide +kernel
theorem dX12_run_6 : decode cX12_run 6 = .ok (.iload_n 1, 1) := by decide +kernel
theorem dX12_run_7 : decode cX12_run 7 = .ok (.ifCond .lt 22, 3) := by decide +kernel
theorem dX12_run_10 : decode cX12_run 10 = .ok (.iload_n 1, 1) := by decide +kernel
theorem dX12_run_11 : decode cX12_run 11 = .ok (.aload_n 0, 1) := by decide +kernel
theorem dX12_run_12 : decode cX12_run 12 = .ok (.getfield 344, 3) := by decide +kernel
theorem dX12_run_15 : decode cX12_run 15 = .ok (.if_icmp .gt 14, 3) := by decide +kernel
theorem dX12_run_18 : decode cX12_run 18 = .ok (.iload_n 1, 1) := by decide +kernel
theorem dX12_run_19 : decode cX12_run 19 = .ok (.sipush 400, 3) := by decide +kernel
theorem dX12_run_22 : decode cX12_run 22 = .ok (.if_icmp .gt 7, 3) := by decide +kernel
theorem dX12_run_25 : decode cX12_run 25 = .ok (.iconst 1, 1) := by decide +kernel
theorem dX12_run_26 : decode cX12_run 26 = .ok (.goto 4, 3) := by decide +kernel
theorem dX12_run_29 : decode cX12_run 29 = .ok (.iconst 0, 1) := by decide +kernel
theorem dX12_run_30 : decode cX12_run 30 = .ok (.iconst 1, 1) := by decide +kernel
theorem dX12_run_31 : decode cX12_run 31 = .ok (.invokevirtual 414, 3) := by decide +kernel
theorem dX12_run_34 : decode cX12_run 34 = .ok (.ifCond .eq 25, 3) := by decide +kernel
theorem dX12_run_37 : decode cX12_run 37 = .ok (.aload_n 0, 1) := by decide +kernel
theorem dX12_run_38 : decode cX12_run 38 = .ok (.aload_n 0, 1) := by decide +kernel
theorem dX12_run_39 : decode cX12_run 39 = .ok (.getfield 616, 3) := by decide +kernel
theorem dX12_run_42 : decode cX12_run 42 = .ok (.bipush 40, 2) := by decide +kernel
theorem dX12_run_44 : decode cX12_run 44 = .ok (.if_icmp .ge 7, 3) := by decide +kernel
theorem dX12_run_47 : decode cX12_run 47 = .ok (.iconst 1, 1) := by decide +kernel
theorem dX12_run_48 : decode cX12_run 48 = .ok (.goto 4, 3) := by decide +kernel
theorem dX12_run_51 : decode cX12_run 51 = .ok (.iconst 0, 1) := by decide +kernel
theorem dX12_run_52 : decode cX12_run 52 = .ok (.iconst 2, 1) := by decide +kernel
theorem dX12_run_53 : decode cX12_run 53 = .ok (.invokevirtual 414, 3) := by decide +kernel
theorem dX12_run_56 : decode cX12_run 56 = .ok (.ifCond .ne 5, 3) := by decide +kernel
theorem dX12_run_59 : decode cX12_run 59 = .ok (.iconst 0, 1) := by decide +kernel
theorem dX12_run_60 : decode cX12_run 60 = .ok (.ireturn, 1) := by decide +kernel
theorem dX12_run_61 : decode cX12_run 61 = .ok (.iconst 0, 1) := by decide +kernel
