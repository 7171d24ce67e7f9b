theorem dX12_fine_12 : decode cX12_fine 12 = .ok (.ireturn, 1) := by decide +kernel
theorem dX12_go_0 : decode cX12_go 0 = .ok (.aload_n 0, 1) := by decide +kernel
theorem dX12_go_1 : decode cX12_go 1 = .ok (.getfield 350, 3) := by decide +kernel
theorem dX12_go_4 : decode cX12_go 4 = .ok (.aload_n 0, 1) := by decide +kernel
theorem dX12_go_5 : decode cX12_go 5 = .ok (.getfield 347, 3) := by decide +kernel
theorem dX12_go_8 : decode cX12_go 8 = .ok (.if_icmp .ge 44, 3) := by decide +kernel
theorem dX12_go_11 : decode cX12_go 11 = .ok (.aload_n 0, 1) := by decide +kernel
theorem dX12_go_12 : decode cX12_go 12 = .ok (.getfield 192, 3) := by decide +kernel
theorem dX12_go_15 : decode cX12_go 15 = .ok (.aload_n 0, 1) := by decide +kernel
theorem dX12_go_16 : decode cX12_go 16 = .ok (.getfield 350, 3) := by decide +kernel
theorem dX12_go_19 : decode cX12_go 19 = .ok (.iaload, 1) := by decide +kernel
theorem dX12_go_20 : decode cX12_go 20 = .ok (.bipush 32, 2) := by decide +kernel
theorem dX12_go_22 : decode cX12_go 22 = .ok (.if_icmp .eq 17, 3) := by decide +kernel
theorem dX12_go_25 : decode cX12_go 25 = .ok (.aload_n 0, 1) := by decide +kernel
theorem dX12_go_26 : decode cX12_go 26 = .ok (.getfield 192, 3) := by decide +kernel
theorem dX12_go_29 : decode cX12_go 29 = .ok (.aload_n 0, 1) := by decide +kernel
theorem dX12_go_30 : decode cX12_go 30 = .ok (.getfield 350, 3) := by decide +kernel
theorem dX12_go_33 : decode cX12_go 33 = .ok (.iaload, 1) := by decide +kernel
theorem dX12_go_34 : decode cX12_go 34 = .ok (.bipush 10, 2) := by decide +kernel
theorem dX12_go_36 : decode cX12_go 36 = .ok (.if_icmp .ne 16, 3) := by decide +kernel
theorem dX12_go_39 : decode cX12_go 39 = .ok (.aload_n 0, 1) := by decide +kernel
theorem dX12_go_40 : decode cX12_go 40 = .ok (.dup, 1) := by decide +kernel
theorem dX12_go_41 : decode cX12_go 41 = .ok (.getfield 350, 3) := by decide +kernel
theorem dX12_go_44 : decode cX12_go 44 = .ok (.iconst 1, 1) := by decide +kernel
theorem dX12_go_45 : decode cX12_go 45 = .ok (.iadd, 1) := by decide +kernel
theorem dX12_go_46 : decode cX12_go 46 = .ok (.putfield 350, 3) := by decide +kernel
theorem dX12_go_49 : decode cX12_go 49 = .ok (.goto (-49), 3) := by decide +kernel
theorem dX12_go_52 : decode cX12_go 52 = .ok (.aload_n 0, 1) := by decide +kernel
theorem dX12_go_53 : decode cX12_go 53 = .ok (.aload_n 0, 1) := by decide +kernel
theorem dX12_go_54 : decode cX12_go 54 = .ok (.getfield 350, 3) := by decide +kernel
theorem dX12_go_57 : decode cX12_go 57 = .ok (.putfield 353, 3) := by decide +kernel
theorem dX12_go_60 : decode cX12_go 60 = .ok (.aload_n 0, 1) := by decide +kernel
theorem dX12_go_61 : decode cX12_go 61 = .ok (.aload_n 0, 1) := by decide +kernel
theorem dX12_go_62 : decode cX12_go 62 = .ok (.getfield 350, 3) := by decide +kernel
theorem dX12_go_65 : decode cX12_go 65 = .ok (.invokevirtual 356, 3) := by decide +kernel
theorem dX12_go_68 : decode cX12_go 68 = .ok (.istore_n 1, 1) := by decide +kernel
theorem dX12_go_69 : decode cX12_go 69 = .ok (.aload_n 0, 1) := by decide +kernel
theorem dX12_go_70 : decode cX12_go 70 = .ok (.iconst 0, 1) := by decide +kernel
theorem dX12_go_71 : decode cX12_go 71 = .ok (.putfield 359, 3) := by decide +kernel
theorem dX12_go_74 : decode cX12_go 74 = .ok (.aload_n 0, 1) := by decide +kernel
theorem dX12_go_75 : decode cX12_go 75 = .ok (.lconst 0, 1) := by decide +kernel
theorem dX12_go_76 : decode cX12_go 76 = .ok (.putfield 362, 3) := by decide +kernel
theorem dX12_go_79 : decode cX12_go 79 = .ok (.aload_n 0, 1) := by decide +kernel
theorem dX12_go_80 : decode cX12_go 80 = .ok (.getfield 350, 3) := by decide +kernel
theorem dX12_go_83 : decode cX12_go 83 = .ok (.aload_n 0, 1) := by decide +kernel
theorem dX12_go_84 : decode cX12_go 84 = .ok (.getfield 347, 3) := by decide +kernel
theorem dX12_go_87 : decode cX12_go 87 = .ok (.if_icmp .lt 11, 3) := by decide +kernel
theorem dX12_go_90 : decode cX12_go 90 = .ok (.aload_n 0, 1) := by decide +kernel
theorem dX12_go_91 : decode cX12_go 91 = .ok (.iconst 0, 1) := by decide +kernel
theorem dX12_go_92 : decode cX12_go 92 = .ok (.putfield 365, 3) := by decide +kernel
theorem dX12_go_95 : decode cX12_go 95 = .ok (.goto 136, 3) := by decide +kernel
theorem dX12_go_98 : decode cX12_go 98 = .ok (.iload_n 1, 1) := by decide +kernel
theorem dX12_go_99 : decode cX12_go 99 = .ok (.invokestatic 368, 3) := by decide +kernel
theorem dX12_go_102 : decode cX12_go 102 = .ok (.ifCond .eq 10, 3) := by decide +kernel
theorem dX12_go_105 : decode cX12_go 105 = .ok (.aload_n 0, 1) := by decide +kernel
theorem dX12_go_106 : decode cX12_go 106 = .ok (.invokevirtual 372, 3) := by decide +kernel
theorem dX12_go_109 : decode cX12_go 109 = .ok (.goto 122, 3) := by decide +kernel
theorem dX12_go_112 : decode cX12_go 112 = .ok (.iload_n 1, 1) := by decide +kernel
theorem dX12_go_113 : decode cX12_go 113 = .ok (.invokestatic 375, 3) := by decide +kernel
theorem dX12_go_116 : decode cX12_go 116 = .ok (.ifCond .ne 25, 3) := by decide +kernel
theorem dX12_go_119 : decode cX12_go 119 = .ok (.iload_n 1, 1) := by decide +kernel
theorem dX12_go_120 : decode cX12_go 120 = .ok (.bipush 45, 2) := by decide +kernel
theorem dX12_go_122 : decode cX12_go 122 = .ok (.if_icmp .ne 37, 3) := by decide +kernel
theorem dX12_go_125 : decode cX12_go 125 = .ok (.aload_n 0, 1) := by decide +kernel
theorem dX12_go_126 : decode cX12_go 126 = .ok (.aload_n 0, 1) := by decide +kernel
theorem dX12_go_127 : decode cX12_go 127 = .ok (.getfield 350, 3) := by decide +kernel
theorem dX12_go_130 : decode cX12_go 130 = .ok (.iconst 1, 1) := by decide +kernel
theorem dX12_go_131 : decode cX12_go 131 = .ok (.iadd, 1) := by decide +kernel
theorem dX12_go_132 : decode cX12_go 132 = .ok (.invokevirtual 356, 3) := by decide +kernel
theorem dX12_go_135 : decode cX12_go 135 = .ok (.invokestatic 375, 3) := by decide +kernel
theorem dX12_go_138 : decode cX12_go 138 = .ok (.ifCond .eq 21, 3) := by decide +kernel
theorem dX12_go_141 : decode cX12_go 141 = .ok (.aload_n 0, 1) := by decide +kernel
theorem dX12_go_142 : decode cX12_go 142 = .ok (.iload_n 1, 1) := by decide +kernel
theorem dX12_go_143 : decode cX12_go 143 = .ok (.bipush 45, 2) := by decide +kernel
theorem dX12_go_145 : decode cX12_go 145 = .ok (.if_icmp .ne 7, 3) := by decide +kernel
theorem dX12_go_148 : decode cX12_go 148 = .ok (.iconst 1, 1) := by decide +kernel
theorem dX12_go_149 : decode cX12_go 149 = .ok (.goto 4, 3) := by decide +kernel
theorem dX12_go_152 : decode cX12_go 152 = .ok (.iconst 0, 1) := by decide +kernel
theorem dX12_go_153 : decode cX12_go 153 = .ok (.invokevirtual 378, 3) := by decide +kernel
theorem dX12_go_156 : decode cX12_go 156 = .ok (.goto 75, 3) := by decide +kernel
theorem dX12_go_159 : decode cX12_go 159 = .ok (.iload_n 1, 1) := by decide +kernel
theorem dX12_go_160 : decode cX12_go 160 = .ok (.bipush 34, 2) := by decide +kernel
theorem dX12_go_162 : decode cX12_go 162 = .ok (.if_icmp .ne 10, 3) := by decide +kernel
theorem dX12_go_165 : decode cX12_go 165 = .ok (.aload_n 0, 1) := by decide +kernel
theorem dX12_go_166 : decode cX12_go 166 = .ok (.invokevirtual 382, 3) := by decide +kernel
theorem dX12_go_169 : decode cX12_go 169 = .ok (.goto 62, 3) := by decide +kernel
theorem dX12_go_172 : decode cX12_go 172 = .ok (.iload_n 1, 1) := by decide +kernel
theorem dX12_go_173 : decode cX12_go 173 = .ok (.bipush 59, 2) := by decide +kernel
theorem dX12_go_175 : decode cX12_go 175 = .ok (.if_icmp .eq 21, 3) := by decide +kernel
theorem dX12_go_178 : decode cX12_go 178 = .ok (.iload_n 1, 1) := by decide +kernel
theorem dX12_go_179 : decode cX12_go 179 = .ok (.bipush 40, 2) := by decide +kernel
theorem dX12_go_181 : decode cX12_go 181 = .ok (.if_icmp .eq 15, 3) := by decide +kernel
theorem dX12_go_184 : decode cX12_go 184 = .ok (.iload_n 1, 1) := by decide +kernel
theorem dX12_go_185 : decode cX12_go 185 = .ok (.bipush 41, 2) := by decide +kernel
theorem dX12_go_187 : decode cX12_go 187 = .ok (.if_icmp .eq 9, 3) := by decide +kernel
theorem dX12_go_190 : decode cX12_go 190 = .ok (.iload_n 1, 1) := by decide +kernel
theorem dX12_go_191 : decode cX12_go 191 = .ok (.bipush 44, 2) := by decide +kernel
theorem dX12_go_193 : decode cX12_go 193 = .ok (.if_icmp .ne 7, 3) := by decide +kernel
theorem dX12_go_196 : decode cX12_go 196 = .ok (.iconst 1, 1) := by decide +kernel
theorem dX12_go_197 : decode cX12_go 197 = .ok (.goto 4, 3) := by decide +kernel
theorem dX12_go_200 : decode cX12_go 200 = .ok (.iconst 0, 1) := by decide +kernel
theorem dX12_go_201 : decode cX12_go 201 = .ok (.istore_n 2, 1) := by decide +kernel
theorem dX12_go_202 : decode cX12_go 202 = .ok (.aload_n 0, 1) := by decide +kernel
theorem dX12_go_203 : decode cX12_go 203 = .ok (.iload_n 2, 1) := by decide +kernel
theorem dX12_go_204 : decode cX12_go 204 = .ok (.ifCond .eq 8, 3) := by decide +kernel
theorem dX12_go_207 : decode cX12_go 207 = .ok (.bipush 6, 2) := by decide +kernel
theorem dX12_go_209 : decode cX12_go 209 = .ok (.goto 4, 3) := by decide +kernel
theorem dX12_go_212 : decode cX12_go 212 = .ok (.iconst 1, 1) := by decide +kernel
theorem dX12_go_213 : decode cX12_go 213 = .ok (.putfield 365, 3) := by decide +kernel
theorem dX12_go_216 : decode cX12_go 216 = .ok (.aload_n 0, 1) := by decide +kernel
theorem dX12_go_217 : decode cX12_go 217 = .ok (.iload_n 1, 1) := by decide +kernel
theorem dX12_go_218 : decode cX12_go 218 = .ok (.putfield 359, 3) := by decide +kernel
theorem dX12_go_221 : decode cX12_go 221 = .ok (.aload_n 0, 1) := by decide +kernel
theorem dX12_go_222 : decode cX12_go 222 = .ok (.dup, 1) := by decide +kernel
theorem dX12_go_223 : decode cX12_go 223 = .ok (.getfield 350, 3) := by decide +kernel
theorem dX12_go_226 : decode cX12_go 226 = .ok (.iconst 1, 1) := by decide +kernel
theorem dX12_go_227 : decode cX12_go 227 = .ok (.iadd, 1) := by decide +kernel
theorem dX12_go_228 : decode cX12_go 228 = .ok (.putfield 350, 3) := by decide +kernel
theorem dX12_go_231 : decode cX12_go 231 = .ok (.return_, 1) := by decide +kernel
theorem dX12_init_0 : decode cX12_init 0 = .ok (.aload_n 0, 1) := by decide +kernel
theorem dX12_init_1 : decode cX12_init 1 = .ok (.invokespecial 46, 3) := by decide +kernel
theorem dX12_init_4 : decode cX12_init 4 = .ok (.aload_n 0, 1) := by decide +kernel
theorem dX12_init_5 : decode cX12_init 5 = .ok (.bipush 22, 2) := by decide +kernel
theorem dX12_init_7 : decode cX12_init 7 = .ok (.newarray .long, 2) := by decide +kernel
theorem dX12_init_9 : decode cX12_init 9 = .ok (.dup, 1) := by decide +kernel
theorem dX12_init_10 : decode cX12_init 10 = .ok (.iconst 0, 1) := by decide +kernel
theorem dX12_init_11 : decode cX12_init 11 = .ok (.getstatic 52, 3) := by decide +kernel
theorem dX12_init_14 : decode cX12_init 14 = .ok (.lastore, 1) := by decide +kernel
theorem dX12_init_15 : decode cX12_init 15 = .ok (.dup, 1) := by decide +kernel
theorem dX12_init_16 : decode cX12_init 16 = .ok (.iconst 1, 1) := by decide +kernel
theorem dX12_init_17 : decode cX12_init 17 = .ok (.getstatic 56, 3) := by decide +kernel
theorem dX12_init_20 : decode cX12_init 20 = .ok (.lastore, 1) := by decide +kernel
theorem dX12_init_21 : decode cX12_init 21 = .ok (.dup, 1) := by decide +kernel
theorem dX12_init_22 : decode cX12_init 22 = .ok (.iconst 2, 1) := by decide +kernel
theorem dX12_init_23 : decode cX12_init 23 = .ok (.getstatic 59, 3) := by decide +kernel
theorem dX12_init_26 : decode cX12_init 26 = .ok (.lastore, 1) := by decide +kernel
theorem dX12_init_27 : decode cX12_init 27 = .ok (.dup, 1) := by decide +kernel
theorem dX12_init_28 : decode cX12_init 28 = .ok (.iconst 3, 1) := by decide +kernel
theorem dX12_init_29 : decode cX12_init 29 = .ok (.getstatic 62, 3) := by decide +kernel
theorem dX12_init_32 : decode cX12_init 32 = .ok (.lastore, 1) := by decide +kernel
theorem dX12_init_33 : decode cX12_init 33 = .ok (.dup, 1) := by decide +kernel
theorem dX12_init_34 : decode cX12_init 34 = .ok (.iconst 4, 1) := by decide +kernel
theorem dX12_init_35 : decode cX12_init 35 = .ok (.ldc 65, 2) := by decide +kernel
theorem dX12_init_37 : decode cX12_init 37 = .ok (.invokestatic 67, 3) := by decide +kernel
theorem dX12_init_40 : decode cX12_init 40 = .ok (.lastore, 1) := by decide +kernel
theorem dX12_init_41 : decode cX12_init 41 = .ok (.dup, 1) := by decide +kernel
theorem dX12_init_42 : decode cX12_init 42 = .ok (.iconst 5, 1) := by decide +kernel
theorem dX12_init_43 : decode cX12_init 43 = .ok (.ldc 71, 2) := by decide +kernel
theorem dX12_init_45 : decode cX12_init 45 = .ok (.invokestatic 67, 3) := by decide +kernel
theorem dX12_init_48 : decode cX12_init 48 = .ok (.lastore, 1) := by decide +kernel
theorem dX12_init_49 : decode cX12_init 49 = .ok (.dup, 1) := by decide +kernel
theorem dX12_init_50 : decode cX12_init 50 = .ok (.bipush 6, 2) := by decide +kernel
theorem dX12_init_52 : decode cX12_init 52 = .ok (.getstatic 73, 3) := by decide +kernel
theorem dX12_init_55 : decode cX12_init 55 = .ok (.lastore, 1) := by decide +kernel
theorem dX12_init_56 : decode cX12_init 56 = .ok (.dup, 1) := by decide +kernel
theorem dX12_init_57 : decode cX12_init 57 = .ok (.bipush 7, 2) := by decide +kernel
theorem dX12_init_59 : decode cX12_init 59 = .ok (.getstatic 76, 3) := by decide +kernel
theorem dX12_init_62 : decode cX12_init 62 = .ok (.lastore, 1) := by decide +kernel
theorem dX12_init_63 : decode cX12_init 63 = .ok (.dup, 1) := by decide +kernel
theorem dX12_init_64 : decode cX12_init 64 = .ok (.bipush 8, 2) := by decide +kernel
theorem dX12_init_66 : decode cX12_init 66 = .ok (.ldc 79, 2) := by decide +kernel
theorem dX12_init_68 : decode cX12_init 68 = .ok (.invokestatic 67, 3) := by decide +kernel
theorem dX12_init_71 : decode cX12_init 71 = .ok (.lastore, 1) := by decide +kernel
theorem dX12_init_72 : decode cX12_init 72 = .ok (.dup, 1) := by decide +kernel
theorem dX12_init_73 : decode cX12_init 73 = .ok (.bipush 9, 2) := by decide +kernel
theorem dX12_init_75 : decode cX12_init 75 = .ok (.ldc 81, 2) := by decide +kernel
theorem dX12_init_77 : decode cX12_init 77 = .ok (.invokestatic 67, 3) := by decide +kernel
theorem dX12_init_80 : decode cX12_init 80 = .ok (.lastore, 1) := by decide +kernel
theorem dX12_init_81 : decode cX12_init 81 = .ok (.dup, 1) := by decide +kernel
theorem dX12_init_82 : decode cX12_init 82 = .ok (.bipush 10, 2) := by decide +kernel
theorem dX12_init_84 : decode cX12_init 84 = .ok (.getstatic 83, 3) := by decide +kernel
theorem dX12_init_87 : decode cX12_init 87 = .ok (.lastore, 1) := by decide +kernel
theorem dX12_init_88 : decode cX12_init 88 = .ok (.dup, 1) := by decide +kernel
theorem dX12_init_89 : decode cX12_init 89 = .ok (.bipush 11, 2) := by decide +kernel
theorem dX12_init_91 : decode cX12_init 91 = .ok (.ldc 86, 2) := by decide +kernel
theorem dX12_init_93 : decode cX12_init 93 = .ok (.invokestatic 67, 3) := by decide +kernel
theorem dX12_init_96 : decode cX12_init 96 = .ok (.lastore, 1) := by decide +kernel
theorem dX12_init_97 : decode cX12_init 97 = .ok (.dup, 1) := by decide +kernel
theorem dX12_init_98 : decode cX12_init 98 = .ok (.bipush 12, 2) := by decide +kernel
theorem dX12_init_100 : decode cX12_init 100 = .ok (.getstatic 88, 3) := by decide +kernel
theorem dX12_init_103 : decode cX12_init 103 = .ok (.lastore, 1) := by decide +kernel
theorem dX12_init_104 : decode cX12_init 104 = .ok (.dup, 1) := by decide +kernel
theorem dX12_init_105 : decode cX12_init 105 = .ok (.bipush 13, 2) := by decide +kernel
theorem dX12_init_107 : decode cX12_init 107 = .ok (.ldc 91, 2) := by decide +kernel
theorem dX12_init_109 : decode cX12_init 109 = .ok (.invokestatic 67, 3) := by decide +kernel
theorem dX12_init_112 : decode cX12_init 112 = .ok (.lastore, 1) := by decide +kernel
theorem dX12_init_113 : decode cX12_init 113 = .ok (.dup, 1) := by decide +kernel
theorem dX12_init_114 : decode cX12_init 114 = .ok (.bipush 14, 2) := by decide +kernel
theorem dX12_init_116 : decode cX12_init 116 = .ok (.ldc 93, 2) := by decide +kernel
theorem dX12_init_118 : decode cX12_init 118 = .ok (.invokestatic 67, 3) := by decide +kernel
theorem dX12_init_121 : decode cX12_init 121 = .ok (.lastore, 1) := by decide +kernel
theorem dX12_init_122 : decode cX12_init 122 = .ok (.dup, 1) := by decide +kernel
theorem dX12_init_123 : decode cX12_init 123 = .ok (.bipush 15, 2) := by decide +kernel
theorem dX12_init_125 : decode cX12_init 125 = .ok (.ldc 95, 2) := by decide +kernel
theorem dX12_init_127 : decode cX12_init 127 = .ok (.invokestatic 67, 3) := by decide +kernel
theorem dX12_init_130 : decode cX12_init 130 = .ok (.lastore, 1) := by decide +kernel
theorem dX12_init_131 : decode cX12_init 131 = .ok (.dup, 1) := by decide +kernel
theorem dX12_init_132 : decode cX12_init 132 = .ok (.bipush 16, 2) := by decide +kernel
theorem dX12_init_134 : decode cX12_init 134 = .ok (.ldc 97, 2) := by decide +kernel
theorem dX12_init_136 : decode cX12_init 136 = .ok (.invokestatic 67, 3) := by decide +kernel
theorem dX12_init_139 : decode cX12_init 139 = .ok (.lastore, 1) := by decide +kernel
theorem dX12_init_140 : decode cX12_init 140 = .ok (.dup, 1) := by decide +kernel
theorem dX12_init_141 : decode cX12_init 141 = .ok (.bipush 17, 2) := by decide +kernel
theorem dX12_init_143 : decode cX12_init 143 = .ok (.ldc 99, 2) := by decide +kernel
theorem dX12_init_145 : decode cX12_init 145 = .ok (.invokestatic 67, 3) := by decide +kernel
theorem dX12_init_148 : decode cX12_init 148 = .ok (.lastore, 1) := by decide +kernel
theorem dX12_init_149 : decode cX12_init 149 = .ok (.dup, 1) := by decide +kernel
theorem dX12_init_150 : decode cX12_init 150 = .ok (.bipush 18, 2) := by decide +kernel
theorem dX12_init_152 : decode cX12_init 152 = .ok (.ldc 101, 2) := by decide +kernel
theorem dX12_init_154 : decode cX12_init 154 = .ok (.invokestatic 67, 3) := by decide +kernel
theorem dX12_init_157 : decode cX12_init 157 = .ok (.lastore, 1) := by decide +kernel
theorem dX12_init_158 : decode cX12_init 158 = .ok (.dup, 1) := by decide +kernel
theorem dX12_init_159 : decode cX12_init 159 = .ok (.bipush 19, 2) := by decide +kernel
theorem dX12_init_161 : decode cX12_init 161 = .ok (.ldc 103, 2) := by decide +kernel
theorem dX12_init_163 : decode cX12_init 163 = .ok (.invokestatic 67, 3) := by decide +kernel
theorem dX12_init_166 : decode cX12_init 166 = .ok (.lastore, 1) := by decide +kernel
theorem dX12_init_167 : decode cX12_init 167 = .ok (.dup, 1) := by decide +kernel
theorem dX12_init_168 : decode cX12_init 168 = .ok (.bipush 20, 2) := by decide +kernel
theorem dX12_init_170 : decode cX12_init 170 = .ok (.getstatic 105, 3) := by decide +kernel
theorem dX12_init_173 : decode cX12_init 173 = .ok (.lastore, 1) := by decide +kernel
theorem dX12_init_174 : decode cX12_init 174 = .ok (.dup, 1) := by decide +kernel
theorem dX12_init_175 : decode cX12_init 175 = .ok (.bipush 21, 2) := by decide +kernel
theorem dX12_init_177 : decode cX12_init 177 = .ok (.ldc 108, 2) := by decide +kernel
theorem dX12_init_179 : decode cX12_init 179 = .ok (.invokestatic 67, 3) := by decide +kernel
theorem dX12_init_182 : decode cX12_init 182 = .ok (.lastore, 1) := by decide +kernel
theorem dX12_init_183 : decode cX12_init 183 = .ok (.putfield 34, 3) := by decide +kernel
theorem dX12_init_186 : decode cX12_init 186 = .ok (.aload_n 0, 1) := by decide +kernel
theorem dX12_init_187 : decode cX12_init 187 = .ok (.sipush 221, 3) := by decide +kernel
theorem dX12_init_190 : decode cX12_init 190 = .ok (.newarray .long, 2) := by decide +kernel
theorem dX12_init_192 : decode cX12_init 192 = .ok (.putfield 110, 3) := by decide +kernel
theorem dX12_init_195 : decode cX12_init 195 = .ok (.aload_n 0, 1) := by decide +kernel
theorem dX12_init_196 : decode cX12_init 196 = .ok (.sipush 221, 3) := by decide +kernel
theorem dX12_init_199 : decode cX12_init 199 = .ok (.newarray .long, 2) := by decide +kernel
theorem dX12_init_201 : decode cX12_init 201 = .ok (.putfield 113, 3) := by decide +kernel
theorem dX12_init_204 : decode cX12_init 204 = .ok (.aload_n 0, 1) := by decide +kernel
theorem dX12_init_205 : decode cX12_init 205 = .ok (.bipush 13, 2) := by decide +kernel
theorem dX12_init_207 : decode cX12_init 207 = .ok (.newarray .int, 2) := by decide +kernel
theorem dX12_init_209 : decode cX12_init 209 = .ok (.putfield 116, 3) := by decide +kernel
theorem dX12_init_212 : decode cX12_init 212 = .ok (.aload_n 0, 1) := by decide +kernel
theorem dX12_init_213 : decode cX12_init 213 = .ok (.sipush 221, 3) := by decide +kernel
theorem dX12_init_216 : decode cX12_init 216 = .ok (.newarray .int, 2) := by decide +kernel
theorem dX12_init_218 : decode cX12_init 218 = .ok (.putfield 38, 3) := by decide +kernel
theorem dX12_init_221 : decode cX12_init 221 = .ok (.aload_n 0, 1) := by decide +kernel
theorem dX12_init_222 : decode cX12_init 222 = .ok (.sipush 221, 3) := by decide +kernel
theorem dX12_init_225 : decode cX12_init 225 = .ok (.newarray .int, 2) := by decide +kernel
theorem dX12_init_227 : decode cX12_init 227 = .ok (.putfield 119, 3) := by decide +kernel
theorem dX12_init_230 : decode cX12_init 230 = .ok (.aload_n 0, 1) := by decide +kernel
theorem dX12_init_231 : decode cX12_init 231 = .ok (.bipush 13, 2) := by decide +kernel
theorem dX12_init_233 : decode cX12_init 233 = .ok (.newarray .int, 2) := by decide +kernel
theorem dX12_init_235 : decode cX12_init 235 = .ok (.putfield 122, 3) := by decide +kernel
theorem dX12_init_238 : decode cX12_init 238 = .ok (.aload_n 0, 1) := by decide +kernel
theorem dX12_init_239 : decode cX12_init 239 = .ok (.sipush 221, 3) := by decide +kernel
theorem dX12_init_242 : decode cX12_init 242 = .ok (.newarray .boolean, 2) := by decide +kernel
theorem dX12_init_244 : decode cX12_init 244 = .ok (.putfield 125, 3) := by decide +kernel
theorem dX12_init_247 : decode cX12_init 247 = .ok (.aload_n 0, 1) := by decide +kernel
theorem dX12_init_248 : decode cX12_init 248 = .ok (.sipush 520, 3) := by decide +kernel
theorem dX12_init_251 : decode cX12_init 251 = .ok (.newarray .long, 2) := by decide +kernel
theorem dX12_init_253 : decode cX12_init 253 = .ok (.putfield 129, 3) := by decide +kernel
theorem dX12_init_256 : decode cX12_init 256 = .ok (.aload_n 0, 1) := by decide +kernel
theorem dX12_init_257 : decode cX12_init 257 = .ok (.sipush 520, 3) := by decide +kernel
theorem dX12_init_260 : decode cX12_init 260 = .ok (.newarray .long, 2) := by decide +kernel
theorem dX12_init_262 : decode cX12_init 262 = .ok (.putfield 132, 3) := by decide +kernel
theorem dX12_init_265 : decode cX12_init 265 = .ok (.aload_n 0, 1) := by decide +kernel
theorem dX12_init_266 : decode cX12_init 266 = .ok (.sipush 4160, 3) := by decide +kernel
theorem dX12_init_269 : decode cX12_init 269 = .ok (.newarray .long, 2) := by decide +kernel
theorem dX12_init_271 : decode cX12_init 271 = .ok (.putfield 135, 3) := by decide +kernel
theorem dX12_init_274 : decode cX12_init 274 = .ok (.aload_n 0, 1) := by decide +kernel
theorem dX12_init_275 : decode cX12_init 275 = .ok (.sipush 520, 3) := by decide +kernel
theorem dX12_init_278 : decode cX12_init 278 = .ok (.newarray .int, 2) := by decide +kernel
theorem dX12_init_280 : decode cX12_init 280 = .ok (.putfield 138, 3) := by decide +kernel
theorem dX12_init_283 : decode cX12_init 283 = .ok (.aload_n 0, 1) := by decide +kernel
theorem dX12_init_284 : decode cX12_init 284 = .ok (.sipush 520, 3) := by decide +kernel
theorem dX12_init_287 : decode cX12_init 287 = .ok (.newarray .int, 2) := by decide +kernel
theorem dX12_init_289 : decode cX12_init 289 = .ok (.putfield 141, 3) := by decide +kernel
theorem dX12_init_292 : decode cX12_init 292 = .ok (.aload_n 0, 1) := by decide +kernel
theorem dX12_init_293 : decode cX12_init 293 = .ok (.sipush 520, 3) := by decide +kernel
theorem dX12_init_296 : decode cX12_init 296 = .ok (.newarray .int, 2) := by decide +kernel
theorem dX12_init_298 : decode cX12_init 298 = .ok (.putfield 144, 3) := by decide +kernel
theorem dX12_init_301 : decode cX12_init 301 = .ok (.aload_n 0, 1) := by decide +kernel
theorem dX12_init_302 : decode cX12_init 302 = .ok (.sipush 520, 3) := by decide +kernel
theorem dX12_init_305 : decode cX12_init 305 = .ok (.newarray .int, 2) := by decide +kernel
theorem dX12_init_307 : decode cX12_init 307 = .ok (.putfield 147, 3) := by decide +kernel
theorem dX12_init_310 : decode cX12_init 310 = .ok (.aload_n 0, 1) := by decide +kernel
theorem dX12_init_311 : decode cX12_init 311 = .ok (.sipush 520, 3) := by decide +kernel
theorem dX12_init_314 : decode cX12_init 314 = .ok (.newarray .int, 2) := by decide +kernel
theorem dX12_init_316 : decode cX12_init 316 = .ok (.putfield 150, 3) := by decide +kernel
theorem dX12_init_319 : decode cX12_init 319 = .ok (.aload_n 0, 1) := by decide +kernel
theorem dX12_init_320 : decode cX12_init 320 = .ok (.sipush 520, 3) := by decide +kernel
theorem dX12_init_323 : decode cX12_init 323 = .ok (.newarray .int, 2) := by decide +kernel
theorem dX12_init_325 : decode cX12_init 325 = .ok (.putfield 153, 3) := by decide +kernel
theorem dX12_init_328 : decode cX12_init 328 = .ok (.aload_n 0, 1) := by decide +kernel
theorem dX12_init_329 : decode cX12_init 329 = .ok (.sipush 520, 3) := by decide +kernel
theorem dX12_init_332 : decode cX12_init 332 = .ok (.newarray .int, 2) := by decide +kernel
theorem dX12_init_334 : decode cX12_init 334 = .ok (.putfield 156, 3) := by decide +kernel
theorem dX12_init_337 : decode cX12_init 337 = .ok (.aload_n 0, 1) := by decide +kernel
theorem dX12_init_338 : decode cX12_init 338 = .ok (.sipush 520, 3) := by decide +kernel
theorem dX12_init_341 : decode cX12_init 341 = .ok (.newarray .int, 2) := by decide +kernel
theorem dX12_init_343 : decode cX12_init 343 = .ok (.putfield 159, 3) := by decide +kernel
theorem dX12_init_346 : decode cX12_init 346 = .ok (.aload_n 0, 1) := by decide +kernel
theorem dX12_init_347 : decode cX12_init 347 = .ok (.sipush 6240, 3) := by decide +kernel
theorem dX12_init_350 : decode cX12_init 350 = .ok (.newarray .int, 2) := by decide +kernel
theorem dX12_init_352 : decode cX12_init 352 = .ok (.putfield 162, 3) := by decide +kernel
theorem dX12_init_355 : decode cX12_init 355 = .ok (.aload_n 0, 1) := by decide +kernel
theorem dX12_init_356 : decode cX12_init 356 = .ok (.sipush 520, 3) := by decide +kernel
theorem dX12_init_359 : decode cX12_init 359 = .ok (.newarray .int, 2) := by decide +kernel
theorem dX12_init_361 : decode cX12_init 361 = .ok (.putfield 165, 3) := by decide +kernel
theorem dX12_init_364 : decode cX12_init 364 = .ok (.aload_n 0, 1) := by decide +kernel
theorem dX12_init_365 : decode cX12_init 365 = .ok (.sipush 520, 3) := by decide +kernel
theorem dX12_init_368 : decode cX12_init 368 = .ok (.newarray .int, 2) := by decide +kernel
theorem dX12_init_370 : decode cX12_init 370 = .ok (.putfield 168, 3) := by decide +kernel
theorem dX12_init_373 : decode cX12_init 373 = .ok (.aload_n 0, 1) := by decide +kernel
theorem dX12_init_374 : decode cX12_init 374 = .ok (.sipush 1040, 3) := by decide +kernel
theorem dX12_init_377 : decode cX12_init 377 = .ok (.newarray .int, 2) := by decide +kernel
theorem dX12_init_379 : decode cX12_init 379 = .ok (.putfield 171, 3) := by decide +kernel
theorem dX12_init_382 : decode cX12_init 382 = .ok (.aload_n 0, 1) := by decide +kernel
theorem dX12_init_383 : decode cX12_init 383 = .ok (.sipush 1040, 3) := by decide +kernel
theorem dX12_init_386 : decode cX12_init 386 = .ok (.newarray .int, 2) := by decide +kernel
theorem dX12_init_388 : decode cX12_init 388 = .ok (.putfield 174, 3) := by decide +kernel
theorem dX12_init_391 : decode cX12_init 391 = .ok (.aload_n 0, 1) := by decide +kernel
theorem dX12_init_392 : decode cX12_init 392 = .ok (.sipush 520, 3) := by decide +kernel
theorem dX12_init_395 : decode cX12_init 395 = .ok (.newarray .boolean, 2) := by decide +kernel
theorem dX12_init_397 : decode cX12_init 397 = .ok (.putfield 177, 3) := by decide +kernel
theorem dX12_init_400 : decode cX12_init 400 = .ok (.aload_n 0, 1) := by decide +kernel
theorem dX12_init_401 : decode cX12_init 401 = .ok (.sipush 520, 3) := by decide +kernel
theorem dX12_init_404 : decode cX12_init 404 = .ok (.newarray .boolean, 2) := by decide +kernel
theorem dX12_init_406 : decode cX12_init 406 = .ok (.putfield 180, 3) := by decide +kernel
theorem dX12_init_409 : decode cX12_init 409 = .ok (.aload_n 0, 1) := by decide +kernel
theorem dX12_init_410 : decode cX12_init 410 = .ok (.sipush 520, 3) := by decide +kernel
theorem dX12_init_413 : decode cX12_init 413 = .ok (.newarray .boolean, 2) := by decide +kernel
theorem dX12_init_415 : decode cX12_init 415 = .ok (.putfield 183, 3) := by decide +kernel
theorem dX12_init_418 : decode cX12_init 418 = .ok (.aload_n 0, 1) := by decide +kernel
theorem dX12_init_419 : decode cX12_init 419 = .ok (.sipush 520, 3) := by decide +kernel
theorem dX12_init_422 : decode cX12_init 422 = .ok (.newarray .boolean, 2) := by decide +kernel
theorem dX12_init_424 : decode cX12_init 424 = .ok (.putfield 186, 3) := by decide +kernel
theorem dX12_init_427 : decode cX12_init 427 = .ok (.aload_n 0, 1) := by decide +kernel
theorem dX12_init_428 : decode cX12_init 428 = .ok (.sipush 520, 3) := by decide +kernel
theorem dX12_init_431 : decode cX12_init 431 = .ok (.newarray .boolean, 2) := by decide +kernel
theorem dX12_init_433 : decode cX12_init 433 = .ok (.putfield 189, 3) := by decide +kernel
theorem dX12_init_436 : decode cX12_init 436 = .ok (.aload_n 0, 1) := by decide +kernel
theorem dX12_init_437 : decode cX12_init 437 = .ok (.sipush 2000, 3) := by decide +kernel
theorem dX12_init_440 : decode cX12_init 440 = .ok (.newarray .int, 2) := by decide +kernel
theorem dX12_init_442 : decode cX12_init 442 = .ok (.putfield 192, 3) := by decide +kernel
theorem dX12_init_445 : decode cX12_init 445 = .ok (.aload_n 0, 1) := by decide +kernel
theorem dX12_init_446 : decode cX12_init 446 = .ok (.iconst (-1), 1) := by decide +kernel
theorem dX12_init_447 : decode cX12_init 447 = .ok (.putfield 195, 3) := by decide +kernel
theorem dX12_init_450 : decode cX12_init 450 = .ok (.aload_n 0, 1) := by decide +kernel
theorem dX12_init_451 : decode cX12_init 451 = .ok (.sipush 200, 3) := by decide +kernel
theorem dX12_init_454 : decode cX12_init 454 = .ok (.newarray .int, 2) := by decide +kernel
theorem dX12_init_456 : decode cX12_init 456 = .ok (.putfield 198, 3) := by decide +kernel
theorem dX12_init_459 : decode cX12_init 459 = .ok (.aload_n 0, 1) := by decide +kernel
theorem dX12_init_460 : decode cX12_init 460 = .ok (.sipush 200, 3) := by decide +kernel
theorem dX12_init_463 : decode cX12_init 463 = .ok (.newarray .int, 2) := by decide +kernel
theorem dX12_init_465 : decode cX12_init 465 = .ok (.putfield 201, 3) := by decide +kernel
theorem dX12_init_468 : decode cX12_init 468 = .ok (.aload_n 0, 1) := by decide +kernel
theorem dX12_init_469 : decode cX12_init 469 = .ok (.sipush 200, 3) := by decide +kernel
theorem dX12_init_472 : decode cX12_init 472 = .ok (.newarray .int, 2) := by decide +kernel
theorem dX12_init_474 : decode cX12_init 474 = .ok (.putfield 204, 3) := by decide +kernel
theorem dX12_init_477 : decode cX12_init 477 = .ok (.aload_n 0, 1) := by decide +kernel
theorem dX12_init_478 : decode cX12_init 478 = .ok (.sipush 200, 3) := by decide +kernel
theorem dX12_init_481 : decode cX12_init 481 = .ok (.newarray .long, 2) := by decide +kernel
theorem dX12_init_483 : decode cX12_init 483 = .ok (.putfield 207, 3) := by decide +kernel
theorem dX12_init_486 : decode cX12_init 486 = .ok (.aload_n 0, 1) := by decide +kernel
theorem dX12_init_487 : decode cX12_init 487 = .ok (.bipush 60, 2) := by decide +kernel
theorem dX12_init_489 : decode cX12_init 489 = .ok (.newarray .long, 2) := by decide +kernel
theorem dX12_init_491 : decode cX12_init 491 = .ok (.putfield 210, 3) := by decide +kernel
theorem dX12_init_494 : decode cX12_init 494 = .ok (.aload_n 0, 1) := by decide +kernel
theorem dX12_init_495 : decode cX12_init 495 = .ok (.sipush 1400, 3) := by decide +kernel
theorem dX12_init_498 : decode cX12_init 498 = .ok (.newarray .int, 2) := by decide +kernel
theorem dX12_init_500 : decode cX12_init 500 = .ok (.putfield 213, 3) := by decide +kernel
theorem dX12_init_503 : decode cX12_init 503 = .ok (.aload_n 0, 1) := by decide +kernel
theorem dX12_init_504 : decode cX12_init 504 = .ok (.bipush 20, 2) := by decide +kernel
theorem dX12_init_506 : decode cX12_init 506 = .ok (.newarray .int, 2) := by decide +kernel
theorem dX12_init_508 : decode cX12_init 508 = .ok (.putfield 216, 3) := by decide +kernel
theorem dX12_init_511 : decode cX12_init 511 = .ok (.aload_n 0, 1) := by decide +kernel
theorem dX12_init_512 : decode cX12_init 512 = .ok (.sipush 3600, 3) := by decide +kernel
theorem dX12_init_515 : decode cX12_init 515 = .ok (.newarray .int, 2) := by decide +kernel
theorem dX12_init_517 : decode cX12_init 517 = .ok (.putfield 219, 3) := by decide +kernel
theorem dX12_init_520 : decode cX12_init 520 = .ok (.aload_n 0, 1) := by decide +kernel
theorem dX12_init_521 : decode cX12_init 521 = .ok (.bipush 60, 2) := by decide +kernel
theorem dX12_init_523 : decode cX12_init 523 = .ok (.newarray .int, 2) := by decide +kernel
theorem dX12_init_525 : decode cX12_init 525 = .ok (.putfield 222, 3) := by decide +kernel
theorem dX12_init_528 : decode cX12_init 528 = .ok (.aload_n 0, 1) := by decide +kernel
theorem dX12_init_529 : decode cX12_init 529 = .ok (.iconst 3, 1) := by decide +kernel
theorem dX12_init_530 : decode cX12_init 530 = .ok (.newarray .int, 2) := by decide +kernel
theorem dX12_init_532 : decode cX12_init 532 = .ok (.putfield 225, 3) := by decide +kernel
theorem dX12_init_535 : decode cX12_init 535 = .ok (.aload_n 0, 1) := by decide +kernel
theorem dX12_init_536 : decode cX12_init 536 = .ok (.sipush 400, 3) := by decide +kernel
theorem dX12_init_539 : decode cX12_init 539 = .ok (.newarray .int, 2) := by decide +kernel
theorem dX12_init_541 : decode cX12_init 541 = .ok (.putfield 228, 3) := by decide +kernel
theorem dX12_init_544 : decode cX12_init 544 = .ok (.aload_n 0, 1) := by decide +kernel
theorem dX12_init_545 : decode cX12_init 545 = .ok (.sipush 2440, 3) := by decide +kernel
theorem dX12_init_548 : decode cX12_init 548 = .ok (.newarray .int, 2) := by decide +kernel
theorem dX12_init_550 : decode cX12_init 550 = .ok (.putfield 231, 3) := by decide +kernel
theorem dX12_init_553 : decode cX12_init 553 = .ok (.aload_n 0, 1) := by decide +kernel
theorem dX12_init_554 : decode cX12_init 554 = .ok (.bipush 61, 2) := by decide +kernel
theorem dX12_init_556 : decode cX12_init 556 = .ok (.newarray .int, 2) := by decide +kernel
theorem dX12_init_558 : decode cX12_init 558 = .ok (.putfield 234, 3) := by decide +kernel
theorem dX12_init_561 : decode cX12_init 561 = .ok (.aload_n 0, 1) := by decide +kernel
theorem dX12_init_562 : decode cX12_init 562 = .ok (.sipush 2440, 3) := by decide +kernel
theorem dX12_init_565 : decode cX12_init 565 = .ok (.newarray .int, 2) := by decide +kernel
theorem dX12_init_567 : decode cX12_init 567 = .ok (.putfield 237, 3) := by decide +kernel
theorem dX12_init_570 : decode cX12_init 570 = .ok (.aload_n 0, 1) := by decide +kernel
theorem dX12_init_571 : decode cX12_init 571 = .ok (.bipush 61, 2) := by decide +kernel
theorem dX12_init_573 : decode cX12_init 573 = .ok (.newarray .int, 2) := by decide +kernel
theorem dX12_init_575 : decode cX12_init 575 = .ok (.putfield 240, 3) := by decide +kernel
theorem dX12_init_578 : decode cX12_init 578 = .ok (.aload_n 0, 1) := by decide +kernel
theorem dX12_init_579 : decode cX12_init 579 = .ok (.iconst (-1), 1) := by decide +kernel
theorem dX12_init_580 : decode cX12_init 580 = .ok (.putfield 243, 3) := by decide +kernel
theorem dX12_init_583 : decode cX12_init 583 = .ok (.aload_n 0, 1) := by decide +kernel
theorem dX12_init_584 : decode cX12_init 584 = .ok (.iconst (-1), 1) := by decide +kernel
theorem dX12_init_585 : decode cX12_init 585 = .ok (.putfield 246, 3) := by decide +kernel
theorem dX12_init_588 : decode cX12_init 588 = .ok (.aload_n 0, 1) := by decide +kernel
theorem dX12_init_589 : decode cX12_init 589 = .ok (.iconst (-1), 1) := by decide +kernel
theorem dX12_init_590 : decode cX12_init 590 = .ok (.putfield 249, 3) := by decide +kernel
theorem dX12_init_593 : decode cX12_init 593 = .ok (.aload_n 0, 1) := by decide +kernel
theorem dX12_init_594 : decode cX12_init 594 = .ok (.iconst (-1), 1) := by decide +kernel
theorem dX12_init_595 : decode cX12_init 595 = .ok (.putfield 252, 3) := by decide +kernel
theorem dX12_init_598 : decode cX12_init 598 = .ok (.aload_n 0, 1) := by decide +kernel
theorem dX12_init_599 : decode cX12_init 599 = .ok (.bipush 20, 2) := by decide +kernel
theorem dX12_init_601 : decode cX12_init 601 = .ok (.newarray .boolean, 2) := by decide +kernel
theorem dX12_init_603 : decode cX12_init 603 = .ok (.putfield 255, 3) := by decide +kernel
theorem dX12_init_606 : decode cX12_init 606 = .ok (.aload_n 0, 1) := by decide +kernel
theorem dX12_init_607 : decode cX12_init 607 = .ok (.sipush 2440, 3) := by decide +kernel
theorem dX12_init_610 : decode cX12_init 610 = .ok (.newarray .int, 2) := by decide +kernel
theorem dX12_init_612 : decode cX12_init 612 = .ok (.putfield 258, 3) := by decide +kernel
theorem dX12_init_615 : decode cX12_init 615 = .ok (.aload_n 0, 1) := by decide +kernel
theorem dX12_init_616 : decode cX12_init 616 = .ok (.bipush 61, 2) := by decide +kernel
theorem dX12_init_618 : decode cX12_init 618 = .ok (.newarray .int, 2) := by decide +kernel
theorem dX12_init_620 : decode cX12_init 620 = .ok (.putfield 261, 3) := by decide +kernel
theorem dX12_init_623 : decode cX12_init 623 = .ok (.aload_n 0, 1) := by decide +kernel
theorem dX12_init_624 : decode cX12_init 624 = .ok (.bipush 40, 2) := by decide +kernel
theorem dX12_init_626 : decode cX12_init 626 = .ok (.newarray .boolean, 2) := by decide +kernel
theorem dX12_init_628 : decode cX12_init 628 = .ok (.putfield 264, 3) := by decide +kernel
theorem dX12_init_631 : decode cX12_init 631 = .ok (.aload_n 0, 1) := by decide +kernel
theorem dX12_init_632 : decode cX12_init 632 = .ok (.bipush 40, 2) := by decide +kernel
theorem dX12_init_634 : decode cX12_init 634 = .ok (.newarray .int, 2) := by decide +kernel
theorem dX12_init_636 : decode cX12_init 636 = .ok (.putfield 267, 3) := by decide +kernel
theorem dX12_init_639 : decode cX12_init 639 = .ok (.aload_n 0, 1) := by decide +kernel
theorem dX12_init_640 : decode cX12_init 640 = .ok (.bipush 61, 2) := by decide +kernel
theorem dX12_init_642 : decode cX12_init 642 = .ok (.newarray .int, 2) := by decide +kernel
theorem dX12_init_644 : decode cX12_init 644 = .ok (.putfield 270, 3) := by decide +kernel
theorem dX12_init_647 : decode cX12_init 647 = .ok (.aload_n 0, 1) := by decide +kernel
theorem dX12_init_648 : decode cX12_init 648 = .ok (.bipush 61, 2) := by decide +kernel
theorem dX12_init_650 : decode cX12_init 650 = .ok (.newarray .int, 2) := by decide +kernel
theorem dX12_init_652 : decode cX12_init 652 = .ok (.putfield 273, 3) := by decide +kernel
theorem dX12_init_655 : decode cX12_init 655 = .ok (.aload_n 0, 1) := by decide +kernel
theorem dX12_init_656 : decode cX12_init 656 = .ok (.bipush 61, 2) := by decide +kernel
theorem dX12_init_658 : decode cX12_init 658 = .ok (.newarray .int, 2) := by decide +kernel
theorem dX12_init_660 : decode cX12_init 660 = .ok (.putfield 276, 3) := by decide +kernel
theorem dX12_init_663 : decode cX12_init 663 = .ok (.aload_n 0, 1) := by decide +kernel
theorem dX12_init_664 : decode cX12_init 664 = .ok (.bipush 61, 2) := by decide +kernel
theorem dX12_init_666 : decode cX12_init 666 = .ok (.newarray .int, 2) := by decide +kernel
theorem dX12_init_668 : decode cX12_init 668 = .ok (.putfield 279, 3) := by decide +kernel
theorem dX12_init_671 : decode cX12_init 671 = .ok (.aload_n 0, 1) := by decide +kernel
theorem dX12_init_672 : decode cX12_init 672 = .ok (.bipush 41, 2) := by decide +kernel
theorem dX12_init_674 : decode cX12_init 674 = .ok (.newarray .int, 2) := by decide +kernel
theorem dX12_init_676 : decode cX12_init 676 = .ok (.putfield 282, 3) := by decide +kernel
theorem dX12_init_679 : decode cX12_init 679 = .ok (.aload_n 0, 1) := by decide +kernel
theorem dX12_init_680 : decode cX12_init 680 = .ok (.bipush 41, 2) := by decide +kernel
theorem dX12_init_682 : decode cX12_init 682 = .ok (.newarray .int, 2) := by decide +kernel
theorem dX12_init_684 : decode cX12_init 684 = .ok (.putfield 285, 3) := by decide +kernel
theorem dX12_init_687 : decode cX12_init 687 = .ok (.aload_n 0, 1) := by decide +kernel
theorem dX12_init_688 : decode cX12_init 688 = .ok (.bipush 41, 2) := by decide +kernel
theorem dX12_init_690 : decode cX12_init 690 = .ok (.newarray .int, 2) := by decide +kernel
theorem dX12_init_692 : decode cX12_init 692 = .ok (.putfield 288, 3) := by decide +kernel
theorem dX12_init_695 : decode cX12_init 695 = .ok (.aload_n 0, 1) := by decide +kernel
theorem dX12_init_696 : decode cX12_init 696 = .ok (.sipush 1640, 3) := by decide +kernel
theorem dX12_init_699 : decode cX12_init 699 = .ok (.newarray .int, 2) := by decide +kernel
theorem dX12_init_701 : decode cX12_init 701 = .ok (.putfield 291, 3) := by decide +kernel
theorem dX12_init_704 : decode cX12_init 704 = .ok (.aload_n 0, 1) := by decide +kernel
theorem dX12_init_705 : decode cX12_init 705 = .ok (.sipush 1640, 3) := by decide +kernel
theorem dX12_init_708 : decode cX12_init 708 = .ok (.newarray .int, 2) := by decide +kernel
theorem dX12_init_710 : decode cX12_init 710 = .ok (.putfield 294, 3) := by decide +kernel
theorem dX12_init_713 : decode cX12_init 713 = .ok (.aload_n 0, 1) := by decide +kernel
theorem dX12_init_714 : decode cX12_init 714 = .ok (.sipush 1640, 3) := by decide +kernel
theorem dX12_init_717 : decode cX12_init 717 = .ok (.newarray .int, 2) := by decide +kernel
theorem dX12_init_719 : decode cX12_init 719 = .ok (.putfield 297, 3) := by decide +kernel
theorem dX12_init_722 : decode cX12_init 722 = .ok (.aload_n 0, 1) := by decide +kernel
theorem dX12_init_723 : decode cX12_init 723 = .ok (.ldc_w 300, 3) := by decide +kernel
theorem dX12_init_726 : decode cX12_init 726 = .ok (.newarray .int, 2) := by decide +kernel
theorem dX12_init_728 : decode cX12_init 728 = .ok (.putfield 301, 3) := by decide +kernel
theorem dX12_init_731 : decode cX12_init 731 = .ok (.aload_n 0, 1) := by decide +kernel
theorem dX12_init_732 : decode cX12_init 732 = .ok (.sipush 16400, 3) := by decide +kernel
theorem dX12_init_735 : decode cX12_init 735 = .ok (.newarray .int, 2) := by decide +kernel
theorem dX12_init_737 : decode cX12_init 737 = .ok (.putfield 304, 3) := by decide +kernel
theorem dX12_init_740 : decode cX12_init 740 = .ok (.aload_n 0, 1) := by decide +kernel
theorem dX12_init_741 : decode cX12_init 741 = .ok (.sipush 2460, 3) := by decide +kernel
theorem dX12_init_744 : decode cX12_init 744 = .ok (.newarray .int, 2) := by decide +kernel
theorem dX12_init_746 : decode cX12_init 746 = .ok (.putfield 307, 3) := by decide +kernel
theorem dX12_init_749 : decode cX12_init 749 = .ok (.aload_n 0, 1) := by decide +kernel
theorem dX12_init_750 : decode cX12_init 750 = .ok (.ldc_w 300, 3) := by decide +kernel
theorem dX12_init_753 : decode cX12_init 753 = .ok (.newarray .int, 2) := by decide +kernel
theorem dX12_init_755 : decode cX12_init 755 = .ok (.putfield 310, 3) := by decide +kernel
theorem dX12_init_758 : decode cX12_init 758 = .ok (.aload_n 0, 1) := by decide +kernel
theorem dX12_init_759 : decode cX12_init 759 = .ok (.sipush 200, 3) := by decide +kernel
theorem dX12_init_762 : decode cX12_init 762 = .ok (.newarray .int, 2) := by decide +kernel
theorem dX12_init_764 : decode cX12_init 764 = .ok (.putfield 313, 3) := by decide +kernel
theorem dX12_init_767 : decode cX12_init 767 = .ok (.aload_n 0, 1) := by decide +kernel
theorem dX12_init_768 : decode cX12_init 768 = .ok (.bipush 8, 2) := by decide +kernel
theorem dX12_init_770 : decode cX12_init 770 = .ok (.newarray .int, 2) := by decide +kernel
theorem dX12_init_772 : decode cX12_init 772 = .ok (.putfield 316, 3) := by decide +kernel
theorem dX12_init_775 : decode cX12_init 775 = .ok (.aload_n 0, 1) := by decide +kernel
theorem dX12_init_776 : decode cX12_init 776 = .ok (.ldc_w 319, 3) := by decide +kernel
theorem dX12_init_779 : decode cX12_init 779 = .ok (.newarray .int, 2) := by decide +kernel
theorem dX12_init_781 : decode cX12_init 781 = .ok (.putfield 320, 3) := by decide +kernel
theorem dX12_init_784 : decode cX12_init 784 = .ok (.aload_n 0, 1) := by decide +kernel
theorem dX12_init_785 : decode cX12_init 785 = .ok (.bipush 100, 2) := by decide +kernel
theorem dX12_init_787 : decode cX12_init 787 = .ok (.newarray .long, 2) := by decide +kernel
theorem dX12_init_789 : decode cX12_init 789 = .ok (.putfield 323, 3) := by decide +kernel
theorem dX12_init_792 : decode cX12_init 792 = .ok (.aload_n 0, 1) := by decide +kernel
theorem dX12_init_793 : decode cX12_init 793 = .ok (.bipush 60, 2) := by decide +kernel
theorem dX12_init_795 : decode cX12_init 795 = .ok (.newarray .long, 2) := by decide +kernel
theorem dX12_init_797 : decode cX12_init 797 = .ok (.putfield 326, 3) := by decide +kernel
theorem dX12_init_800 : decode cX12_init 800 = .ok (.aload_n 0, 1) := by decide +kernel
theorem dX12_init_801 : decode cX12_init 801 = .ok (.bipush 100, 2) := by decide +kernel
theorem dX12_init_803 : decode cX12_init 803 = .ok (.newarray .boolean, 2) := by decide +kernel
theorem dX12_init_805 : decode cX12_init 805 = .ok (.putfield 329, 3) := by decide +kernel
theorem dX12_init_808 : decode cX12_init 808 = .ok (.aload_n 0, 1) := by decide +kernel
theorem dX12_init_809 : decode cX12_init 809 = .ok (.bipush 40, 2) := by decide +kernel
theorem dX12_init_811 : decode cX12_init 811 = .ok (.newarray .int, 2) := by decide +kernel
theorem dX12_init_813 : decode cX12_init 813 = .ok (.putfield 332, 3) := by decide +kernel
theorem dX12_init_816 : decode cX12_init 816 = .ok (.aload_n 0, 1) := by decide +kernel
theorem dX12_init_817 : decode cX12_init 817 = .ok (.bipush 41, 2) := by decide +kernel
theorem dX12_init_819 : decode cX12_init 819 = .ok (.newarray .int, 2) := by decide +kernel
theorem dX12_init_821 : decode cX12_init 821 = .ok (.putfield 335, 3) := by decide +kernel
theorem dX12_init_824 : decode cX12_init 824 = .ok (.aload_n 0, 1) := by decide +kernel
theorem dX12_init_825 : decode cX12_init 825 = .ok (.bipush 12, 2) := by decide +kernel
theorem dX12_init_827 : decode cX12_init 827 = .ok (.newarray .int, 2) := by decide +kernel
theorem dX12_init_829 : decode cX12_init 829 = .ok (.putfield 338, 3) := by decide +kernel
theorem dX12_init_832 : decode cX12_init 832 = .ok (.aload_n 0, 1) := by decide +kernel
theorem dX12_init_833 : decode cX12_init 833 = .ok (.bipush 12, 2) := by decide +kernel
theorem dX12_init_835 : decode cX12_init 835 = .ok (.newarray .int, 2) := by decide +kernel
theorem dX12_init_837 : decode cX12_init 837 = .ok (.putfield 341, 3) := by decide +kernel
theorem dX12_init_840 : decode cX12_init 840 = .ok (.return_, 1) := by decide +kernel
theorem dX12_is_0 : decode cX12_is 0 = .ok (.aload_n 0, 1) := by decide +kernel
theorem dX12_is_1 : decode cX12_is 1 = .ok (.invokevirtual 397, 3) := by decide +kernel
theorem dX12_is_4 : decode cX12_is 4 = .ok (.ifCond .eq 24, 3) := by decide +kernel
theorem dX12_is_7 : decode cX12_is 7 = .ok (.aload_n 0, 1) := by decide +kernel
theorem dX12_is_8 : decode cX12_is 8 = .ok (.getfield 365, 3) := by decide +kernel
theorem dX12_is_11 : decode cX12_is 11 = .ok (.bipush 6, 2) := by decide +kernel
theorem dX12_is_13 : decode cX12_is 13 = .ok (.if_icmp .ne 15, 3) := by decide +kernel
theorem dX12_is_16 : decode cX12_is 16 = .ok (.aload_n 0, 1) := by decide +kernel
theorem dX12_is_17 : decode cX12_is 17 = .ok (.getfield 359, 3) := by decide +kernel
theorem dX12_is_20 : decode cX12_is 20 = .ok (.iload_n 1, 1) := by decide +kernel
theorem dX12_is_21 : decode cX12_is 21 = .ok (.if_icmp .ne 7, 3) := by decide +kernel
theorem dX12_is_24 : decode cX12_is 24 = .ok (.iconst 1, 1) := by decide +kernel
theorem dX12_is_25 : decode cX12_is 25 = .ok (.goto 4, 3) := by decide +kernel
theorem dX12_is_28 : decode cX12_is 28 = .ok (.iconst 0, 1) := by decide +kernel
theorem dX12_is_29 : decode cX12_is 29 = .ok (.ireturn, 1) := by decide +kernel
theorem dX12_isRecord_0 : decode cX12_isRecord 0 = .ok (.aload_n 0, 1) := by decide +kernel
theorem dX12_isRecord_1 : decode cX12_isRecord 1 = .ok (.iload_n 1, 1) := by decide +kernel
theorem dX12_isRecord_2 : decode cX12_isRecord 2 = .ok (.ifCond .lt 15, 3) := by decide +kernel
theorem dX12_isRecord_5 : decode cX12_isRecord 5 = .ok (.iload_n 1, 1) := by decide +kernel
theorem dX12_isRecord_6 : decode cX12_isRecord 6 = .ok (.aload_n 0, 1) := by decide +kernel
theorem dX12_isRecord_7 : decode cX12_isRecord 7 = .ok (.getfield 616, 3) := by decide +kernel
theorem dX12_isRecord_10 : decode cX12_isRecord 10 = .ok (.if_icmp .ge 7, 3) := by decide +kernel
theorem dX12_isRecord_13 : decode cX12_isRecord 13 = .ok (.iconst 1, 1) := by decide +kernel
theorem dX12_isRecord_14 : decode cX12_isRecord 14 = .ok (.goto 4, 3) := by decide +kernel
theorem dX12_isRecord_17 : decode cX12_isRecord 17 = .ok (.iconst 0, 1) := by decide +kernel
theorem dX12_isRecord_18 : decode cX12_isRecord 18 = .ok (.iconst 1, 1) := by decide +kernel
theorem dX12_isRecord_19 : decode cX12_isRecord 19 = .ok (.invokevirtual 414, 3) := by decide +kernel
theorem dX12_isRecord_22 : decode cX12_isRecord 22 = .ok (.ireturn, 1) := by decide +kernel
theorem dX12_isWordNow_0 : decode cX12_isWordNow 0 = .ok (.aload_n 0, 1) := by decide +kernel
theorem dX12_isWordNow_1 : decode cX12_isWordNow 1 = .ok (.invokevirtual 397, 3) := by decide +kernel
theorem dX12_isWordNow_4 : decode cX12_isWordNow 4 = .ok (.ifCond .eq 24, 3) := by decide +kernel
theorem dX12_isWordNow_7 : decode cX12_isWordNow 7 = .ok (.aload_n 0, 1) := by decide +kernel
theorem dX12_isWordNow_8 : decode cX12_isWordNow 8 = .ok (.getfield 365, 3) := by decide +kernel
theorem dX12_isWordNow_11 : decode cX12_isWordNow 11 = .ok (.iconst 3, 1) := by decide +kernel
theorem dX12_isWordNow_12 : decode cX12_isWordNow 12 = .ok (.if_icmp .ne 16, 3) := by decide +kernel
theorem dX12_isWordNow_15 : decode cX12_isWordNow 15 = .ok (.aload_n 0, 1) := by decide +kernel
theorem dX12_isWordNow_16 : decode cX12_isWordNow 16 = .ok (.getfield 362, 3) := by decide +kernel
theorem dX12_isWordNow_19 : decode cX12_isWordNow 19 = .ok (.lload_n 1, 1) := by decide +kernel
theorem dX12_isWordNow_20 : decode cX12_isWordNow 20 = .ok (.lcmp, 1) := by decide +kernel
theorem dX12_isWordNow_21 : decode cX12_isWordNow 21 = .ok (.ifCond .ne 7, 3) := by decide +kernel
theorem dX12_isWordNow_24 : decode cX12_isWordNow 24 = .ok (.iconst 1, 1) := by decide +kernel
theorem dX12_isWordNow_25 : decode cX12_isWordNow 25 = .ok (.goto 4, 3) := by decide +kernel
theorem dX12_isWordNow_28 : decode cX12_isWordNow 28 = .ok (.iconst 0, 1) := by decide +kernel
theorem dX12_isWordNow_29 : decode cX12_isWordNow 29 = .ok (.ireturn, 1) := by decide +kernel
theorem dX12_item_0 : decode cX12_item 0 = .ok (.aload_n 0, 1) := by decide +kernel
theorem dX12_item_1 : decode cX12_item 1 = .ok (.iconst 0, 1) := by decide +kernel
theorem dX12_item_2 : decode cX12_item 2 = .ok (.putfield 1, 3) := by decide +kernel
theorem dX12_item_5 : decode cX12_item 5 = .ok (.aload_n 0, 1) := by decide +kernel
theorem dX12_item_6 : decode cX12_item 6 = .ok (.iload_n 1, 1) := by decide +kernel
theorem dX12_item_7 : decode cX12_item 7 = .ok (.invokevirtual 683, 3) := by decide +kernel
theorem dX12_item_10 : decode cX12_item 10 = .ok (.ifCond .eq 7, 3) := by decide +kernel
theorem dX12_item_13 : decode cX12_item 13 = .ok (.iload_n 3, 1) := by decide +kernel
theorem dX12_item_14 : decode cX12_item 14 = .ok (.ifCond .ge 5, 3) := by decide +kernel
theorem dX12_item_17 : decode cX12_item 17 = .ok (.iconst 0, 1) := by decide +kernel
theorem dX12_item_18 : decode cX12_item 18 = .ok (.ireturn, 1) := by decide +kernel
theorem dX12_item_19 : decode cX12_item 19 = .ok (.iload_n 2, 1) := by decide +kernel
theorem dX12_item_20 : decode cX12_item 20 = .ok (.iconst (-1), 1) := by decide +kernel
theorem dX12_item_21 : decode cX12_item 21 = .ok (.if_icmp .ne 64, 3) := by decide +kernel
theorem dX12_item_24 : decode cX12_item 24 = .ok (.iload_n 3, 1) := by decide +kernel
theorem dX12_item_25 : decode cX12_item 25 = .ok (.bipush 100, 2) := by decide +kernel
theorem dX12_item_27 : decode cX12_item 27 = .ok (.idiv, 1) := by decide +kernel
theorem dX12_item_28 : decode cX12_item 28 = .ok (.istore 4, 2) := by decide +kernel
theorem dX12_item_30 : decode cX12_item 30 = .ok (.iload 4, 2) := by decide +kernel
theorem dX12_item_32 : decode cX12_item 32 = .ok (.aload_n 0, 1) := by decide +kernel
theorem dX12_item_33 : decode cX12_item 33 = .ok (.getfield 288, 3) := by decide +kernel
theorem dX12_item_36 : decode cX12_item 36 = .ok (.iload_n 1, 1) := by decide +kernel
theorem dX12_item_37 : decode cX12_item 37 = .ok (.iaload, 1) := by decide +kernel
theorem dX12_item_38 : decode cX12_item 38 = .ok (.if_icmp .ge 45, 3) := by decide +kernel
theorem dX12_item_41 : decode cX12_item 41 = .ok (.iload_n 3, 1) := by decide +kernel
theorem dX12_item_42 : decode cX12_item 42 = .ok (.bipush 100, 2) := by decide +kernel
theorem dX12_item_44 : decode cX12_item 44 = .ok (.irem, 1) := by decide +kernel
theorem dX12_item_45 : decode cX12_item 45 = .ok (.aload_n 0, 1) := by decide +kernel
theorem dX12_item_46 : decode cX12_item 46 = .ok (.getfield 307, 3) := by decide +kernel
theorem dX12_item_49 : decode cX12_item 49 = .ok (.bipush 60, 2) := by decide +kernel
theorem dX12_item_51 : decode cX12_item 51 = .ok (.iload_n 1, 1) := by decide +kernel
theorem dX12_item_52 : decode cX12_item 52 = .ok (.imul, 1) := by decide +kernel
theorem dX12_item_53 : decode cX12_item 53 = .ok (.iload 4, 2) := by decide +kernel
theorem dX12_item_55 : decode cX12_item 55 = .ok (.iadd, 1) := by decide +kernel
theorem dX12_item_56 : decode cX12_item 56 = .ok (.iaload, 1) := by decide +kernel
theorem dX12_item_57 : decode cX12_item 57 = .ok (.if_icmp .ge 26, 3) := by decide +kernel
theorem dX12_item_60 : decode cX12_item 60 = .ok (.aload_n 0, 1) := by decide +kernel
theorem dX12_item_61 : decode cX12_item 61 = .ok (.getfield 310, 3) := by decide +kernel
theorem dX12_item_64 : decode cX12_item 64 = .ok (.bipush 40, 2) := by decide +kernel
theorem dX12_item_66 : decode cX12_item 66 = .ok (.bipush 60, 2) := by decide +kernel
theorem dX12_item_68 : decode cX12_item 68 = .ok (.iload_n 1, 1) := by decide +kernel
theorem dX12_item_69 : decode cX12_item 69 = .ok (.imul, 1) := by decide +kernel
theorem dX12_item_70 : decode cX12_item 70 = .ok (.iload 4, 2) := by decide +kernel
theorem dX12_item_72 : decode cX12_item 72 = .ok (.iadd, 1) := by decide +kernel
theorem dX12_item_73 : decode cX12_item 73 = .ok (.imul, 1) := by decide +kernel
theorem dX12_item_74 : decode cX12_item 74 = .ok (.iload_n 3, 1) := by decide +kernel
theorem dX12_item_75 : decode cX12_item 75 = .ok (.bipush 100, 2) := by decide +kernel
theorem dX12_item_77 : decode cX12_item 77 = .ok (.irem, 1) := by decide +kernel
theorem dX12_item_78 : decode cX12_item 78 = .ok (.iadd, 1) := by decide +kernel
theorem dX12_item_79 : decode cX12_item 79 = .ok (.iaload, 1) := by decide +kernel
theorem dX12_item_80 : decode cX12_item 80 = .ok (.goto 4, 3) := by decide +kernel
theorem dX12_item_83 : decode cX12_item 83 = .ok (.iconst 0, 1) := by decide +kernel
theorem dX12_item_84 : decode cX12_item 84 = .ok (.ireturn, 1) := by decide +kernel
theorem dX12_item_85 : decode cX12_item 85 = .ok (.aload_n 0, 1) := by decide +kernel
theorem dX12_item_86 : decode cX12_item 86 = .ok (.iload_n 1, 1) := by decide +kernel
theorem dX12_item_87 : decode cX12_item 87 = .ok (.iload_n 2, 1) := by decide +kernel
theorem dX12_item_88 : decode cX12_item 88 = .ok (.invokevirtual 686, 3) := by decide +kernel
theorem dX12_item_91 : decode cX12_item 91 = .ok (.ifCond .ne 5, 3) := by decide +kernel
theorem dX12_item_94 : decode cX12_item 94 = .ok (.iconst 0, 1) := by decide +kernel
theorem dX12_item_95 : decode cX12_item 95 = .ok (.ireturn, 1) := by decide +kernel
theorem dX12_item_96 : decode cX12_item 96 = .ok (.bipush 40, 2) := by decide +kernel
theorem dX12_item_98 : decode cX12_item 98 = .ok (.iload_n 1, 1) := by decide +kernel
theorem dX12_item_99 : decode cX12_item 99 = .ok (.imul, 1) := by decide +kernel
theorem dX12_item_100 : decode cX12_item 100 = .ok (.iload_n 2, 1) := by decide +kernel
theorem dX12_item_101 : decode cX12_item 101 = .ok (.iadd, 1) := by decide +kernel
theorem dX12_item_102 : decode cX12_item 102 = .ok (.istore 4, 2) := by decide +kernel
theorem dX12_item_104 : decode cX12_item 104 = .ok (.aload_n 0, 1) := by decide +kernel
theorem dX12_item_105 : decode cX12_item 105 = .ok (.getfield 141, 3) := by decide +kernel
theorem dX12_item_108 : decode cX12_item 108 = .ok (.bipush 40, 2) := by decide +kernel
theorem dX12_item_110 : decode cX12_item 110 = .ok (.aload_n 0, 1) := by decide +kernel
theorem dX12_item_111 : decode cX12_item 111 = .ok (.getfield 282, 3) := by decide +kernel
theorem dX12_item_114 : decode cX12_item 114 = .ok (.iload_n 1, 1) := by decide +kernel
theorem dX12_item_115 : decode cX12_item 115 = .ok (.iaload, 1) := by decide +kernel
theorem dX12_item_116 : decode cX12_item 116 = .ok (.imul, 1) := by decide +kernel
theorem dX12_item_117 : decode cX12_item 117 = .ok (.iload_n 2, 1) := by decide +kernel
theorem dX12_item_118 : decode cX12_item 118 = .ok (.iadd, 1) := by decide +kernel
theorem dX12_item_119 : decode cX12_item 119 = .ok (.iaload, 1) := by decide +kernel
theorem dX12_item_120 : decode cX12_item 120 = .ok (.istore 5, 2) := by decide +kernel
theorem dX12_item_122 : decode cX12_item 122 = .ok (.iload_n 3, 1) := by decide +kernel
theorem dX12_item_123 : decode cX12_item 123 = .ok (.aload_n 0, 1) := by decide +kernel
theorem dX12_item_124 : decode cX12_item 124 = .ok (.getfield 297, 3) := by decide +kernel
theorem dX12_item_127 : decode cX12_item 127 = .ok (.iload 4, 2) := by decide +kernel
theorem dX12_item_129 : decode cX12_item 129 = .ok (.iaload, 1) := by decide +kernel
theorem dX12_item_130 : decode cX12_item 130 = .ok (.if_icmp .ge 15, 3) := by decide +kernel
theorem dX12_item_133 : decode cX12_item 133 = .ok (.iload 5, 2) := by decide +kernel
theorem dX12_item_135 : decode cX12_item 135 = .ok (.iconst 3, 1) := by decide +kernel
theorem dX12_item_136 : decode cX12_item 136 = .ok (.if_icmp .eq 11, 3) := by decide +kernel
theorem dX12_item_139 : decode cX12_item 139 = .ok (.iload 5, 2) := by decide +kernel
theorem dX12_item_141 : decode cX12_item 141 = .ok (.iconst 5, 1) := by decide +kernel
theorem dX12_item_142 : decode cX12_item 142 = .ok (.if_icmp .eq 5, 3) := by decide +kernel
theorem dX12_item_145 : decode cX12_item 145 = .ok (.iconst 0, 1) := by decide +kernel
theorem dX12_item_146 : decode cX12_item 146 = .ok (.ireturn, 1) := by decide +kernel
theorem dX12_item_147 : decode cX12_item 147 = .ok (.iload 5, 2) := by decide +kernel
theorem dX12_item_149 : decode cX12_item 149 = .ok (.iconst 3, 1) := by decide +kernel
theorem dX12_item_150 : decode cX12_item 150 = .ok (.if_icmp .ne 18, 3) := by decide +kernel
theorem dX12_item_153 : decode cX12_item 153 = .ok (.aload_n 0, 1) := by decide +kernel
theorem dX12_item_154 : decode cX12_item 154 = .ok (.getfield 301, 3) := by decide +kernel
theorem dX12_item_157 : decode cX12_item 157 = .ok (.bipush 60, 2) := by decide +kernel
theorem dX12_item_159 : decode cX12_item 159 = .ok (.iload 4, 2) := by decide +kernel
theorem dX12_item_161 : decode cX12_item 161 = .ok (.imul, 1) := by decide +kernel
theorem dX12_item_162 : decode cX12_item 162 = .ok (.iload_n 3, 1) := by decide +kernel
theorem dX12_item_163 : decode cX12_item 163 = .ok (.iadd, 1) := by decide +kernel
theorem dX12_item_164 : decode cX12_item 164 = .ok (.iaload, 1) := by decide +kernel
theorem dX12_item_165 : decode cX12_item 165 = .ok (.goto 15, 3) := by decide +kernel
theorem dX12_item_168 : decode cX12_item 168 = .ok (.aload_n 0, 1) := by decide +kernel
theorem dX12_item_169 : decode cX12_item 169 = .ok (.getfield 304, 3) := by decide +kernel
theorem dX12_item_172 : decode cX12_item 172 = .ok (.bipush 10, 2) := by decide +kernel
theorem dX12_item_174 : decode cX12_item 174 = .ok (.iload 4, 2) := by decide +kernel
theorem dX12_item_176 : decode cX12_item 176 = .ok (.imul, 1) := by decide +kernel
theorem dX12_item_177 : decode cX12_item 177 = .ok (.iload_n 3, 1) := by decide +kernel
theorem dX12_item_178 : decode cX12_item 178 = .ok (.iadd, 1) := by decide +kernel
theorem dX12_item_179 : decode cX12_item 179 = .ok (.iaload, 1) := by decide +kernel
theorem dX12_item_180 : decode cX12_item 180 = .ok (.ireturn, 1) := by decide +kernel
theorem dX12_may_0 : decode cX12_may 0 = .ok (.iload_n 1, 1) := by decide +kernel
theorem dX12_may_1 : decode cX12_may 1 = .ok (.ifCond .ne 15, 3) := by decide +kernel
theorem dX12_may_4 : decode cX12_may 4 = .ok (.aload_n 0, 1) := by decide +kernel
theorem dX12_may_5 : decode cX12_may 5 = .ok (.getfield 1, 3) := by decide +kernel
theorem dX12_may_8 : decode cX12_may 8 = .ok (.ifCond .ne 8, 3) := by decide +kernel
theorem dX12_may_11 : decode cX12_may 11 = .ok (.aload_n 0, 1) := by decide +kernel
theorem dX12_may_12 : decode cX12_may 12 = .ok (.iload_n 2, 1) := by decide +kernel
theorem dX12_may_13 : decode cX12_may 13 = .ok (.putfield 1, 3) := by decide +kernel
theorem dX12_may_16 : decode cX12_may 16 = .ok (.aload_n 0, 1) := by decide +kernel
