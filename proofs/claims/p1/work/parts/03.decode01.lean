theorem dX11_put_54 : decode cX11_put 54 = .ok (.if_icmp .ge 23, 3) := by decide +kernel
theorem dX11_put_57 : decode cX11_put 57 = .ok (.aload_n 0, 1) := by decide +kernel
theorem dX11_put_58 : decode cX11_put 58 = .ok (.iload_n 1, 1) := by decide +kernel
theorem dX11_put_59 : decode cX11_put 59 = .ok (.iload_n 3, 1) := by decide +kernel
theorem dX11_put_60 : decode cX11_put 60 = .ok (.invokevirtual 120, 3) := by decide +kernel
theorem dX11_put_63 : decode cX11_put 63 = .ok (.ifCond .eq 14, 3) := by decide +kernel
theorem dX11_put_66 : decode cX11_put 66 = .ok (.aload_n 0, 1) := by decide +kernel
theorem dX11_put_67 : decode cX11_put 67 = .ok (.iload_n 3, 1) := by decide +kernel
theorem dX11_put_68 : decode cX11_put 68 = .ok (.iconst 1, 1) := by decide +kernel
theorem dX11_put_69 : decode cX11_put 69 = .ok (.iadd, 1) := by decide +kernel
theorem dX11_put_70 : decode cX11_put 70 = .ok (.iload_n 2, 1) := by decide +kernel
theorem dX11_put_71 : decode cX11_put 71 = .ok (.invokevirtual 124, 3) := by decide +kernel
theorem dX11_put_74 : decode cX11_put 74 = .ok (.ifCond .ne 5, 3) := by decide +kernel
theorem dX11_put_77 : decode cX11_put 77 = .ok (.iconst 0, 1) := by decide +kernel
theorem dX11_put_78 : decode cX11_put 78 = .ok (.ireturn, 1) := by decide +kernel
theorem dX11_put_79 : decode cX11_put 79 = .ok (.iload_n 1, 1) := by decide +kernel
theorem dX11_put_80 : decode cX11_put 80 = .ok (.iconst 2, 1) := by decide +kernel
theorem dX11_put_81 : decode cX11_put 81 = .ok (.if_icmp .ne 23, 3) := by decide +kernel
theorem dX11_put_84 : decode cX11_put 84 = .ok (.aload_n 0, 1) := by decide +kernel
theorem dX11_put_85 : decode cX11_put 85 = .ok (.getfield 56, 3) := by decide +kernel
theorem dX11_put_88 : decode cX11_put 88 = .ok (.aload_n 0, 1) := by decide +kernel
theorem dX11_put_89 : decode cX11_put 89 = .ok (.getfield 11, 3) := by decide +kernel
theorem dX11_put_92 : decode cX11_put 92 = .ok (.iload_n 3, 1) := by decide +kernel
theorem dX11_put_93 : decode cX11_put 93 = .ok (.iconst 1, 1) := by decide +kernel
theorem dX11_put_94 : decode cX11_put 94 = .ok (.iadd, 1) := by decide +kernel
theorem dX11_put_95 : decode cX11_put 95 = .ok (.iload_n 2, 1) := by decide +kernel
theorem dX11_put_96 : decode cX11_put 96 = .ok (.invokevirtual 127, 3) := by decide +kernel
theorem dX11_put_99 : decode cX11_put 99 = .ok (.ifCond .ne 5, 3) := by decide +kernel
theorem dX11_put_102 : decode cX11_put 102 = .ok (.iconst 0, 1) := by decide +kernel
theorem dX11_put_103 : decode cX11_put 103 = .ok (.ireturn, 1) := by decide +kernel
theorem dX11_put_104 : decode cX11_put 104 = .ok (.new 131, 3) := by decide +kernel
theorem dX11_put_107 : decode cX11_put 107 = .ok (.dup, 1) := by decide +kernel
theorem dX11_put_108 : decode cX11_put 108 = .ok (.aload_n 0, 1) := by decide +kernel
theorem dX11_put_109 : decode cX11_put 109 = .ok (.getfield 11, 3) := by decide +kernel
theorem dX11_put_112 : decode cX11_put 112 = .ok (.iconst 0, 1) := by decide +kernel
theorem dX11_put_113 : decode cX11_put 113 = .ok (.iload_n 3, 1) := by decide +kernel
theorem dX11_put_114 : decode cX11_put 114 = .ok (.invokespecial 133, 3) := by decide +kernel
theorem dX11_put_117 : decode cX11_put 117 = .ok (.astore 4, 2) := by decide +kernel
theorem dX11_put_119 : decode cX11_put 119 = .ok (.aload_n 0, 1) := by decide +kernel
theorem dX11_put_120 : decode cX11_put 120 = .ok (.getfield 49, 3) := by decide +kernel
theorem dX11_put_123 : decode cX11_put 123 = .ok (.iload_n 1, 1) := by decide +kernel
theorem dX11_put_124 : decode cX11_put 124 = .ok (.aaload, 1) := by decide +kernel
theorem dX11_put_125 : decode cX11_put 125 = .ok (.aload 4, 2) := by decide +kernel
theorem dX11_put_127 : decode cX11_put 127 = .ok (.new 131, 3) := by decide +kernel
theorem dX11_put_130 : decode cX11_put 130 = .ok (.dup, 1) := by decide +kernel
theorem dX11_put_131 : decode cX11_put 131 = .ok (.aload_n 0, 1) := by decide +kernel
theorem dX11_put_132 : decode cX11_put 132 = .ok (.getfield 11, 3) := by decide +kernel
theorem dX11_put_135 : decode cX11_put 135 = .ok (.iload_n 3, 1) := by decide +kernel
theorem dX11_put_136 : decode cX11_put 136 = .ok (.iconst 1, 1) := by decide +kernel
theorem dX11_put_137 : decode cX11_put 137 = .ok (.iadd, 1) := by decide +kernel
theorem dX11_put_138 : decode cX11_put 138 = .ok (.iload_n 2, 1) := by decide +kernel
theorem dX11_put_139 : decode cX11_put 139 = .ok (.invokespecial 133, 3) := by decide +kernel
theorem dX11_put_142 : decode cX11_put 142 = .ok (.aload_n 0, 1) := by decide +kernel
theorem dX11_put_143 : decode cX11_put 143 = .ok (.getfield 56, 3) := by decide +kernel
theorem dX11_put_146 : decode cX11_put 146 = .ok (.invokevirtual 136, 3) := by decide +kernel
theorem dX11_put_149 : decode cX11_put 149 = .ok (.ifCond .eq 7, 3) := by decide +kernel
theorem dX11_put_152 : decode cX11_put 152 = .ok (.iconst 1, 1) := by decide +kernel
theorem dX11_put_153 : decode cX11_put 153 = .ok (.goto 4, 3) := by decide +kernel
theorem dX11_put_156 : decode cX11_put 156 = .ok (.iconst 0, 1) := by decide +kernel
theorem dX11_put_157 : decode cX11_put 157 = .ok (.ireturn, 1) := by decide +kernel
theorem dX11_record_0 : decode cX11_record 0 = .ok (.aload_n 0, 1) := by decide +kernel
theorem dX11_record_1 : decode cX11_record 1 = .ok (.iload_n 1, 1) := by decide +kernel
theorem dX11_record_2 : decode cX11_record 2 = .ok (.invokevirtual 242, 3) := by decide +kernel
theorem dX11_record_5 : decode cX11_record 5 = .ok (.astore_n 3, 1) := by decide +kernel
theorem dX11_record_6 : decode cX11_record 6 = .ok (.iload_n 2, 1) := by decide +kernel
theorem dX11_record_7 : decode cX11_record 7 = .ok (.tableswitch 46 0 2 #[25, 33, 41], 25) := by decide +kernel
theorem dX11_record_32 : decode cX11_record 32 = .ok (.aload_n 3, 1) := by decide +kernel
theorem dX11_record_33 : decode cX11_record 33 = .ok (.getfield 246, 3) := by decide +kernel
theorem dX11_record_36 : decode cX11_record 36 = .ok (.getfield 111, 3) := by decide +kernel
theorem dX11_record_39 : decode cX11_record 39 = .ok (.ireturn, 1) := by decide +kernel
theorem dX11_record_40 : decode cX11_record 40 = .ok (.aload_n 3, 1) := by decide +kernel
theorem dX11_record_41 : decode cX11_record 41 = .ok (.getfield 247, 3) := by decide +kernel
theorem dX11_record_44 : decode cX11_record 44 = .ok (.getfield 248, 3) := by decide +kernel
theorem dX11_record_47 : decode cX11_record 47 = .ok (.ireturn, 1) := by decide +kernel
theorem dX11_record_48 : decode cX11_record 48 = .ok (.aload_n 3, 1) := by decide +kernel
theorem dX11_record_49 : decode cX11_record 49 = .ok (.getfield 253, 3) := by decide +kernel
theorem dX11_record_52 : decode cX11_record 52 = .ok (.ireturn, 1) := by decide +kernel
theorem dX11_record_53 : decode cX11_record 53 = .ok (.new 101, 3) := by decide +kernel
theorem dX11_record_56 : decode cX11_record 56 = .ok (.dup, 1) := by decide +kernel
theorem dX11_record_57 : decode cX11_record 57 = .ok (.invokespecial 103, 3) := by decide +kernel
theorem dX11_record_60 : decode cX11_record 60 = .ok (.athrow, 1) := by decide +kernel
theorem dX11_recordAt_0 : decode cX11_recordAt 0 = .ok (.iload_n 1, 1) := by decide +kernel
theorem dX11_recordAt_1 : decode cX11_recordAt 1 = .ok (.ifCond .lt 20, 3) := by decide +kernel
theorem dX11_recordAt_4 : decode cX11_recordAt 4 = .ok (.iload_n 1, 1) := by decide +kernel
theorem dX11_recordAt_5 : decode cX11_recordAt 5 = .ok (.aload_n 0, 1) := by decide +kernel
theorem dX11_recordAt_6 : decode cX11_recordAt 6 = .ok (.getfield 83, 3) := by decide +kernel
theorem dX11_recordAt_9 : decode cX11_recordAt 9 = .ok (.if_icmp .ge 12, 3) := by decide +kernel
theorem dX11_recordAt_12 : decode cX11_recordAt 12 = .ok (.iload_n 1, 1) := by decide +kernel
theorem dX11_recordAt_13 : decode cX11_recordAt 13 = .ok (.aload_n 0, 1) := by decide +kernel
theorem dX11_recordAt_14 : decode cX11_recordAt 14 = .ok (.getfield 79, 3) := by decide +kernel
theorem dX11_recordAt_17 : decode cX11_recordAt 17 = .ok (.arraylength, 1) := by decide +kernel
theorem dX11_recordAt_18 : decode cX11_recordAt 18 = .ok (.if_icmp .lt 11, 3) := by decide +kernel
theorem dX11_recordAt_21 : decode cX11_recordAt 21 = .ok (.new 312, 3) := by decide +kernel
theorem dX11_recordAt_24 : decode cX11_recordAt 24 = .ok (.dup, 1) := by decide +kernel
theorem dX11_recordAt_25 : decode cX11_recordAt 25 = .ok (.invokespecial 314, 3) := by decide +kernel
theorem dX11_recordAt_28 : decode cX11_recordAt 28 = .ok (.athrow, 1) := by decide +kernel
theorem dX11_recordAt_29 : decode cX11_recordAt 29 = .ok (.aload_n 0, 1) := by decide +kernel
theorem dX11_recordAt_30 : decode cX11_recordAt 30 = .ok (.getfield 79, 3) := by decide +kernel
theorem dX11_recordAt_33 : decode cX11_recordAt 33 = .ok (.iload_n 1, 1) := by decide +kernel
theorem dX11_recordAt_34 : decode cX11_recordAt 34 = .ok (.aaload, 1) := by decide +kernel
theorem dX11_recordAt_35 : decode cX11_recordAt 35 = .ok (.areturn, 1) := by decide +kernel
theorem dX11_run_0 : decode cX11_run 0 = .ok (.aload_n 0, 1) := by decide +kernel
theorem dX11_run_1 : decode cX11_run 1 = .ok (.iload_n 1, 1) := by decide +kernel
theorem dX11_run_2 : decode cX11_run 2 = .ok (.invokevirtual 148, 3) := by decide +kernel
theorem dX11_run_5 : decode cX11_run 5 = .ok (.ifCond .ne 11, 3) := by decide +kernel
theorem dX11_run_8 : decode cX11_run 8 = .ok (.new 101, 3) := by decide +kernel
theorem dX11_run_11 : decode cX11_run 11 = .ok (.dup, 1) := by decide +kernel
theorem dX11_run_12 : decode cX11_run 12 = .ok (.invokespecial 103, 3) := by decide +kernel
theorem dX11_run_15 : decode cX11_run 15 = .ok (.athrow, 1) := by decide +kernel
theorem dX11_run_16 : decode cX11_run 16 = .ok (.aload_n 0, 1) := by decide +kernel
theorem dX11_run_17 : decode cX11_run 17 = .ok (.getfield 83, 3) := by decide +kernel
theorem dX11_run_20 : decode cX11_run 20 = .ok (.aload_n 0, 1) := by decide +kernel
theorem dX11_run_21 : decode cX11_run 21 = .ok (.getfield 79, 3) := by decide +kernel
theorem dX11_run_24 : decode cX11_run 24 = .ok (.arraylength, 1) := by decide +kernel
theorem dX11_run_25 : decode cX11_run 25 = .ok (.if_icmp .lt 11, 3) := by decide +kernel
theorem dX11_run_28 : decode cX11_run 28 = .ok (.new 151, 3) := by decide +kernel
theorem dX11_run_31 : decode cX11_run 31 = .ok (.dup, 1) := by decide +kernel
theorem dX11_run_32 : decode cX11_run 32 = .ok (.invokespecial 153, 3) := by decide +kernel
theorem dX11_run_35 : decode cX11_run 35 = .ok (.athrow, 1) := by decide +kernel
theorem dX11_run_36 : decode cX11_run 36 = .ok (.aload_n 0, 1) := by decide +kernel
theorem dX11_run_37 : decode cX11_run 37 = .ok (.iload_n 1, 1) := by decide +kernel
theorem dX11_run_38 : decode cX11_run 38 = .ok (.invokevirtual 154, 3) := by decide +kernel
theorem dX11_run_41 : decode cX11_run 41 = .ok (.aload_n 0, 1) := by decide +kernel
theorem dX11_run_42 : decode cX11_run 42 = .ok (.getfield 60, 3) := by decide +kernel
theorem dX11_run_45 : decode cX11_run 45 = .ok (.getfield 157, 3) := by decide +kernel
theorem dX11_run_48 : decode cX11_run 48 = .ok (.ifCond .ne 18, 3) := by decide +kernel
theorem dX11_run_51 : decode cX11_run 51 = .ok (.aload_n 0, 1) := by decide +kernel
theorem dX11_run_52 : decode cX11_run 52 = .ok (.getfield 60, 3) := by decide +kernel
theorem dX11_run_55 : decode cX11_run 55 = .ok (.aload_n 0, 1) := by decide +kernel
theorem dX11_run_56 : decode cX11_run 56 = .ok (.getfield 49, 3) := by decide +kernel
theorem dX11_run_59 : decode cX11_run 59 = .ok (.iconst 2, 1) := by decide +kernel
theorem dX11_run_60 : decode cX11_run 60 = .ok (.aaload, 1) := by decide +kernel
theorem dX11_run_61 : decode cX11_run 61 = .ok (.bipush 60, 2) := by decide +kernel
theorem dX11_run_63 : decode cX11_run 63 = .ok (.invokevirtual 160, 3) := by decide +kernel
theorem dX11_run_66 : decode cX11_run 66 = .ok (.aload_n 0, 1) := by decide +kernel
theorem dX11_run_67 : decode cX11_run 67 = .ok (.getfield 60, 3) := by decide +kernel
theorem dX11_run_70 : decode cX11_run 70 = .ok (.getfield 157, 3) := by decide +kernel
theorem dX11_run_73 : decode cX11_run 73 = .ok (.ifCond .ne 22, 3) := by decide +kernel
theorem dX11_run_76 : decode cX11_run 76 = .ok (.aload_n 0, 1) := by decide +kernel
theorem dX11_run_77 : decode cX11_run 77 = .ok (.getfield 60, 3) := by decide +kernel
theorem dX11_run_80 : decode cX11_run 80 = .ok (.getfield 164, 3) := by decide +kernel
theorem dX11_run_83 : decode cX11_run 83 = .ok (.ifCond .ne 12, 3) := by decide +kernel
theorem dX11_run_86 : decode cX11_run 86 = .ok (.aload_n 0, 1) := by decide +kernel
theorem dX11_run_87 : decode cX11_run 87 = .ok (.getfield 60, 3) := by decide +kernel
theorem dX11_run_90 : decode cX11_run 90 = .ok (.iconst 4, 1) := by decide +kernel
theorem dX11_run_91 : decode cX11_run 91 = .ok (.iconst 0, 1) := by decide +kernel
theorem dX11_run_92 : decode cX11_run 92 = .ok (.invokevirtual 165, 3) := by decide +kernel
theorem dX11_run_95 : decode cX11_run 95 = .ok (.aload_n 0, 1) := by decide +kernel
theorem dX11_run_96 : decode cX11_run 96 = .ok (.getfield 60, 3) := by decide +kernel
theorem dX11_run_99 : decode cX11_run 99 = .ok (.getfield 157, 3) := by decide +kernel
theorem dX11_run_102 : decode cX11_run 102 = .ok (.ifCond .ne 77, 3) := by decide +kernel
theorem dX11_run_105 : decode cX11_run 105 = .ok (.aload_n 0, 1) := by decide +kernel
theorem dX11_run_106 : decode cX11_run 106 = .ok (.getfield 66, 3) := by decide +kernel
theorem dX11_run_109 : decode cX11_run 109 = .ok (.aload_n 0, 1) := by decide +kernel
theorem dX11_run_110 : decode cX11_run 110 = .ok (.getfield 60, 3) := by decide +kernel
theorem dX11_run_113 : decode cX11_run 113 = .ok (.aload_n 0, 1) := by decide +kernel
theorem dX11_run_114 : decode cX11_run 114 = .ok (.getfield 28, 3) := by decide +kernel
theorem dX11_run_117 : decode cX11_run 117 = .ok (.aload_n 0, 1) := by decide +kernel
theorem dX11_run_118 : decode cX11_run 118 = .ok (.getfield 32, 3) := by decide +kernel
theorem dX11_run_121 : decode cX11_run 121 = .ok (.aload_n 0, 1) := by decide +kernel
theorem dX11_run_122 : decode cX11_run 122 = .ok (.getfield 87, 3) := by decide +kernel
theorem dX11_run_125 : decode cX11_run 125 = .ok (.iconst 0, 1) := by decide +kernel
theorem dX11_run_126 : decode cX11_run 126 = .ok (.invokevirtual 169, 3) := by decide +kernel
theorem dX11_run_129 : decode cX11_run 129 = .ok (.ifCond .eq 50, 3) := by decide +kernel
theorem dX11_run_132 : decode cX11_run 132 = .ok (.aload_n 0, 1) := by decide +kernel
theorem dX11_run_133 : decode cX11_run 133 = .ok (.getfield 66, 3) := by decide +kernel
theorem dX11_run_136 : decode cX11_run 136 = .ok (.invokevirtual 173, 3) := by decide +kernel
theorem dX11_run_139 : decode cX11_run 139 = .ok (.ifCond .eq 40, 3) := by decide +kernel
theorem dX11_run_142 : decode cX11_run 142 = .ok (.aload_n 0, 1) := by decide +kernel
theorem dX11_run_143 : decode cX11_run 143 = .ok (.getfield 66, 3) := by decide +kernel
theorem dX11_run_146 : decode cX11_run 146 = .ok (.aload_n 0, 1) := by decide +kernel
theorem dX11_run_147 : decode cX11_run 147 = .ok (.getfield 49, 3) := by decide +kernel
theorem dX11_run_150 : decode cX11_run 150 = .ok (.iconst 0, 1) := by decide +kernel
theorem dX11_run_151 : decode cX11_run 151 = .ok (.aaload, 1) := by decide +kernel
theorem dX11_run_152 : decode cX11_run 152 = .ok (.aload_n 0, 1) := by decide +kernel
theorem dX11_run_153 : decode cX11_run 153 = .ok (.getfield 49, 3) := by decide +kernel
theorem dX11_run_156 : decode cX11_run 156 = .ok (.iconst 1, 1) := by decide +kernel
theorem dX11_run_157 : decode cX11_run 157 = .ok (.aaload, 1) := by decide +kernel
theorem dX11_run_158 : decode cX11_run 158 = .ok (.invokevirtual 177, 3) := by decide +kernel
theorem dX11_run_161 : decode cX11_run 161 = .ok (.ifCond .eq 18, 3) := by decide +kernel
theorem dX11_run_164 : decode cX11_run 164 = .ok (.aload_n 0, 1) := by decide +kernel
theorem dX11_run_165 : decode cX11_run 165 = .ok (.getfield 66, 3) := by decide +kernel
theorem dX11_run_168 : decode cX11_run 168 = .ok (.invokevirtual 181, 3) := by decide +kernel
theorem dX11_run_171 : decode cX11_run 171 = .ok (.ifCond .eq 8, 3) := by decide +kernel
theorem dX11_run_174 : decode cX11_run 174 = .ok (.aload_n 0, 1) := by decide +kernel
theorem dX11_run_175 : decode cX11_run 175 = .ok (.invokevirtual 184, 3) := by decide +kernel
theorem dX11_run_178 : decode cX11_run 178 = .ok (.ireturn, 1) := by decide +kernel
theorem dX11_run_179 : decode cX11_run 179 = .ok (.aload_n 0, 1) := by decide +kernel
theorem dX11_run_180 : decode cX11_run 180 = .ok (.invokevirtual 188, 3) := by decide +kernel
theorem dX11_run_183 : decode cX11_run 183 = .ok (.aload_n 0, 1) := by decide +kernel
theorem dX11_run_184 : decode cX11_run 184 = .ok (.getfield 60, 3) := by decide +kernel
theorem dX11_run_187 : decode cX11_run 187 = .ok (.getfield 157, 3) := by decide +kernel
theorem dX11_run_190 : decode cX11_run 190 = .ok (.bipush 20, 2) := by decide +kernel
theorem dX11_run_192 : decode cX11_run 192 = .ok (.isub, 1) := by decide +kernel
theorem dX11_run_193 : decode cX11_run 193 = .ok (.ireturn, 1) := by decide +kernel
theorem dX11_same_0 : decode cX11_same 0 = .ok (.aload_n 0, 1) := by decide +kernel
theorem dX11_same_1 : decode cX11_same 1 = .ok (.iload_n 1, 1) := by decide +kernel
theorem dX11_same_2 : decode cX11_same 2 = .ok (.invokevirtual 242, 3) := by decide +kernel
theorem dX11_same_5 : decode cX11_same 5 = .ok (.aload_n 0, 1) := by decide +kernel
theorem dX11_same_6 : decode cX11_same 6 = .ok (.iload_n 2, 1) := by decide +kernel
theorem dX11_same_7 : decode cX11_same 7 = .ok (.invokevirtual 242, 3) := by decide +kernel
theorem dX11_same_10 : decode cX11_same 10 = .ok (.invokevirtual 273, 3) := by decide +kernel
theorem dX11_same_13 : decode cX11_same 13 = .ok (.ireturn, 1) := by decide +kernel
theorem dX11_show_0 : decode cX11_show 0 = .ok (.iload_n 1, 1) := by decide +kernel
theorem dX11_show_1 : decode cX11_show 1 = .ok (.ifCond .eq 16, 3) := by decide +kernel
theorem dX11_show_4 : decode cX11_show 4 = .ok (.iload_n 1, 1) := by decide +kernel
theorem dX11_show_5 : decode cX11_show 5 = .ok (.iconst 1, 1) := by decide +kernel
theorem dX11_show_6 : decode cX11_show 6 = .ok (.if_icmp .eq 11, 3) := by decide +kernel
theorem dX11_show_9 : decode cX11_show 9 = .ok (.new 101, 3) := by decide +kernel
theorem dX11_show_12 : decode cX11_show 12 = .ok (.dup, 1) := by decide +kernel
theorem dX11_show_13 : decode cX11_show 13 = .ok (.invokespecial 103, 3) := by decide +kernel
theorem dX11_show_16 : decode cX11_show 16 = .ok (.athrow, 1) := by decide +kernel
theorem dX11_show_17 : decode cX11_show 17 = .ok (.iload_n 1, 1) := by decide +kernel
theorem dX11_show_18 : decode cX11_show 18 = .ok (.ifCond .ne 14, 3) := by decide +kernel
theorem dX11_show_21 : decode cX11_show 21 = .ok (.aload_n 0, 1) := by decide +kernel
theorem dX11_show_22 : decode cX11_show 22 = .ok (.getfield 73, 3) := by decide +kernel
theorem dX11_show_25 : decode cX11_show 25 = .ok (.iload_n 2, 1) := by decide +kernel
theorem dX11_show_26 : decode cX11_show 26 = .ok (.invokevirtual 304, 3) := by decide +kernel
theorem dX11_show_29 : decode cX11_show 29 = .ok (.goto 11, 3) := by decide +kernel
theorem dX11_show_32 : decode cX11_show 32 = .ok (.aload_n 0, 1) := by decide +kernel
theorem dX11_show_33 : decode cX11_show 33 = .ok (.getfield 73, 3) := by decide +kernel
theorem dX11_show_36 : decode cX11_show 36 = .ok (.iload_n 2, 1) := by decide +kernel
theorem dX11_show_37 : decode cX11_show 37 = .ok (.invokevirtual 308, 3) := by decide +kernel
theorem dX11_show_40 : decode cX11_show 40 = .ok (.astore_n 3, 1) := by decide +kernel
theorem dX11_show_41 : decode cX11_show 41 = .ok (.aload_n 3, 1) := by decide +kernel
theorem dX11_show_42 : decode cX11_show 42 = .ok (.ifnonnull 5, 3) := by decide +kernel
theorem dX11_show_45 : decode cX11_show 45 = .ok (.iconst (-1), 1) := by decide +kernel
theorem dX11_show_46 : decode cX11_show 46 = .ok (.ireturn, 1) := by decide +kernel
theorem dX11_show_47 : decode cX11_show 47 = .ok (.aload_n 0, 1) := by decide +kernel
theorem dX11_show_48 : decode cX11_show 48 = .ok (.getfield 22, 3) := by decide +kernel
theorem dX11_show_51 : decode cX11_show 51 = .ok (.iconst 0, 1) := by decide +kernel
theorem dX11_show_52 : decode cX11_show 52 = .ok (.invokevirtual 277, 3) := by decide +kernel
theorem dX11_show_55 : decode cX11_show 55 = .ok (.aload_n 3, 1) := by decide +kernel
theorem dX11_show_56 : decode cX11_show 56 = .ok (.aload_n 0, 1) := by decide +kernel
theorem dX11_show_57 : decode cX11_show 57 = .ok (.getfield 22, 3) := by decide +kernel
theorem dX11_show_60 : decode cX11_show 60 = .ok (.invokevirtual 311, 3) := by decide +kernel
theorem dX11_show_63 : decode cX11_show 63 = .ok (.aload_n 0, 1) := by decide +kernel
theorem dX11_show_64 : decode cX11_show 64 = .ok (.getfield 22, 3) := by decide +kernel
theorem dX11_show_67 : decode cX11_show 67 = .ok (.invokevirtual 233, 3) := by decide +kernel
theorem dX11_show_70 : decode cX11_show 70 = .ok (.ireturn, 1) := by decide +kernel
theorem dX11_source_0 : decode cX11_source 0 = .ok (.aload_n 0, 1) := by decide +kernel
theorem dX11_source_1 : decode cX11_source 1 = .ok (.iload_n 1, 1) := by decide +kernel
theorem dX11_source_2 : decode cX11_source 2 = .ok (.invokevirtual 242, 3) := by decide +kernel
theorem dX11_source_5 : decode cX11_source 5 = .ok (.astore_n 3, 1) := by decide +kernel
theorem dX11_source_6 : decode cX11_source 6 = .ok (.aload_n 3, 1) := by decide +kernel
theorem dX11_source_7 : decode cX11_source 7 = .ok (.iload_n 2, 1) := by decide +kernel
theorem dX11_source_8 : decode cX11_source 8 = .ok (.invokevirtual 256, 3) := by decide +kernel
theorem dX11_source_11 : decode cX11_source 11 = .ok (.ifCond .eq 12, 3) := by decide +kernel
theorem dX11_source_14 : decode cX11_source 14 = .ok (.aload_n 3, 1) := by decide +kernel
theorem dX11_source_15 : decode cX11_source 15 = .ok (.getfield 259, 3) := by decide +kernel
theorem dX11_source_18 : decode cX11_source 18 = .ok (.iload_n 2, 1) := by decide +kernel
theorem dX11_source_19 : decode cX11_source 19 = .ok (.iaload, 1) := by decide +kernel
theorem dX11_source_20 : decode cX11_source 20 = .ok (.goto 4, 3) := by decide +kernel
theorem dX11_source_23 : decode cX11_source 23 = .ok (.iconst (-1), 1) := by decide +kernel
theorem dX11_source_24 : decode cX11_source 24 = .ok (.ireturn, 1) := by decide +kernel
theorem dX11_takeLine_0 : decode cX11_takeLine 0 = .ok (.aload_n 0, 1) := by decide +kernel
theorem dX11_takeLine_1 : decode cX11_takeLine 1 = .ok (.iconst 0, 1) := by decide +kernel
theorem dX11_takeLine_2 : decode cX11_takeLine 2 = .ok (.putfield 15, 3) := by decide +kernel
theorem dX11_takeLine_5 : decode cX11_takeLine 5 = .ok (.aload_n 0, 1) := by decide +kernel
theorem dX11_takeLine_6 : decode cX11_takeLine 6 = .ok (.getfield 73, 3) := by decide +kernel
theorem dX11_takeLine_9 : decode cX11_takeLine 9 = .ok (.invokevirtual 191, 3) := by decide +kernel
theorem dX11_takeLine_12 : decode cX11_takeLine 12 = .ok (.aload_n 0, 1) := by decide +kernel
theorem dX11_takeLine_13 : decode cX11_takeLine 13 = .ok (.getfield 60, 3) := by decide +kernel
theorem dX11_takeLine_16 : decode cX11_takeLine 16 = .ok (.aload_n 0, 1) := by decide +kernel
theorem dX11_takeLine_17 : decode cX11_takeLine 17 = .ok (.getfield 11, 3) := by decide +kernel
theorem dX11_takeLine_20 : decode cX11_takeLine 20 = .ok (.iconst 0, 1) := by decide +kernel
theorem dX11_takeLine_21 : decode cX11_takeLine 21 = .ok (.iload_n 1, 1) := by decide +kernel
theorem dX11_takeLine_22 : decode cX11_takeLine 22 = .ok (.invokevirtual 127, 3) := by decide +kernel
theorem dX11_takeLine_25 : decode cX11_takeLine 25 = .ok (.pop, 1) := by decide +kernel
theorem dX11_takeLine_26 : decode cX11_takeLine 26 = .ok (.return_, 1) := by decide +kernel
theorem dX11_value_0 : decode cX11_value 0 = .ok (.aload_n 0, 1) := by decide +kernel
theorem dX11_value_1 : decode cX11_value 1 = .ok (.iload_n 1, 1) := by decide +kernel
theorem dX11_value_2 : decode cX11_value 2 = .ok (.invokevirtual 242, 3) := by decide +kernel
theorem dX11_value_5 : decode cX11_value 5 = .ok (.astore_n 3, 1) := by decide +kernel
theorem dX11_value_6 : decode cX11_value 6 = .ok (.aload_n 3, 1) := by decide +kernel
theorem dX11_value_7 : decode cX11_value 7 = .ok (.iload_n 2, 1) := by decide +kernel
theorem dX11_value_8 : decode cX11_value 8 = .ok (.invokevirtual 256, 3) := by decide +kernel
theorem dX11_value_11 : decode cX11_value 11 = .ok (.ifCond .eq 12, 3) := by decide +kernel
theorem dX11_value_14 : decode cX11_value 14 = .ok (.aload_n 3, 1) := by decide +kernel
theorem dX11_value_15 : decode cX11_value 15 = .ok (.getfield 263, 3) := by decide +kernel
theorem dX11_value_18 : decode cX11_value 18 = .ok (.iload_n 2, 1) := by decide +kernel
theorem dX11_value_19 : decode cX11_value 19 = .ok (.iaload, 1) := by decide +kernel
theorem dX11_value_20 : decode cX11_value 20 = .ok (.goto 4, 3) := by decide +kernel
theorem dX11_value_23 : decode cX11_value 23 = .ok (.iconst 0, 1) := by decide +kernel
theorem dX11_value_24 : decode cX11_value 24 = .ok (.ireturn, 1) := by decide +kernel
theorem dX11_word_0 : decode cX11_word 0 = .ok (.iload_n 1, 1) := by decide +kernel
theorem dX11_word_1 : decode cX11_word 1 = .ok (.ifCond .lt 26, 3) := by decide +kernel
theorem dX11_word_4 : decode cX11_word 4 = .ok (.iload_n 1, 1) := by decide +kernel
theorem dX11_word_5 : decode cX11_word 5 = .ok (.aload_n 0, 1) := by decide +kernel
theorem dX11_word_6 : decode cX11_word 6 = .ok (.getfield 60, 3) := by decide +kernel
theorem dX11_word_9 : decode cX11_word 9 = .ok (.getfield 164, 3) := by decide +kernel
theorem dX11_word_12 : decode cX11_word 12 = .ok (.if_icmp .ge 15, 3) := by decide +kernel
theorem dX11_word_15 : decode cX11_word 15 = .ok (.iload_n 1, 1) := by decide +kernel
theorem dX11_word_16 : decode cX11_word 16 = .ok (.aload_n 0, 1) := by decide +kernel
theorem dX11_word_17 : decode cX11_word 17 = .ok (.getfield 60, 3) := by decide +kernel
theorem dX11_word_20 : decode cX11_word 20 = .ok (.getfield 194, 3) := by decide +kernel
theorem dX11_word_23 : decode cX11_word 23 = .ok (.arraylength, 1) := by decide +kernel
theorem dX11_word_24 : decode cX11_word 24 = .ok (.if_icmp .lt 5, 3) := by decide +kernel
theorem dX11_word_27 : decode cX11_word 27 = .ok (.iconst (-1), 1) := by decide +kernel
theorem dX11_word_28 : decode cX11_word 28 = .ok (.ireturn, 1) := by decide +kernel
theorem dX11_word_29 : decode cX11_word 29 = .ok (.aload_n 0, 1) := by decide +kernel
theorem dX11_word_30 : decode cX11_word 30 = .ok (.getfield 60, 3) := by decide +kernel
theorem dX11_word_33 : decode cX11_word 33 = .ok (.getfield 194, 3) := by decide +kernel
theorem dX11_word_36 : decode cX11_word 36 = .ok (.iload_n 1, 1) := by decide +kernel
theorem dX11_word_37 : decode cX11_word 37 = .ok (.aaload, 1) := by decide +kernel
theorem dX11_word_38 : decode cX11_word 38 = .ok (.iload_n 2, 1) := by decide +kernel
theorem dX11_word_39 : decode cX11_word 39 = .ok (.invokevirtual 229, 3) := by decide +kernel
theorem dX11_word_42 : decode cX11_word 42 = .ok (.ireturn, 1) := by decide +kernel
theorem dX12_init_0 : decode cX12_init 0 = .ok (.aload_n 0, 1) := by decide +kernel
theorem dX12_init_1 : decode cX12_init 1 = .ok (.invokespecial 46, 3) := by decide +kernel
theorem dX12_init_4 : decode cX12_init 4 = .ok (.aload_n 0, 1) := by decide +kernel
theorem dX12_init_5 : decode cX12_init 5 = .ok (.bipush 22, 2) := by decide +kernel
theorem dX12_init_7 : decode cX12_init 7 = .ok (.newarray .long, 2) := by decide +kernel
theorem dX12_init_9 : decode cX12_init 9 = .ok (.dup, 1) := by decide +kernel
theorem dX12_init_10 : decode cX12_init 10 = .ok (.iconst 0, 1) := by decide +kernel
theorem dX12_init_11 : decode cX12_init 11 = .ok (.getstatic 52, 3) := by decide +kernel
theorem dX12_init_14 : decode cX12_init 14 = .ok (.lastore, 1) := by decide +kernel
theorem dX12_init_15 : decode cX12_init 15 = .ok (.dup, 1) := by decide +kernel
theorem dX12_init_16 : decode cX12_init 16 = .ok (.iconst 1, 1) := by decide +kernel
theorem dX12_init_17 : decode cX12_init 17 = .ok (.getstatic 56, 3) := by decide +kernel
theorem dX12_init_20 : decode cX12_init 20 = .ok (.lastore, 1) := by decide +kernel
theorem dX12_init_21 : decode cX12_init 21 = .ok (.dup, 1) := by decide +kernel
theorem dX12_init_22 : decode cX12_init 22 = .ok (.iconst 2, 1) := by decide +kernel
theorem dX12_init_23 : decode cX12_init 23 = .ok (.getstatic 59, 3) := by decide +kernel
theorem dX12_init_26 : decode cX12_init 26 = .ok (.lastore, 1) := by decide +kernel
theorem dX12_init_27 : decode cX12_init 27 = .ok (.dup, 1) := by decide +kernel
theorem dX12_init_28 : decode cX12_init 28 = .ok (.iconst 3, 1) := by decide +kernel
theorem dX12_init_29 : decode cX12_init 29 = .ok (.getstatic 62, 3) := by decide +kernel
theorem dX12_init_32 : decode cX12_init 32 = .ok (.lastore, 1) := by decide +kernel
theorem dX12_init_33 : decode cX12_init 33 = .ok (.dup, 1) := by decide +kernel
theorem dX12_init_34 : decode cX12_init 34 = .ok (.iconst 4, 1) := by decide +kernel
theorem dX12_init_35 : decode cX12_init 35 = .ok (.ldc 65, 2) := by decide +kernel
theorem dX12_init_37 : decode cX12_init 37 = .ok (.invokestatic 67, 3) := by decide +kernel
theorem dX12_init_40 : decode cX12_init 40 = .ok (.lastore, 1) := by decide +kernel
theorem dX12_init_41 : decode cX12_init 41 = .ok (.dup, 1) := by decide +kernel
theorem dX12_init_42 : decode cX12_init 42 = .ok (.iconst 5, 1) := by decide +kernel
theorem dX12_init_43 : decode cX12_init 43 = .ok (.ldc 71, 2) := by decide +kernel
theorem dX12_init_45 : decode cX12_init 45 = .ok (.invokestatic 67, 3) := by decide +kernel
theorem dX12_init_48 : decode cX12_init 48 = .ok (.lastore, 1) := by decide +kernel
theorem dX12_init_49 : decode cX12_init 49 = .ok (.dup, 1) := by decide +kernel
theorem dX12_init_50 : decode cX12_init 50 = .ok (.bipush 6, 2) := by decide +kernel
theorem dX12_init_52 : decode cX12_init 52 = .ok (.getstatic 73, 3) := by decide +kernel
theorem dX12_init_55 : decode cX12_init 55 = .ok (.lastore, 1) := by decide +kernel
theorem dX12_init_56 : decode cX12_init 56 = .ok (.dup, 1) := by decide +kernel
theorem dX12_init_57 : decode cX12_init 57 = .ok (.bipush 7, 2) := by decide +kernel
theorem dX12_init_59 : decode cX12_init 59 = .ok (.getstatic 76, 3) := by decide +kernel
theorem dX12_init_62 : decode cX12_init 62 = .ok (.lastore, 1) := by decide +kernel
theorem dX12_init_63 : decode cX12_init 63 = .ok (.dup, 1) := by decide +kernel
theorem dX12_init_64 : decode cX12_init 64 = .ok (.bipush 8, 2) := by decide +kernel
theorem dX12_init_66 : decode cX12_init 66 = .ok (.ldc 79, 2) := by decide +kernel
theorem dX12_init_68 : decode cX12_init 68 = .ok (.invokestatic 67, 3) := by decide +kernel
theorem dX12_init_71 : decode cX12_init 71 = .ok (.lastore, 1) := by decide +kernel
theorem dX12_init_72 : decode cX12_init 72 = .ok (.dup, 1) := by decide +kernel
theorem dX12_init_73 : decode cX12_init 73 = .ok (.bipush 9, 2) := by decide +kernel
theorem dX12_init_75 : decode cX12_init 75 = .ok (.ldc 81, 2) := by decide +kernel
theorem dX12_init_77 : decode cX12_init 77 = .ok (.invokestatic 67, 3) := by decide +kernel
theorem dX12_init_80 : decode cX12_init 80 = .ok (.lastore, 1) := by decide +kernel
theorem dX12_init_81 : decode cX12_init 81 = .ok (.dup, 1) := by decide +kernel
theorem dX12_init_82 : decode cX12_init 82 = .ok (.bipush 10, 2) := by decide +kernel
theorem dX12_init_84 : decode cX12_init 84 = .ok (.getstatic 83, 3) := by decide +kernel
theorem dX12_init_87 : decode cX12_init 87 = .ok (.lastore, 1) := by decide +kernel
theorem dX12_init_88 : decode cX12_init 88 = .ok (.dup, 1) := by decide +kernel
theorem dX12_init_89 : decode cX12_init 89 = .ok (.bipush 11, 2) := by decide +kernel
theorem dX12_init_91 : decode cX12_init 91 = .ok (.ldc 86, 2) := by decide +kernel
theorem dX12_init_93 : decode cX12_init 93 = .ok (.invokestatic 67, 3) := by decide +kernel
theorem dX12_init_96 : decode cX12_init 96 = .ok (.lastore, 1) := by decide +kernel
theorem dX12_init_97 : decode cX12_init 97 = .ok (.dup, 1) := by decide +kernel
theorem dX12_init_98 : decode cX12_init 98 = .ok (.bipush 12, 2) := by decide +kernel
theorem dX12_init_100 : decode cX12_init 100 = .ok (.getstatic 88, 3) := by decide +kernel
theorem dX12_init_103 : decode cX12_init 103 = .ok (.lastore, 1) := by decide +kernel
theorem dX12_init_104 : decode cX12_init 104 = .ok (.dup, 1) := by decide +kernel
theorem dX12_init_105 : decode cX12_init 105 = .ok (.bipush 13, 2) := by decide +kernel
theorem dX12_init_107 : decode cX12_init 107 = .ok (.ldc 91, 2) := by decide +kernel
theorem dX12_init_109 : decode cX12_init 109 = .ok (.invokestatic 67, 3) := by decide +kernel
theorem dX12_init_112 : decode cX12_init 112 = .ok (.lastore, 1) := by decide +kernel
theorem dX12_init_113 : decode cX12_init 113 = .ok (.dup, 1) := by decide +kernel
theorem dX12_init_114 : decode cX12_init 114 = .ok (.bipush 14, 2) := by decide +kernel
theorem dX12_init_116 : decode cX12_init 116 = .ok (.ldc 93, 2) := by decide +kernel
theorem dX12_init_118 : decode cX12_init 118 = .ok (.invokestatic 67, 3) := by decide +kernel
theorem dX12_init_121 : decode cX12_init 121 = .ok (.lastore, 1) := by decide +kernel
theorem dX12_init_122 : decode cX12_init 122 = .ok (.dup, 1) := by decide +kernel
theorem dX12_init_123 : decode cX12_init 123 = .ok (.bipush 15, 2) := by decide +kernel
theorem dX12_init_125 : decode cX12_init 125 = .ok (.ldc 95, 2) := by decide +kernel
theorem dX12_init_127 : decode cX12_init 127 = .ok (.invokestatic 67, 3) := by decide +kernel
theorem dX12_init_130 : decode cX12_init 130 = .ok (.lastore, 1) := by decide +kernel
theorem dX12_init_131 : decode cX12_init 131 = .ok (.dup, 1) := by decide +kernel
theorem dX12_init_132 : decode cX12_init 132 = .ok (.bipush 16, 2) := by decide +kernel
theorem dX12_init_134 : decode cX12_init 134 = .ok (.ldc 97, 2) := by decide +kernel
theorem dX12_init_136 : decode cX12_init 136 = .ok (.invokestatic 67, 3) := by decide +kernel
theorem dX12_init_139 : decode cX12_init 139 = .ok (.lastore, 1) := by decide +kernel
theorem dX12_init_140 : decode cX12_init 140 = .ok (.dup, 1) := by decide +kernel
theorem dX12_init_141 : decode cX12_init 141 = .ok (.bipush 17, 2) := by decide +kernel
theorem dX12_init_143 : decode cX12_init 143 = .ok (.ldc 99, 2) := by decide +kernel
theorem dX12_init_145 : decode cX12_init 145 = .ok (.invokestatic 67, 3) := by decide +kernel
theorem dX12_init_148 : decode cX12_init 148 = .ok (.lastore, 1) := by decide +kernel
theorem dX12_init_149 : decode cX12_init 149 = .ok (.dup, 1) := by decide +kernel
theorem dX12_init_150 : decode cX12_init 150 = .ok (.bipush 18, 2) := by decide +kernel
theorem dX12_init_152 : decode cX12_init 152 = .ok (.ldc 101, 2) := by decide +kernel
theorem dX12_init_154 : decode cX12_init 154 = .ok (.invokestatic 67, 3) := by decide +kernel
theorem dX12_init_157 : decode cX12_init 157 = .ok (.lastore, 1) := by decide +kernel
theorem dX12_init_158 : decode cX12_init 158 = .ok (.dup, 1) := by decide +kernel
theorem dX12_init_159 : decode cX12_init 159 = .ok (.bipush 19, 2) := by decide +kernel
theorem dX12_init_161 : decode cX12_init 161 = .ok (.ldc 103, 2) := by decide +kernel
theorem dX12_init_163 : decode cX12_init 163 = .ok (.invokestatic 67, 3) := by decide +kernel
theorem dX12_init_166 : decode cX12_init 166 = .ok (.lastore, 1) := by decide +kernel
theorem dX12_init_167 : decode cX12_init 167 = .ok (.dup, 1) := by decide +kernel
theorem dX12_init_168 : decode cX12_init 168 = .ok (.bipush 20, 2) := by decide +kernel
theorem dX12_init_170 : decode cX12_init 170 = .ok (.getstatic 105, 3) := by decide +kernel
theorem dX12_init_173 : decode cX12_init 173 = .ok (.lastore, 1) := by decide +kernel
theorem dX12_init_174 : decode cX12_init 174 = .ok (.dup, 1) := by decide +kernel
theorem dX12_init_175 : decode cX12_init 175 = .ok (.bipush 21, 2) := by decide +kernel
theorem dX12_init_177 : decode cX12_init 177 = .ok (.ldc 108, 2) := by decide +kernel
theorem dX12_init_179 : decode cX12_init 179 = .ok (.invokestatic 67, 3) := by decide +kernel
theorem dX12_init_182 : decode cX12_init 182 = .ok (.lastore, 1) := by decide +kernel
theorem dX12_init_183 : decode cX12_init 183 = .ok (.putfield 34, 3) := by decide +kernel
theorem dX12_init_186 : decode cX12_init 186 = .ok (.aload_n 0, 1) := by decide +kernel
theorem dX12_init_187 : decode cX12_init 187 = .ok (.sipush 221, 3) := by decide +kernel
theorem dX12_init_190 : decode cX12_init 190 = .ok (.newarray .long, 2) := by decide +kernel
theorem dX12_init_192 : decode cX12_init 192 = .ok (.putfield 110, 3) := by decide +kernel
theorem dX12_init_195 : decode cX12_init 195 = .ok (.aload_n 0, 1) := by decide +kernel
theorem dX12_init_196 : decode cX12_init 196 = .ok (.sipush 221, 3) := by decide +kernel
theorem dX12_init_199 : decode cX12_init 199 = .ok (.newarray .long, 2) := by decide +kernel
theorem dX12_init_201 : decode cX12_init 201 = .ok (.putfield 113, 3) := by decide +kernel
theorem dX12_init_204 : decode cX12_init 204 = .ok (.aload_n 0, 1) := by decide +kernel
theorem dX12_init_205 : decode cX12_init 205 = .ok (.bipush 13, 2) := by decide +kernel
theorem dX12_init_207 : decode cX12_init 207 = .ok (.newarray .int, 2) := by decide +kernel
theorem dX12_init_209 : decode cX12_init 209 = .ok (.putfield 116, 3) := by decide +kernel
theorem dX12_init_212 : decode cX12_init 212 = .ok (.aload_n 0, 1) := by decide +kernel
theorem dX12_init_213 : decode cX12_init 213 = .ok (.sipush 221, 3) := by decide +kernel
theorem dX12_init_216 : decode cX12_init 216 = .ok (.newarray .int, 2) := by decide +kernel
theorem dX12_init_218 : decode cX12_init 218 = .ok (.putfield 38, 3) := by decide +kernel
theorem dX12_init_221 : decode cX12_init 221 = .ok (.aload_n 0, 1) := by decide +kernel
theorem dX12_init_222 : decode cX12_init 222 = .ok (.sipush 221, 3) := by decide +kernel
theorem dX12_init_225 : decode cX12_init 225 = .ok (.newarray .int, 2) := by decide +kernel
theorem dX12_init_227 : decode cX12_init 227 = .ok (.putfield 119, 3) := by decide +kernel
theorem dX12_init_230 : decode cX12_init 230 = .ok (.aload_n 0, 1) := by decide +kernel
theorem dX12_init_231 : decode cX12_init 231 = .ok (.bipush 13, 2) := by decide +kernel
theorem dX12_init_233 : decode cX12_init 233 = .ok (.newarray .int, 2) := by decide +kernel
theorem dX12_init_235 : decode cX12_init 235 = .ok (.putfield 122, 3) := by decide +kernel
theorem dX12_init_238 : decode cX12_init 238 = .ok (.aload_n 0, 1) := by decide +kernel
theorem dX12_init_239 : decode cX12_init 239 = .ok (.sipush 221, 3) := by decide +kernel
theorem dX12_init_242 : decode cX12_init 242 = .ok (.newarray .boolean, 2) := by decide +kernel
theorem dX12_init_244 : decode cX12_init 244 = .ok (.putfield 125, 3) := by decide +kernel
theorem dX12_init_247 : decode cX12_init 247 = .ok (.aload_n 0, 1) := by decide +kernel
theorem dX12_init_248 : decode cX12_init 248 = .ok (.sipush 520, 3) := by decide +kernel
theorem dX12_init_251 : decode cX12_init 251 = .ok (.newarray .long, 2) := by decide +kernel
theorem dX12_init_253 : decode cX12_init 253 = .ok (.putfield 129, 3) := by decide +kernel
theorem dX12_init_256 : decode cX12_init 256 = .ok (.aload_n 0, 1) := by decide +kernel
theorem dX12_init_257 : decode cX12_init 257 = .ok (.sipush 520, 3) := by decide +kernel
theorem dX12_init_260 : decode cX12_init 260 = .ok (.newarray .long, 2) := by decide +kernel
theorem dX12_init_262 : decode cX12_init 262 = .ok (.putfield 132, 3) := by decide +kernel
theorem dX12_init_265 : decode cX12_init 265 = .ok (.aload_n 0, 1) := by decide +kernel
theorem dX12_init_266 : decode cX12_init 266 = .ok (.sipush 4160, 3) := by decide +kernel
theorem dX12_init_269 : decode cX12_init 269 = .ok (.newarray .long, 2) := by decide +kernel
theorem dX12_init_271 : decode cX12_init 271 = .ok (.putfield 135, 3) := by decide +kernel
theorem dX12_init_274 : decode cX12_init 274 = .ok (.aload_n 0, 1) := by decide +kernel
theorem dX12_init_275 : decode cX12_init 275 = .ok (.sipush 520, 3) := by decide +kernel
theorem dX12_init_278 : decode cX12_init 278 = .ok (.newarray .int, 2) := by decide +kernel
theorem dX12_init_280 : decode cX12_init 280 = .ok (.putfield 138, 3) := by decide +kernel
theorem dX12_init_283 : decode cX12_init 283 = .ok (.aload_n 0, 1) := by decide +kernel
theorem dX12_init_284 : decode cX12_init 284 = .ok (.sipush 520, 3) := by decide +kernel
theorem dX12_init_287 : decode cX12_init 287 = .ok (.newarray .int, 2) := by decide +kernel
theorem dX12_init_289 : decode cX12_init 289 = .ok (.putfield 141, 3) := by decide +kernel
theorem dX12_init_292 : decode cX12_init 292 = .ok (.aload_n 0, 1) := by decide +kernel
theorem dX12_init_293 : decode cX12_init 293 = .ok (.sipush 520, 3) := by decide +kernel
theorem dX12_init_296 : decode cX12_init 296 = .ok (.newarray .int, 2) := by decide +kernel
theorem dX12_init_298 : decode cX12_init 298 = .ok (.putfield 144, 3) := by decide +kernel
theorem dX12_init_301 : decode cX12_init 301 = .ok (.aload_n 0, 1) := by decide +kernel
theorem dX12_init_302 : decode cX12_init 302 = .ok (.sipush 520, 3) := by decide +kernel
theorem dX12_init_305 : decode cX12_init 305 = .ok (.newarray .int, 2) := by decide +kernel
theorem dX12_init_307 : decode cX12_init 307 = .ok (.putfield 147, 3) := by decide +kernel
theorem dX12_init_310 : decode cX12_init 310 = .ok (.aload_n 0, 1) := by decide +kernel
theorem dX12_init_311 : decode cX12_init 311 = .ok (.sipush 520, 3) := by decide +kernel
theorem dX12_init_314 : decode cX12_init 314 = .ok (.newarray .int, 2) := by decide +kernel
theorem dX12_init_316 : decode cX12_init 316 = .ok (.putfield 150, 3) := by decide +kernel
theorem dX12_init_319 : decode cX12_init 319 = .ok (.aload_n 0, 1) := by decide +kernel
theorem dX12_init_320 : decode cX12_init 320 = .ok (.sipush 520, 3) := by decide +kernel
theorem dX12_init_323 : decode cX12_init 323 = .ok (.newarray .int, 2) := by decide +kernel
theorem dX12_init_325 : decode cX12_init 325 = .ok (.putfield 153, 3) := by decide +kernel
theorem dX12_init_328 : decode cX12_init 328 = .ok (.aload_n 0, 1) := by decide +kernel
theorem dX12_init_329 : decode cX12_init 329 = .ok (.sipush 520, 3) := by decide +kernel
theorem dX12_init_332 : decode cX12_init 332 = .ok (.newarray .int, 2) := by decide +kernel
theorem dX12_init_334 : decode cX12_init 334 = .ok (.putfield 156, 3) := by decide +kernel
theorem dX12_init_337 : decode cX12_init 337 = .ok (.aload_n 0, 1) := by decide +kernel
theorem dX12_init_338 : decode cX12_init 338 = .ok (.sipush 520, 3) := by decide +kernel
theorem dX12_init_341 : decode cX12_init 341 = .ok (.newarray .int, 2) := by decide +kernel
theorem dX12_init_343 : decode cX12_init 343 = .ok (.putfield 159, 3) := by decide +kernel
theorem dX12_init_346 : decode cX12_init 346 = .ok (.aload_n 0, 1) := by decide +kernel
theorem dX12_init_347 : decode cX12_init 347 = .ok (.sipush 6240, 3) := by decide +kernel
theorem dX12_init_350 : decode cX12_init 350 = .ok (.newarray .int, 2) := by decide +kernel
theorem dX12_init_352 : decode cX12_init 352 = .ok (.putfield 162, 3) := by decide +kernel
theorem dX12_init_355 : decode cX12_init 355 = .ok (.aload_n 0, 1) := by decide +kernel
theorem dX12_init_356 : decode cX12_init 356 = .ok (.sipush 520, 3) := by decide +kernel
theorem dX12_init_359 : decode cX12_init 359 = .ok (.newarray .int, 2) := by decide +kernel
theorem dX12_init_361 : decode cX12_init 361 = .ok (.putfield 165, 3) := by decide +kernel
theorem dX12_init_364 : decode cX12_init 364 = .ok (.aload_n 0, 1) := by decide +kernel
theorem dX12_init_365 : decode cX12_init 365 = .ok (.sipush 520, 3) := by decide +kernel
theorem dX12_init_368 : decode cX12_init 368 = .ok (.newarray .int, 2) := by decide +kernel
theorem dX12_init_370 : decode cX12_init 370 = .ok (.putfield 168, 3) := by decide +kernel
theorem dX12_init_373 : decode cX12_init 373 = .ok (.aload_n 0, 1) := by decide +kernel
theorem dX12_init_374 : decode cX12_init 374 = .ok (.sipush 1040, 3) := by decide +kernel
theorem dX12_init_377 : decode cX12_init 377 = .ok (.newarray .int, 2) := by decide +kernel
theorem dX12_init_379 : decode cX12_init 379 = .ok (.putfield 171, 3) := by decide +kernel
theorem dX12_init_382 : decode cX12_init 382 = .ok (.aload_n 0, 1) := by decide +kernel
theorem dX12_init_383 : decode cX12_init 383 = .ok (.sipush 1040, 3) := by decide +kernel
theorem dX12_init_386 : decode cX12_init 386 = .ok (.newarray .int, 2) := by decide +kernel
theorem dX12_init_388 : decode cX12_init 388 = .ok (.putfield 174, 3) := by decide +kernel
theorem dX12_init_391 : decode cX12_init 391 = .ok (.aload_n 0, 1) := by decide +kernel
theorem dX12_init_392 : decode cX12_init 392 = .ok (.sipush 520, 3) := by decide +kernel
theorem dX12_init_395 : decode cX12_init 395 = .ok (.newarray .boolean, 2) := by decide +kernel
theorem dX12_init_397 : decode cX12_init 397 = .ok (.putfield 177, 3) := by decide +kernel
theorem dX12_init_400 : decode cX12_init 400 = .ok (.aload_n 0, 1) := by decide +kernel
theorem dX12_init_401 : decode cX12_init 401 = .ok (.sipush 520, 3) := by decide +kernel
theorem dX12_init_404 : decode cX12_init 404 = .ok (.newarray .boolean, 2) := by decide +kernel
theorem dX12_init_406 : decode cX12_init 406 = .ok (.putfield 180, 3) := by decide +kernel
theorem dX12_init_409 : decode cX12_init 409 = .ok (.aload_n 0, 1) := by decide +kernel
theorem dX12_init_410 : decode cX12_init 410 = .ok (.sipush 520, 3) := by decide +kernel
theorem dX12_init_413 : decode cX12_init 413 = .ok (.newarray .boolean, 2) := by decide +kernel
theorem dX12_init_415 : decode cX12_init 415 = .ok (.putfield 183, 3) := by decide +kernel
theorem dX12_init_418 : decode cX12_init 418 = .ok (.aload_n 0, 1) := by decide +kernel
theorem dX12_init_419 : decode cX12_init 419 = .ok (.sipush 520, 3) := by decide +kernel
theorem dX12_init_422 : decode cX12_init 422 = .ok (.newarray .boolean, 2) := by decide +kernel
theorem dX12_init_424 : decode cX12_init 424 = .ok (.putfield 186, 3) := by decide +kernel
theorem dX12_init_427 : decode cX12_init 427 = .ok (.aload_n 0, 1) := by decide +kernel
theorem dX12_init_428 : decode cX12_init 428 = .ok (.sipush 520, 3) := by decide +kernel
theorem dX12_init_431 : decode cX12_init 431 = .ok (.newarray .boolean, 2) := by decide +kernel
theorem dX12_init_433 : decode cX12_init 433 = .ok (.putfield 189, 3) := by decide +kernel
theorem dX12_init_436 : decode cX12_init 436 = .ok (.aload_n 0, 1) := by decide +kernel
theorem dX12_init_437 : decode cX12_init 437 = .ok (.sipush 2000, 3) := by decide +kernel
theorem dX12_init_440 : decode cX12_init 440 = .ok (.newarray .int, 2) := by decide +kernel
theorem dX12_init_442 : decode cX12_init 442 = .ok (.putfield 192, 3) := by decide +kernel
theorem dX12_init_445 : decode cX12_init 445 = .ok (.aload_n 0, 1) := by decide +kernel
theorem dX12_init_446 : decode cX12_init 446 = .ok (.iconst (-1), 1) := by decide +kernel
theorem dX12_init_447 : decode cX12_init 447 = .ok (.putfield 195, 3) := by decide +kernel
theorem dX12_init_450 : decode cX12_init 450 = .ok (.aload_n 0, 1) := by decide +kernel
theorem dX12_init_451 : decode cX12_init 451 = .ok (.sipush 200, 3) := by decide +kernel
theorem dX12_init_454 : decode cX12_init 454 = .ok (.newarray .int, 2) := by decide +kernel
theorem dX12_init_456 : decode cX12_init 456 = .ok (.putfield 198, 3) := by decide +kernel
theorem dX12_init_459 : decode cX12_init 459 = .ok (.aload_n 0, 1) := by decide +kernel
theorem dX12_init_460 : decode cX12_init 460 = .ok (.sipush 200, 3) := by decide +kernel
theorem dX12_init_463 : decode cX12_init 463 = .ok (.newarray .int, 2) := by decide +kernel
theorem dX12_init_465 : decode cX12_init 465 = .ok (.putfield 201, 3) := by decide +kernel
theorem dX12_init_468 : decode cX12_init 468 = .ok (.aload_n 0, 1) := by decide +kernel
theorem dX12_init_469 : decode cX12_init 469 = .ok (.sipush 200, 3) := by decide +kernel
theorem dX12_init_472 : decode cX12_init 472 = .ok (.newarray .int, 2) := by decide +kernel
theorem dX12_init_474 : decode cX12_init 474 = .ok (.putfield 204, 3) := by decide +kernel
theorem dX12_init_477 : decode cX12_init 477 = .ok (.aload_n 0, 1) := by decide +kernel
theorem dX12_init_478 : decode cX12_init 478 = .ok (.sipush 200, 3) := by decide +kernel
theorem dX12_init_481 : decode cX12_init 481 = .ok (.newarray .long, 2) := by decide +kernel
theorem dX12_init_483 : decode cX12_init 483 = .ok (.putfield 207, 3) := by decide +kernel
theorem dX12_init_486 : decode cX12_init 486 = .ok (.aload_n 0, 1) := by decide +kernel
theorem dX12_init_487 : decode cX12_init 487 = .ok (.bipush 60, 2) := by decide +kernel
theorem dX12_init_489 : decode cX12_init 489 = .ok (.newarray .long, 2) := by decide +kernel
theorem dX12_init_491 : decode cX12_init 491 = .ok (.putfield 210, 3) := by decide +kernel
theorem dX12_init_494 : decode cX12_init 494 = .ok (.aload_n 0, 1) := by decide +kernel
theorem dX12_init_495 : decode cX12_init 495 = .ok (.sipush 1400, 3) := by decide +kernel
theorem dX12_init_498 : decode cX12_init 498 = .ok (.newarray .int, 2) := by decide +kernel
theorem dX12_init_500 : decode cX12_init 500 = .ok (.putfield 213, 3) := by decide +kernel
theorem dX12_init_503 : decode cX12_init 503 = .ok (.aload_n 0, 1) := by decide +kernel
theorem dX12_init_504 : decode cX12_init 504 = .ok (.bipush 20, 2) := by decide +kernel
theorem dX12_init_506 : decode cX12_init 506 = .ok (.newarray .int, 2) := by decide +kernel
theorem dX12_init_508 : decode cX12_init 508 = .ok (.putfield 216, 3) := by decide +kernel
theorem dX12_init_511 : decode cX12_init 511 = .ok (.aload_n 0, 1) := by decide +kernel
theorem dX12_init_512 : decode cX12_init 512 = .ok (.sipush 3600, 3) := by decide +kernel
theorem dX12_init_515 : decode cX12_init 515 = .ok (.newarray .int, 2) := by decide +kernel
theorem dX12_init_517 : decode cX12_init 517 = .ok (.putfield 219, 3) := by decide +kernel
theorem dX12_init_520 : decode cX12_init 520 = .ok (.aload_n 0, 1) := by decide +kernel
theorem dX12_init_521 : decode cX12_init 521 = .ok (.bipush 60, 2) := by decide +kernel
theorem dX12_init_523 : decode cX12_init 523 = .ok (.newarray .int, 2) := by decide +kernel
theorem dX12_init_525 : decode cX12_init 525 = .ok (.putfield 222, 3) := by decide +kernel
theorem dX12_init_528 : decode cX12_init 528 = .ok (.aload_n 0, 1) := by decide +kernel
theorem dX12_init_529 : decode cX12_init 529 = .ok (.iconst 3, 1) := by decide +kernel
theorem dX12_init_530 : decode cX12_init 530 = .ok (.newarray .int, 2) := by decide +kernel
theorem dX12_init_532 : decode cX12_init 532 = .ok (.putfield 225, 3) := by decide +kernel
theorem dX12_init_535 : decode cX12_init 535 = .ok (.aload_n 0, 1) := by decide +kernel
theorem dX12_init_536 : decode cX12_init 536 = .ok (.sipush 400, 3) := by decide +kernel
theorem dX12_init_539 : decode cX12_init 539 = .ok (.newarray .int, 2) := by decide +kernel
theorem dX12_init_541 : decode cX12_init 541 = .ok (.putfield 228, 3) := by decide +kernel
theorem dX12_init_544 : decode cX12_init 544 = .ok (.aload_n 0, 1) := by decide +kernel
theorem dX12_init_545 : decode cX12_init 545 = .ok (.sipush 2440, 3) := by decide +kernel
theorem dX12_init_548 : decode cX12_init 548 = .ok (.newarray .int, 2) := by decide +kernel
theorem dX12_init_550 : decode cX12_init 550 = .ok (.putfield 231, 3) := by decide +kernel
theorem dX12_init_553 : decode cX12_init 553 = .ok (.aload_n 0, 1) := by decide +kernel
theorem dX12_init_554 : decode cX12_init 554 = .ok (.bipush 61, 2) := by decide +kernel
theorem dX12_init_556 : decode cX12_init 556 = .ok (.newarray .int, 2) := by decide +kernel
theorem dX12_init_558 : decode cX12_init 558 = .ok (.putfield 234, 3) := by decide +kernel
theorem dX12_init_561 : decode cX12_init 561 = .ok (.aload_n 0, 1) := by decide +kernel
theorem dX12_init_562 : decode cX12_init 562 = .ok (.sipush 2440, 3) := by decide +kernel
theorem dX12_init_565 : decode cX12_init 565 = .ok (.newarray .int, 2) := by decide +kernel
theorem dX12_init_567 : decode cX12_init 567 = .ok (.putfield 237, 3) := by decide +kernel
theorem dX12_init_570 : decode cX12_init 570 = .ok (.aload_n 0, 1) := by decide +kernel
theorem dX12_init_571 : decode cX12_init 571 = .ok (.bipush 61, 2) := by decide +kernel
theorem dX12_init_573 : decode cX12_init 573 = .ok (.newarray .int, 2) := by decide +kernel
theorem dX12_init_575 : decode cX12_init 575 = .ok (.putfield 240, 3) := by decide +kernel
theorem dX12_init_578 : decode cX12_init 578 = .ok (.aload_n 0, 1) := by decide +kernel
theorem dX12_init_579 : decode cX12_init 579 = .ok (.iconst (-1), 1) := by decide +kernel
theorem dX12_init_580 : decode cX12_init 580 = .ok (.putfield 243, 3) := by decide +kernel
theorem dX12_init_583 : decode cX12_init 583 = .ok (.aload_n 0, 1) := by decide +kernel
theorem dX12_init_584 : decode cX12_init 584 = .ok (.iconst (-1), 1) := by decide +kernel
theorem dX12_init_585 : decode cX12_init 585 = .ok (.putfield 246, 3) := by decide +kernel
theorem dX12_init_588 : decode cX12_init 588 = .ok (.aload_n 0, 1) := by decide +kernel
theorem dX12_init_589 : decode cX12_init 589 = .ok (.iconst (-1), 1) := by decide +kernel
theorem dX12_init_590 : decode cX12_init 590 = .ok (.putfield 249, 3) := by decide +kernel
theorem dX12_init_593 : decode cX12_init 593 = .ok (.aload_n 0, 1) := by decide +kernel
theorem dX12_init_594 : decode cX12_init 594 = .ok (.iconst (-1), 1) := by decide +kernel
theorem dX12_init_595 : decode cX12_init 595 = .ok (.putfield 252, 3) := by decide +kernel
theorem dX12_init_598 : decode cX12_init 598 = .ok (.aload_n 0, 1) := by decide +kernel
theorem dX12_init_599 : decode cX12_init 599 = .ok (.bipush 20, 2) := by decide +kernel
theorem dX12_init_601 : decode cX12_init 601 = .ok (.newarray .boolean, 2) := by decide +kernel
theorem dX12_init_603 : decode cX12_init 603 = .ok (.putfield 255, 3) := by decide +kernel
theorem dX12_init_606 : decode cX12_init 606 = .ok (.aload_n 0, 1) := by decide +kernel
theorem dX12_init_607 : decode cX12_init 607 = .ok (.sipush 2440, 3) := by decide +kernel
theorem dX12_init_610 : decode cX12_init 610 = .ok (.newarray .int, 2) := by decide +kernel
theorem dX12_init_612 : decode cX12_init 612 = .ok (.putfield 258, 3) := by decide +kernel
theorem dX12_init_615 : decode cX12_init 615 = .ok (.aload_n 0, 1) := by decide +kernel
theorem dX12_init_616 : decode cX12_init 616 = .ok (.bipush 61, 2) := by decide +kernel
theorem dX12_init_618 : decode cX12_init 618 = .ok (.newarray .int, 2) := by decide +kernel
theorem dX12_init_620 : decode cX12_init 620 = .ok (.putfield 261, 3) := by decide +kernel
theorem dX12_init_623 : decode cX12_init 623 = .ok (.aload_n 0, 1) := by decide +kernel
theorem dX12_init_624 : decode cX12_init 624 = .ok (.bipush 40, 2) := by decide +kernel
theorem dX12_init_626 : decode cX12_init 626 = .ok (.newarray .boolean, 2) := by decide +kernel
theorem dX12_init_628 : decode cX12_init 628 = .ok (.putfield 264, 3) := by decide +kernel
theorem dX12_init_631 : decode cX12_init 631 = .ok (.aload_n 0, 1) := by decide +kernel
theorem dX12_init_632 : decode cX12_init 632 = .ok (.bipush 40, 2) := by decide +kernel
theorem dX12_init_634 : decode cX12_init 634 = .ok (.newarray .int, 2) := by decide +kernel
theorem dX12_init_636 : decode cX12_init 636 = .ok (.putfield 267, 3) := by decide +kernel
theorem dX12_init_639 : decode cX12_init 639 = .ok (.aload_n 0, 1) := by decide +kernel
theorem dX12_init_640 : decode cX12_init 640 = .ok (.bipush 61, 2) := by decide +kernel
theorem dX12_init_642 : decode cX12_init 642 = .ok (.newarray .int, 2) := by decide +kernel
theorem dX12_init_644 : decode cX12_init 644 = .ok (.putfield 270, 3) := by decide +kernel
theorem dX12_init_647 : decode cX12_init 647 = .ok (.aload_n 0, 1) := by decide +kernel
theorem dX12_init_648 : decode cX12_init 648 = .ok (.bipush 61, 2) := by decide +kernel
theorem dX12_init_650 : decode cX12_init 650 = .ok (.newarray .int, 2) := by decide +kernel
theorem dX12_init_652 : decode cX12_init 652 = .ok (.putfield 273, 3) := by decide +kernel
theorem dX12_init_655 : decode cX12_init 655 = .ok (.aload_n 0, 1) := by decide +kernel
theorem dX12_init_656 : decode cX12_init 656 = .ok (.bipush 61, 2) := by decide +kernel
theorem dX12_init_658 : decode cX12_init 658 = .ok (.newarray .int, 2) := by decide +kernel
theorem dX12_init_660 : decode cX12_init 660 = .ok (.putfield 276, 3) := by decide +kernel
theorem dX12_init_663 : decode cX12_init 663 = .ok (.aload_n 0, 1) := by decide +kernel
theorem dX12_init_664 : decode cX12_init 664 = .ok (.bipush 61, 2) := by decide +kernel
theorem dX12_init_666 : decode cX12_init 666 = .ok (.newarray .int, 2) := by decide +kernel
theorem dX12_init_668 : decode cX12_init 668 = .ok (.putfield 279, 3) := by decide +kernel
theorem dX12_init_671 : decode cX12_init 671 = .ok (.aload_n 0, 1) := by decide +kernel
theorem dX12_init_672 : decode cX12_init 672 = .ok (.bipush 41, 2) := by decide +kernel
theorem dX12_init_674 : decode cX12_init 674 = .ok (.newarray .int, 2) := by decide +kernel
theorem dX12_init_676 : decode cX12_init 676 = .ok (.putfield 282, 3) := by decide +kernel
theorem dX12_init_679 : decode cX12_init 679 = .ok (.aload_n 0, 1) := by decide +kernel
theorem dX12_init_680 : decode cX12_init 680 = .ok (.bipush 41, 2) := by decide +kernel
theorem dX12_init_682 : decode cX12_init 682 = .ok (.newarray .int, 2) := by decide +kernel
theorem dX12_init_684 : decode cX12_init 684 = .ok (.putfield 285, 3) := by decide +kernel
theorem dX12_init_687 : decode cX12_init 687 = .ok (.aload_n 0, 1) := by decide +kernel
theorem dX12_init_688 : decode cX12_init 688 = .ok (.bipush 41, 2) := by decide +kernel
theorem dX12_init_690 : decode cX12_init 690 = .ok (.newarray .int, 2) := by decide +kernel
theorem dX12_init_692 : decode cX12_init 692 = .ok (.putfield 288, 3) := by decide +kernel
theorem dX12_init_695 : decode cX12_init 695 = .ok (.aload_n 0, 1) := by decide +kernel
theorem dX12_init_696 : decode cX12_init 696 = .ok (.sipush 1640, 3) := by decide +kernel
theorem dX12_init_699 : decode cX12_init 699 = .ok (.newarray .int, 2) := by decide +kernel
theorem dX12_init_701 : decode cX12_init 701 = .ok (.putfield 291, 3) := by decide +kernel
theorem dX12_init_704 : decode cX12_init 704 = .ok (.aload_n 0, 1) := by decide +kernel
theorem dX12_init_705 : decode cX12_init 705 = .ok (.sipush 1640, 3) := by decide +kernel
theorem dX12_init_708 : decode cX12_init 708 = .ok (.newarray .int, 2) := by decide +kernel
theorem dX12_init_710 : decode cX12_init 710 = .ok (.putfield 294, 3) := by decide +kernel
theorem dX12_init_713 : decode cX12_init 713 = .ok (.aload_n 0, 1) := by decide +kernel
theorem dX12_init_714 : decode cX12_init 714 = .ok (.sipush 1640, 3) := by decide +kernel
theorem dX12_init_717 : decode cX12_init 717 = .ok (.newarray .int, 2) := by decide +kernel
theorem dX12_init_719 : decode cX12_init 719 = .ok (.putfield 297, 3) := by decide +kernel
theorem dX12_init_722 : decode cX12_init 722 = .ok (.aload_n 0, 1) := by decide +kernel
theorem dX12_init_723 : decode cX12_init 723 = .ok (.ldc_w 300, 3) := by decide +kernel
theorem dX12_init_726 : decode cX12_init 726 = .ok (.newarray .int, 2) := by decide +kernel
theorem dX12_init_728 : decode cX12_init 728 = .ok (.putfield 301, 3) := by decide +kernel
theorem dX12_init_731 : decode cX12_init 731 = .ok (.aload_n 0, 1) := by decide +kernel
theorem dX12_init_732 : decode cX12_init 732 = .ok (.sipush 16400, 3) := by decide +kernel
theorem dX12_init_735 : decode cX12_init 735 = .ok (.newarray .int, 2) := by decide +kernel
theorem dX12_init_737 : decode cX12_init 737 = .ok (.putfield 304, 3) := by decide +kernel
theorem dX12_init_740 : decode cX12_init 740 = .ok (.aload_n 0, 1) := by decide +kernel
theorem dX12_init_741 : decode cX12_init 741 = .ok (.sipush 2460, 3) := by decide +kernel
theorem dX12_init_744 : decode cX12_init 744 = .ok (.newarray .int, 2) := by decide +kernel
theorem dX12_init_746 : decode cX12_init 746 = .ok (.putfield 307, 3) := by decide +kernel
theorem dX12_init_749 : decode cX12_init 749 = .ok (.aload_n 0, 1) := by decide +kernel
theorem dX12_init_750 : decode cX12_init 750 = .ok (.ldc_w 300, 3) := by decide +kernel
theorem dX12_init_753 : decode cX12_init 753 = .ok (.newarray .int, 2) := by decide +kernel
theorem dX12_init_755 : decode cX12_init 755 = .ok (.putfield 310, 3) := by decide +kernel
theorem dX12_init_758 : decode cX12_init 758 = .ok (.aload_n 0, 1) := by decide +kernel
theorem dX12_init_759 : decode cX12_init 759 = .ok (.sipush 200, 3) := by decide +kernel
theorem dX12_init_762 : decode cX12_init 762 = .ok (.newarray .int, 2) := by decide +kernel
theorem dX12_init_764 : decode cX12_init 764 = .ok (.putfield 313, 3) := by decide +kernel
theorem dX12_init_767 : decode cX12_init 767 = .ok (.aload_n 0, 1) := by decide +kernel
theorem dX12_init_768 : decode cX12_init 768 = .ok (.bipush 8, 2) := by decide +kernel
theorem dX12_init_770 : decode cX12_init 770 = .ok (.newarray .int, 2) := by decide +kernel
theorem dX12_init_772 : decode cX12_init 772 = .ok (.putfield 316, 3) := by decide +kernel
theorem dX12_init_775 : decode cX12_init 775 = .ok (.aload_n 0, 1) := by decide +kernel
theorem dX12_init_776 : decode cX12_init 776 = .ok (.ldc_w 319, 3) := by decide +kernel
theorem dX12_init_779 : decode cX12_init 779 = .ok (.newarray .int, 2) := by decide +kernel
theorem dX12_init_781 : decode cX12_init 781 = .ok (.putfield 320, 3) := by decide +kernel
theorem dX12_init_784 : decode cX12_init 784 = .ok (.aload_n 0, 1) := by decide +kernel
theorem dX12_init_785 : decode cX12_init 785 = .ok (.bipush 100, 2) := by decide +kernel
theorem dX12_init_787 : decode cX12_init 787 = .ok (.newarray .long, 2) := by decide +kernel
theorem dX12_init_789 : decode cX12_init 789 = .ok (.putfield 323, 3) := by decide +kernel
theorem dX12_init_792 : decode cX12_init 792 = .ok (.aload_n 0, 1) := by decide +kernel
theorem dX12_init_793 : decode cX12_init 793 = .ok (.bipush 60, 2) := by decide +kernel
