theorem dJ0_charAt_5068e_0 : decode cJ0_charAt_5068e 0 = .ok (.aload_n 0, 1) := by decide +kernel
theorem dJ0_charAt_5068e_1 : decode cJ0_charAt_5068e 1 = .ok (.invokevirtual 492, 3) := by decide +kernel
theorem dJ0_charAt_5068e_4 : decode cJ0_charAt_5068e 4 = .ok (.ifCond .eq 12, 3) := by decide +kernel
theorem dJ0_charAt_5068e_7 : decode cJ0_charAt_5068e 7 = .ok (.aload_n 0, 1) := by decide +kernel
theorem dJ0_charAt_5068e_8 : decode cJ0_charAt_5068e 8 = .ok (.getfield 9, 3) := by decide +kernel
theorem dJ0_charAt_5068e_11 : decode cJ0_charAt_5068e 11 = .ok (.iload_n 1, 1) := by decide +kernel
theorem dJ0_charAt_5068e_12 : decode cJ0_charAt_5068e 12 = .ok (.invokestatic 495, 3) := by decide +kernel
theorem dJ0_charAt_5068e_15 : decode cJ0_charAt_5068e 15 = .ok (.ireturn, 1) := by decide +kernel
theorem dJ0_charAt_5068e_16 : decode cJ0_charAt_5068e 16 = .ok (.aload_n 0, 1) := by decide +kernel
theorem dJ0_charAt_5068e_17 : decode cJ0_charAt_5068e 17 = .ok (.getfield 9, 3) := by decide +kernel
theorem dJ0_charAt_5068e_20 : decode cJ0_charAt_5068e 20 = .ok (.iload_n 1, 1) := by decide +kernel
theorem dJ0_charAt_5068e_21 : decode cJ0_charAt_5068e 21 = .ok (.invokestatic 498, 3) := by decide +kernel
theorem dJ0_charAt_5068e_24 : decode cJ0_charAt_5068e 24 = .ok (.ireturn, 1) := by decide +kernel
theorem dJ0_checkIndex_df160_0 : decode cJ0_checkIndex_df160 0 = .ok (.iload_n 0, 1) := by decide +kernel
theorem dJ0_checkIndex_df160_1 : decode cJ0_checkIndex_df160 1 = .ok (.iload_n 1, 1) := by decide +kernel
theorem dJ0_checkIndex_df160_2 : decode cJ0_checkIndex_df160 2 = .ok (.getstatic 1053, 3) := by decide +kernel
theorem dJ0_checkIndex_df160_5 : decode cJ0_checkIndex_df160 5 = .ok (.invokestatic 1059, 3) := by decide +kernel
theorem dJ0_checkIndex_df160_8 : decode cJ0_checkIndex_df160 8 = .ok (.pop, 1) := by decide +kernel
theorem dJ0_checkIndex_df160_9 : decode cJ0_checkIndex_df160 9 = .ok (.return_, 1) := by decide +kernel
theorem dJ0_coder_7d493_0 : decode cJ0_coder_7d493 0 = .ok (.getstatic 38, 3) := by decide +kernel
theorem dJ0_coder_7d493_3 : decode cJ0_coder_7d493 3 = .ok (.ifCond .eq 10, 3) := by decide +kernel
theorem dJ0_coder_7d493_6 : decode cJ0_coder_7d493 6 = .ok (.aload_n 0, 1) := by decide +kernel
theorem dJ0_coder_7d493_7 : decode cJ0_coder_7d493 7 = .ok (.getfield 15, 3) := by decide +kernel
theorem dJ0_coder_7d493_10 : decode cJ0_coder_7d493 10 = .ok (.goto 4, 3) := by decide +kernel
theorem dJ0_coder_7d493_13 : decode cJ0_coder_7d493 13 = .ok (.iconst 1, 1) := by decide +kernel
theorem dJ0_coder_7d493_14 : decode cJ0_coder_7d493 14 = .ok (.ireturn, 1) := by decide +kernel
theorem dJ0_isLatin1_aae02_0 : decode cJ0_isLatin1_aae02 0 = .ok (.getstatic 38, 3) := by decide +kernel
theorem dJ0_isLatin1_aae02_3 : decode cJ0_isLatin1_aae02 3 = .ok (.ifCond .eq 14, 3) := by decide +kernel
theorem dJ0_isLatin1_aae02_6 : decode cJ0_isLatin1_aae02 6 = .ok (.aload_n 0, 1) := by decide +kernel
theorem dJ0_isLatin1_aae02_7 : decode cJ0_isLatin1_aae02 7 = .ok (.getfield 15, 3) := by decide +kernel
theorem dJ0_isLatin1_aae02_10 : decode cJ0_isLatin1_aae02 10 = .ok (.ifCond .ne 7, 3) := by decide +kernel
theorem dJ0_isLatin1_aae02_13 : decode cJ0_isLatin1_aae02 13 = .ok (.iconst 1, 1) := by decide +kernel
theorem dJ0_isLatin1_aae02_14 : decode cJ0_isLatin1_aae02 14 = .ok (.goto 4, 3) := by decide +kernel
theorem dJ0_isLatin1_aae02_17 : decode cJ0_isLatin1_aae02 17 = .ok (.iconst 0, 1) := by decide +kernel
theorem dJ0_isLatin1_aae02_18 : decode cJ0_isLatin1_aae02 18 = .ok (.ireturn, 1) := by decide +kernel
theorem dJ0_length_8abf5_0 : decode cJ0_length_8abf5 0 = .ok (.aload_n 0, 1) := by decide +kernel
theorem dJ0_length_8abf5_1 : decode cJ0_length_8abf5 1 = .ok (.getfield 9, 3) := by decide +kernel
theorem dJ0_length_8abf5_4 : decode cJ0_length_8abf5 4 = .ok (.arraylength, 1) := by decide +kernel
theorem dJ0_length_8abf5_5 : decode cJ0_length_8abf5 5 = .ok (.aload_n 0, 1) := by decide +kernel
theorem dJ0_length_8abf5_6 : decode cJ0_length_8abf5 6 = .ok (.invokevirtual 335, 3) := by decide +kernel
theorem dJ0_length_8abf5_9 : decode cJ0_length_8abf5 9 = .ok (.ishr, 1) := by decide +kernel
theorem dJ0_length_8abf5_10 : decode cJ0_length_8abf5 10 = .ok (.ireturn, 1) := by decide +kernel
theorem dJ1_charAt_3b067_0 : decode cJ1_charAt_3b067 0 = .ok (.iload_n 1, 1) := by decide +kernel
theorem dJ1_charAt_3b067_1 : decode cJ1_charAt_3b067 1 = .ok (.aload_n 0, 1) := by decide +kernel
theorem dJ1_charAt_3b067_2 : decode cJ1_charAt_3b067 2 = .ok (.arraylength, 1) := by decide +kernel
theorem dJ1_charAt_3b067_3 : decode cJ1_charAt_3b067 3 = .ok (.invokestatic 9, 3) := by decide +kernel
theorem dJ1_charAt_3b067_6 : decode cJ1_charAt_3b067 6 = .ok (.aload_n 0, 1) := by decide +kernel
theorem dJ1_charAt_3b067_7 : decode cJ1_charAt_3b067 7 = .ok (.iload_n 1, 1) := by decide +kernel
theorem dJ1_charAt_3b067_8 : decode cJ1_charAt_3b067 8 = .ok (.baload, 1) := by decide +kernel
theorem dJ1_charAt_3b067_9 : decode cJ1_charAt_3b067 9 = .ok (.sipush 255, 3) := by decide +kernel
theorem dJ1_charAt_3b067_12 : decode cJ1_charAt_3b067 12 = .ok (.iand, 1) := by decide +kernel
theorem dJ1_charAt_3b067_13 : decode cJ1_charAt_3b067 13 = .ok (.i2c, 1) := by decide +kernel
theorem dJ1_charAt_3b067_14 : decode cJ1_charAt_3b067 14 = .ok (.ireturn, 1) := by decide +kernel
theorem dJ3_checkIndex_8e157_0 : decode cJ3_checkIndex_8e157 0 = .ok (.iload_n 0, 1) := by decide +kernel
theorem dJ3_checkIndex_8e157_1 : decode cJ3_checkIndex_8e157 1 = .ok (.ifCond .lt 8, 3) := by decide +kernel
theorem dJ3_checkIndex_8e157_4 : decode cJ3_checkIndex_8e157 4 = .ok (.iload_n 0, 1) := by decide +kernel
theorem dJ3_checkIndex_8e157_5 : decode cJ3_checkIndex_8e157 5 = .ok (.iload_n 1, 1) := by decide +kernel
theorem dJ3_checkIndex_8e157_6 : decode cJ3_checkIndex_8e157 6 = .ok (.if_icmp .lt 10, 3) := by decide +kernel
theorem dJ3_checkIndex_8e157_9 : decode cJ3_checkIndex_8e157 9 = .ok (.aload_n 2, 1) := by decide +kernel
theorem dJ3_checkIndex_8e157_10 : decode cJ3_checkIndex_8e157 10 = .ok (.iload_n 0, 1) := by decide +kernel
theorem dJ3_checkIndex_8e157_11 : decode cJ3_checkIndex_8e157 11 = .ok (.iload_n 1, 1) := by decide +kernel
theorem dJ3_checkIndex_8e157_12 : decode cJ3_checkIndex_8e157 12 = .ok (.invokestatic 95, 3) := by decide +kernel
theorem dJ3_checkIndex_8e157_15 : decode cJ3_checkIndex_8e157 15 = .ok (.athrow, 1) := by decide +kernel
theorem dJ3_checkIndex_8e157_16 : decode cJ3_checkIndex_8e157 16 = .ok (.iload_n 0, 1) := by decide +kernel
theorem dJ3_checkIndex_8e157_17 : decode cJ3_checkIndex_8e157 17 = .ok (.ireturn, 1) := by decide +kernel
theorem dJ4_init_da8c8_0 : decode cJ4_init_da8c8 0 = .ok (.aload_n 0, 1) := by decide +kernel
theorem dJ4_init_da8c8_1 : decode cJ4_init_da8c8 1 = .ok (.bipush 16, 2) := by decide +kernel
theorem dJ4_init_da8c8_3 : decode cJ4_init_da8c8 3 = .ok (.invokespecial 1, 3) := by decide +kernel
theorem dJ4_init_da8c8_6 : decode cJ4_init_da8c8 6 = .ok (.return_, 1) := by decide +kernel
theorem dJ4_length_8abf5_0 : decode cJ4_length_8abf5 0 = .ok (.aload_n 0, 1) := by decide +kernel
theorem dJ4_length_8abf5_1 : decode cJ4_length_8abf5 1 = .ok (.invokespecial 343, 3) := by decide +kernel
theorem dJ4_length_8abf5_4 : decode cJ4_length_8abf5 4 = .ok (.ireturn, 1) := by decide +kernel
theorem dJ5_init_d00df_0 : decode cJ5_init_d00df 0 = .ok (.aload_n 0, 1) := by decide +kernel
theorem dJ5_init_d00df_1 : decode cJ5_init_d00df 1 = .ok (.invokespecial 3, 3) := by decide +kernel
theorem dJ5_init_d00df_4 : decode cJ5_init_d00df 4 = .ok (.getstatic 18, 3) := by decide +kernel
theorem dJ5_init_d00df_7 : decode cJ5_init_d00df 7 = .ok (.ifCond .eq 18, 3) := by decide +kernel
theorem dJ5_init_d00df_10 : decode cJ5_init_d00df 10 = .ok (.aload_n 0, 1) := by decide +kernel
theorem dJ5_init_d00df_11 : decode cJ5_init_d00df 11 = .ok (.iload_n 1, 1) := by decide +kernel
theorem dJ5_init_d00df_12 : decode cJ5_init_d00df 12 = .ok (.newarray .byte, 2) := by decide +kernel
theorem dJ5_init_d00df_14 : decode cJ5_init_d00df 14 = .ok (.putfield 15, 3) := by decide +kernel
theorem dJ5_init_d00df_17 : decode cJ5_init_d00df 17 = .ok (.aload_n 0, 1) := by decide +kernel
theorem dJ5_init_d00df_18 : decode cJ5_init_d00df 18 = .ok (.iconst 0, 1) := by decide +kernel
theorem dJ5_init_d00df_19 : decode cJ5_init_d00df 19 = .ok (.putfield 22, 3) := by decide +kernel
theorem dJ5_init_d00df_22 : decode cJ5_init_d00df 22 = .ok (.goto 16, 3) := by decide +kernel
theorem dJ5_init_d00df_25 : decode cJ5_init_d00df 25 = .ok (.aload_n 0, 1) := by decide +kernel
theorem dJ5_init_d00df_26 : decode cJ5_init_d00df 26 = .ok (.iload_n 1, 1) := by decide +kernel
theorem dJ5_init_d00df_27 : decode cJ5_init_d00df 27 = .ok (.invokestatic 26, 3) := by decide +kernel
theorem dJ5_init_d00df_30 : decode cJ5_init_d00df 30 = .ok (.putfield 15, 3) := by decide +kernel
theorem dJ5_init_d00df_33 : decode cJ5_init_d00df 33 = .ok (.aload_n 0, 1) := by decide +kernel
theorem dJ5_init_d00df_34 : decode cJ5_init_d00df 34 = .ok (.iconst 1, 1) := by decide +kernel
theorem dJ5_init_d00df_35 : decode cJ5_init_d00df 35 = .ok (.putfield 22, 3) := by decide +kernel
theorem dJ5_init_d00df_38 : decode cJ5_init_d00df 38 = .ok (.return_, 1) := by decide +kernel
theorem dJ5_length_8abf5_0 : decode cJ5_length_8abf5 0 = .ok (.aload_n 0, 1) := by decide +kernel
theorem dJ5_length_8abf5_1 : decode cJ5_length_8abf5 1 = .ok (.getfield 79, 3) := by decide +kernel
theorem dJ5_length_8abf5_4 : decode cJ5_length_8abf5 4 = .ok (.ireturn, 1) := by decide +kernel
theorem dX0_init_0 : decode cX0_init 0 = .ok (.aload_n 0, 1) := by decide +kernel
theorem dX0_init_1 : decode cX0_init 1 = .ok (.invokespecial 3, 3) := by decide +kernel
theorem dX0_init_4 : decode cX0_init 4 = .ok (.aload_n 0, 1) := by decide +kernel
theorem dX0_init_5 : decode cX0_init 5 = .ok (.bipush 60, 2) := by decide +kernel
theorem dX0_init_7 : decode cX0_init 7 = .ok (.newarray .int, 2) := by decide +kernel
theorem dX0_init_9 : decode cX0_init 9 = .ok (.putfield 9, 3) := by decide +kernel
theorem dX0_init_12 : decode cX0_init 12 = .ok (.aload_n 0, 1) := by decide +kernel
theorem dX0_init_13 : decode cX0_init 13 = .ok (.bipush 60, 2) := by decide +kernel
theorem dX0_init_15 : decode cX0_init 15 = .ok (.anewarray 15, 3) := by decide +kernel
theorem dX0_init_18 : decode cX0_init 18 = .ok (.putfield 17, 3) := by decide +kernel
theorem dX0_init_21 : decode cX0_init 21 = .ok (.return_, 1) := by decide +kernel
theorem dX10_forget_0 : decode cX10_forget 0 = .ok (.aload_n 0, 1) := by decide +kernel
theorem dX10_forget_1 : decode cX10_forget 1 = .ok (.iconst 0, 1) := by decide +kernel
theorem dX10_forget_2 : decode cX10_forget 2 = .ok (.putfield 21, 3) := by decide +kernel
theorem dX10_forget_5 : decode cX10_forget 5 = .ok (.aload_n 0, 1) := by decide +kernel
theorem dX10_forget_6 : decode cX10_forget 6 = .ok (.iconst 0, 1) := by decide +kernel
theorem dX10_forget_7 : decode cX10_forget 7 = .ok (.putfield 30, 3) := by decide +kernel
theorem dX10_forget_10 : decode cX10_forget 10 = .ok (.return_, 1) := by decide +kernel
theorem dX10_init_0 : decode cX10_init 0 = .ok (.aload_n 0, 1) := by decide +kernel
theorem dX10_init_1 : decode cX10_init 1 = .ok (.invokespecial 3, 3) := by decide +kernel
theorem dX10_init_4 : decode cX10_init 4 = .ok (.aload_n 0, 1) := by decide +kernel
theorem dX10_init_5 : decode cX10_init 5 = .ok (.iconst (-1), 1) := by decide +kernel
theorem dX10_init_6 : decode cX10_init 6 = .ok (.putfield 9, 3) := by decide +kernel
theorem dX10_init_9 : decode cX10_init 9 = .ok (.aload_n 0, 1) := by decide +kernel
theorem dX10_init_10 : decode cX10_init 10 = .ok (.bipush 17, 2) := by decide +kernel
theorem dX10_init_12 : decode cX10_init 12 = .ok (.anewarray 15, 3) := by decide +kernel
theorem dX10_init_15 : decode cX10_init 15 = .ok (.putfield 17, 3) := by decide +kernel
theorem dX10_init_18 : decode cX10_init 18 = .ok (.aload_n 0, 1) := by decide +kernel
theorem dX10_init_19 : decode cX10_init 19 = .ok (.iconst 0, 1) := by decide +kernel
theorem dX10_init_20 : decode cX10_init 20 = .ok (.putfield 21, 3) := by decide +kernel
theorem dX10_init_23 : decode cX10_init 23 = .ok (.aload_n 0, 1) := by decide +kernel
theorem dX10_init_24 : decode cX10_init 24 = .ok (.bipush 40, 2) := by decide +kernel
theorem dX10_init_26 : decode cX10_init 26 = .ok (.anewarray 24, 3) := by decide +kernel
theorem dX10_init_29 : decode cX10_init 29 = .ok (.putfield 26, 3) := by decide +kernel
theorem dX10_init_32 : decode cX10_init 32 = .ok (.aload_n 0, 1) := by decide +kernel
theorem dX10_init_33 : decode cX10_init 33 = .ok (.iconst 0, 1) := by decide +kernel
theorem dX10_init_34 : decode cX10_init 34 = .ok (.putfield 30, 3) := by decide +kernel
theorem dX10_init_37 : decode cX10_init 37 = .ok (.return_, 1) := by decide +kernel
theorem dX11_blame_0 : decode cX11_blame 0 = .ok (.iload_n 1, 1) := by decide +kernel
theorem dX11_blame_1 : decode cX11_blame 1 = .ok (.ifCond .ne 11, 3) := by decide +kernel
theorem dX11_blame_4 : decode cX11_blame 4 = .ok (.aload_n 0, 1) := by decide +kernel
theorem dX11_blame_5 : decode cX11_blame 5 = .ok (.getfield 60, 3) := by decide +kernel
theorem dX11_blame_8 : decode cX11_blame 8 = .ok (.getfield 157, 3) := by decide +kernel
theorem dX11_blame_11 : decode cX11_blame 11 = .ok (.ireturn, 1) := by decide +kernel
theorem dX11_blame_12 : decode cX11_blame 12 = .ok (.iload_n 1, 1) := by decide +kernel
theorem dX11_blame_13 : decode cX11_blame 13 = .ok (.iconst 5, 1) := by decide +kernel
theorem dX11_blame_14 : decode cX11_blame 14 = .ok (.if_icmp .ne 11, 3) := by decide +kernel
theorem dX11_blame_17 : decode cX11_blame 17 = .ok (.aload_n 0, 1) := by decide +kernel
theorem dX11_blame_18 : decode cX11_blame 18 = .ok (.getfield 60, 3) := by decide +kernel
theorem dX11_blame_21 : decode cX11_blame 21 = .ok (.getfield 164, 3) := by decide +kernel
theorem dX11_blame_24 : decode cX11_blame 24 = .ok (.ireturn, 1) := by decide +kernel
theorem dX11_blame_25 : decode cX11_blame 25 = .ok (.aload_n 0, 1) := by decide +kernel
theorem dX11_blame_26 : decode cX11_blame 26 = .ok (.getfield 60, 3) := by decide +kernel
theorem dX11_blame_29 : decode cX11_blame 29 = .ok (.getfield 157, 3) := by decide +kernel
theorem dX11_blame_32 : decode cX11_blame 32 = .ok (.ifCond .ne 5, 3) := by decide +kernel
theorem dX11_blame_35 : decode cX11_blame 35 = .ok (.iconst (-1), 1) := by decide +kernel
theorem dX11_blame_36 : decode cX11_blame 36 = .ok (.ireturn, 1) := by decide +kernel
theorem dX11_blame_37 : decode cX11_blame 37 = .ok (.iload_n 1, 1) := by decide +kernel
theorem dX11_blame_38 : decode cX11_blame 38 = .ok (.tableswitch 62 1 4 #[30, 38, 46, 54], 30) := by decide +kernel
theorem dX11_blame_68 : decode cX11_blame 68 = .ok (.aload_n 0, 1) := by decide +kernel
theorem dX11_blame_69 : decode cX11_blame 69 = .ok (.getfield 60, 3) := by decide +kernel
theorem dX11_blame_72 : decode cX11_blame 72 = .ok (.getfield 217, 3) := by decide +kernel
theorem dX11_blame_75 : decode cX11_blame 75 = .ok (.ireturn, 1) := by decide +kernel
theorem dX11_blame_76 : decode cX11_blame 76 = .ok (.aload_n 0, 1) := by decide +kernel
theorem dX11_blame_77 : decode cX11_blame 77 = .ok (.getfield 60, 3) := by decide +kernel
theorem dX11_blame_80 : decode cX11_blame 80 = .ok (.getfield 220, 3) := by decide +kernel
theorem dX11_blame_83 : decode cX11_blame 83 = .ok (.ireturn, 1) := by decide +kernel
theorem dX11_blame_84 : decode cX11_blame 84 = .ok (.aload_n 0, 1) := by decide +kernel
theorem dX11_blame_85 : decode cX11_blame 85 = .ok (.getfield 60, 3) := by decide +kernel
theorem dX11_blame_88 : decode cX11_blame 88 = .ok (.getfield 223, 3) := by decide +kernel
theorem dX11_blame_91 : decode cX11_blame 91 = .ok (.ireturn, 1) := by decide +kernel
theorem dX11_blame_92 : decode cX11_blame 92 = .ok (.aload_n 0, 1) := by decide +kernel
theorem dX11_blame_93 : decode cX11_blame 93 = .ok (.getfield 60, 3) := by decide +kernel
theorem dX11_blame_96 : decode cX11_blame 96 = .ok (.getfield 226, 3) := by decide +kernel
theorem dX11_blame_99 : decode cX11_blame 99 = .ok (.ireturn, 1) := by decide +kernel
theorem dX11_blame_100 : decode cX11_blame 100 = .ok (.iconst (-1), 1) := by decide +kernel
theorem dX11_blame_101 : decode cX11_blame 101 = .ok (.ireturn, 1) := by decide +kernel
theorem dX11_clear_0 : decode cX11_clear 0 = .ok (.iload_n 1, 1) := by decide +kernel
theorem dX11_clear_1 : decode cX11_clear 1 = .ok (.invokestatic 117, 3) := by decide +kernel
theorem dX11_clear_4 : decode cX11_clear 4 = .ok (.ifCond .ne 11, 3) := by decide +kernel
theorem dX11_clear_7 : decode cX11_clear 7 = .ok (.new 101, 3) := by decide +kernel
theorem dX11_clear_10 : decode cX11_clear 10 = .ok (.dup, 1) := by decide +kernel
theorem dX11_clear_11 : decode cX11_clear 11 = .ok (.invokespecial 103, 3) := by decide +kernel
theorem dX11_clear_14 : decode cX11_clear 14 = .ok (.athrow, 1) := by decide +kernel
theorem dX11_clear_15 : decode cX11_clear 15 = .ok (.aload_n 0, 1) := by decide +kernel
theorem dX11_clear_16 : decode cX11_clear 16 = .ok (.getfield 49, 3) := by decide +kernel
theorem dX11_clear_19 : decode cX11_clear 19 = .ok (.iload_n 1, 1) := by decide +kernel
theorem dX11_clear_20 : decode cX11_clear 20 = .ok (.aaload, 1) := by decide +kernel
theorem dX11_clear_21 : decode cX11_clear 21 = .ok (.getfield 145, 3) := by decide +kernel
theorem dX11_clear_24 : decode cX11_clear 24 = .ok (.istore_n 2, 1) := by decide +kernel
theorem dX11_clear_25 : decode cX11_clear 25 = .ok (.aload_n 0, 1) := by decide +kernel
theorem dX11_clear_26 : decode cX11_clear 26 = .ok (.getfield 49, 3) := by decide +kernel
theorem dX11_clear_29 : decode cX11_clear 29 = .ok (.iload_n 1, 1) := by decide +kernel
theorem dX11_clear_30 : decode cX11_clear 30 = .ok (.aaload, 1) := by decide +kernel
theorem dX11_clear_31 : decode cX11_clear 31 = .ok (.iconst 0, 1) := by decide +kernel
theorem dX11_clear_32 : decode cX11_clear 32 = .ok (.putfield 145, 3) := by decide +kernel
theorem dX11_clear_35 : decode cX11_clear 35 = .ok (.iload_n 2, 1) := by decide +kernel
theorem dX11_clear_36 : decode cX11_clear 36 = .ok (.ireturn, 1) := by decide +kernel
theorem dX11_count_0 : decode cX11_count 0 = .ok (.iload_n 1, 1) := by decide +kernel
theorem dX11_count_1 : decode cX11_count 1 = .ok (.tableswitch 102 0 8 #[51, 56, 61, 66, 74, 74, 74, 86, 94], 51) := by decide +kernel
theorem dX11_count_52 : decode cX11_count 52 = .ok (.aload_n 0, 1) := by decide +kernel
theorem dX11_count_53 : decode cX11_count 53 = .ok (.getfield 32, 3) := by decide +kernel
theorem dX11_count_56 : decode cX11_count 56 = .ok (.ireturn, 1) := by decide +kernel
theorem dX11_count_57 : decode cX11_count 57 = .ok (.aload_n 0, 1) := by decide +kernel
theorem dX11_count_58 : decode cX11_count 58 = .ok (.getfield 83, 3) := by decide +kernel
theorem dX11_count_61 : decode cX11_count 61 = .ok (.ireturn, 1) := by decide +kernel
theorem dX11_count_62 : decode cX11_count 62 = .ok (.aload_n 0, 1) := by decide +kernel
theorem dX11_count_63 : decode cX11_count 63 = .ok (.getfield 15, 3) := by decide +kernel
theorem dX11_count_66 : decode cX11_count 66 = .ok (.ireturn, 1) := by decide +kernel
theorem dX11_count_67 : decode cX11_count 67 = .ok (.aload_n 0, 1) := by decide +kernel
theorem dX11_count_68 : decode cX11_count 68 = .ok (.getfield 22, 3) := by decide +kernel
theorem dX11_count_71 : decode cX11_count 71 = .ok (.invokevirtual 233, 3) := by decide +kernel
theorem dX11_count_74 : decode cX11_count 74 = .ok (.ireturn, 1) := by decide +kernel
theorem dX11_count_75 : decode cX11_count 75 = .ok (.aload_n 0, 1) := by decide +kernel
theorem dX11_count_76 : decode cX11_count 76 = .ok (.getfield 49, 3) := by decide +kernel
theorem dX11_count_79 : decode cX11_count 79 = .ok (.iload_n 1, 1) := by decide +kernel
theorem dX11_count_80 : decode cX11_count 80 = .ok (.iconst 4, 1) := by decide +kernel
theorem dX11_count_81 : decode cX11_count 81 = .ok (.isub, 1) := by decide +kernel
theorem dX11_count_82 : decode cX11_count 82 = .ok (.aaload, 1) := by decide +kernel
theorem dX11_count_83 : decode cX11_count 83 = .ok (.getfield 145, 3) := by decide +kernel
theorem dX11_count_86 : decode cX11_count 86 = .ok (.ireturn, 1) := by decide +kernel
theorem dX11_count_87 : decode cX11_count 87 = .ok (.aload_n 0, 1) := by decide +kernel
theorem dX11_count_88 : decode cX11_count 88 = .ok (.getfield 73, 3) := by decide +kernel
theorem dX11_count_91 : decode cX11_count 91 = .ok (.getfield 236, 3) := by decide +kernel
theorem dX11_count_94 : decode cX11_count 94 = .ok (.ireturn, 1) := by decide +kernel
theorem dX11_count_95 : decode cX11_count 95 = .ok (.aload_n 0, 1) := by decide +kernel
theorem dX11_count_96 : decode cX11_count 96 = .ok (.getfield 73, 3) := by decide +kernel
theorem dX11_count_99 : decode cX11_count 99 = .ok (.getfield 239, 3) := by decide +kernel
theorem dX11_count_102 : decode cX11_count 102 = .ok (.ireturn, 1) := by decide +kernel
theorem dX11_count_103 : decode cX11_count 103 = .ok (.iconst (-1), 1) := by decide +kernel
theorem dX11_count_104 : decode cX11_count 104 = .ok (.ireturn, 1) := by decide +kernel
theorem dX11_describe_0 : decode cX11_describe 0 = .ok (.aload_n 0, 1) := by decide +kernel
theorem dX11_describe_1 : decode cX11_describe 1 = .ok (.iload_n 1, 1) := by decide +kernel
theorem dX11_describe_2 : decode cX11_describe 2 = .ok (.invokevirtual 97, 3) := by decide +kernel
theorem dX11_describe_5 : decode cX11_describe 5 = .ok (.ifCond .ne 11, 3) := by decide +kernel
theorem dX11_describe_8 : decode cX11_describe 8 = .ok (.new 101, 3) := by decide +kernel
theorem dX11_describe_11 : decode cX11_describe 11 = .ok (.dup, 1) := by decide +kernel
theorem dX11_describe_12 : decode cX11_describe 12 = .ok (.invokespecial 103, 3) := by decide +kernel
theorem dX11_describe_15 : decode cX11_describe 15 = .ok (.athrow, 1) := by decide +kernel
theorem dX11_describe_16 : decode cX11_describe 16 = .ok (.aload_n 0, 1) := by decide +kernel
theorem dX11_describe_17 : decode cX11_describe 17 = .ok (.iconst 0, 1) := by decide +kernel
theorem dX11_describe_18 : decode cX11_describe 18 = .ok (.putfield 15, 3) := by decide +kernel
theorem dX11_describe_21 : decode cX11_describe 21 = .ok (.aload_n 0, 1) := by decide +kernel
theorem dX11_describe_22 : decode cX11_describe 22 = .ok (.getfield 43, 3) := by decide +kernel
theorem dX11_describe_25 : decode cX11_describe 25 = .ok (.aload_n 0, 1) := by decide +kernel
theorem dX11_describe_26 : decode cX11_describe 26 = .ok (.getfield 11, 3) := by decide +kernel
theorem dX11_describe_29 : decode cX11_describe 29 = .ok (.iload_n 1, 1) := by decide +kernel
theorem dX11_describe_30 : decode cX11_describe 30 = .ok (.aload_n 0, 1) := by decide +kernel
theorem dX11_describe_31 : decode cX11_describe 31 = .ok (.getfield 28, 3) := by decide +kernel
theorem dX11_describe_34 : decode cX11_describe 34 = .ok (.aload_n 0, 1) := by decide +kernel
theorem dX11_describe_35 : decode cX11_describe 35 = .ok (.getfield 32, 3) := by decide +kernel
theorem dX11_describe_38 : decode cX11_describe 38 = .ok (.aload_n 0, 1) := by decide +kernel
theorem dX11_describe_39 : decode cX11_describe 39 = .ok (.getfield 36, 3) := by decide +kernel
theorem dX11_describe_42 : decode cX11_describe 42 = .ok (.invokevirtual 104, 3) := by decide +kernel
theorem dX11_describe_45 : decode cX11_describe 45 = .ok (.ifCond .ne 14, 3) := by decide +kernel
theorem dX11_describe_48 : decode cX11_describe 48 = .ok (.aload_n 0, 1) := by decide +kernel
theorem dX11_describe_49 : decode cX11_describe 49 = .ok (.getfield 43, 3) := by decide +kernel
theorem dX11_describe_52 : decode cX11_describe 52 = .ok (.getfield 108, 3) := by decide +kernel
theorem dX11_describe_55 : decode cX11_describe 55 = .ok (.bipush 10, 2) := by decide +kernel
theorem dX11_describe_57 : decode cX11_describe 57 = .ok (.isub, 1) := by decide +kernel
theorem dX11_describe_58 : decode cX11_describe 58 = .ok (.ireturn, 1) := by decide +kernel
theorem dX11_describe_59 : decode cX11_describe 59 = .ok (.aload_n 0, 1) := by decide +kernel
theorem dX11_describe_60 : decode cX11_describe 60 = .ok (.getfield 32, 3) := by decide +kernel
theorem dX11_describe_63 : decode cX11_describe 63 = .ok (.aload_n 0, 1) := by decide +kernel
theorem dX11_describe_64 : decode cX11_describe 64 = .ok (.getfield 28, 3) := by decide +kernel
theorem dX11_describe_67 : decode cX11_describe 67 = .ok (.arraylength, 1) := by decide +kernel
theorem dX11_describe_68 : decode cX11_describe 68 = .ok (.if_icmp .ge 48, 3) := by decide +kernel
theorem dX11_describe_71 : decode cX11_describe 71 = .ok (.aload_n 0, 1) := by decide +kernel
theorem dX11_describe_72 : decode cX11_describe 72 = .ok (.getfield 36, 3) := by decide +kernel
theorem dX11_describe_75 : decode cX11_describe 75 = .ok (.aload_n 0, 1) := by decide +kernel
theorem dX11_describe_76 : decode cX11_describe 76 = .ok (.getfield 32, 3) := by decide +kernel
theorem dX11_describe_79 : decode cX11_describe 79 = .ok (.putfield 111, 3) := by decide +kernel
theorem dX11_describe_82 : decode cX11_describe 82 = .ok (.aload_n 0, 1) := by decide +kernel
theorem dX11_describe_83 : decode cX11_describe 83 = .ok (.getfield 28, 3) := by decide +kernel
theorem dX11_describe_86 : decode cX11_describe 86 = .ok (.aload_n 0, 1) := by decide +kernel
theorem dX11_describe_87 : decode cX11_describe 87 = .ok (.getfield 32, 3) := by decide +kernel
theorem dX11_describe_90 : decode cX11_describe 90 = .ok (.aload_n 0, 1) := by decide +kernel
theorem dX11_describe_91 : decode cX11_describe 91 = .ok (.getfield 36, 3) := by decide +kernel
theorem dX11_describe_94 : decode cX11_describe 94 = .ok (.aastore, 1) := by decide +kernel
theorem dX11_describe_95 : decode cX11_describe 95 = .ok (.aload_n 0, 1) := by decide +kernel
theorem dX11_describe_96 : decode cX11_describe 96 = .ok (.dup, 1) := by decide +kernel
theorem dX11_describe_97 : decode cX11_describe 97 = .ok (.getfield 32, 3) := by decide +kernel
theorem dX11_describe_100 : decode cX11_describe 100 = .ok (.iconst 1, 1) := by decide +kernel
theorem dX11_describe_101 : decode cX11_describe 101 = .ok (.iadd, 1) := by decide +kernel
theorem dX11_describe_102 : decode cX11_describe 102 = .ok (.putfield 32, 3) := by decide +kernel
theorem dX11_describe_105 : decode cX11_describe 105 = .ok (.aload_n 0, 1) := by decide +kernel
theorem dX11_describe_106 : decode cX11_describe 106 = .ok (.new 26, 3) := by decide +kernel
theorem dX11_describe_109 : decode cX11_describe 109 = .ok (.dup, 1) := by decide +kernel
theorem dX11_describe_110 : decode cX11_describe 110 = .ok (.invokespecial 35, 3) := by decide +kernel
theorem dX11_describe_113 : decode cX11_describe 113 = .ok (.putfield 36, 3) := by decide +kernel
theorem dX11_describe_116 : decode cX11_describe 116 = .ok (.aload_n 0, 1) := by decide +kernel
theorem dX11_describe_117 : decode cX11_describe 117 = .ok (.getfield 32, 3) := by decide +kernel
theorem dX11_describe_120 : decode cX11_describe 120 = .ok (.iconst 1, 1) := by decide +kernel
theorem dX11_describe_121 : decode cX11_describe 121 = .ok (.isub, 1) := by decide +kernel
theorem dX11_describe_122 : decode cX11_describe 122 = .ok (.ireturn, 1) := by decide +kernel
theorem dX11_ends_0 : decode cX11_ends 0 = .ok (.aload_n 0, 1) := by decide +kernel
theorem dX11_ends_1 : decode cX11_ends 1 = .ok (.iload_n 1, 1) := by decide +kernel
theorem dX11_ends_2 : decode cX11_ends 2 = .ok (.invokevirtual 148, 3) := by decide +kernel
theorem dX11_ends_5 : decode cX11_ends 5 = .ok (.ifCond .ne 11, 3) := by decide +kernel
theorem dX11_ends_8 : decode cX11_ends 8 = .ok (.new 101, 3) := by decide +kernel
theorem dX11_ends_11 : decode cX11_ends 11 = .ok (.dup, 1) := by decide +kernel
theorem dX11_ends_12 : decode cX11_ends 12 = .ok (.invokespecial 103, 3) := by decide +kernel
theorem dX11_ends_15 : decode cX11_ends 15 = .ok (.athrow, 1) := by decide +kernel
theorem dX11_ends_16 : decode cX11_ends 16 = .ok (.aload_n 0, 1) := by decide +kernel
theorem dX11_ends_17 : decode cX11_ends 17 = .ok (.iload_n 1, 1) := by decide +kernel
theorem dX11_ends_18 : decode cX11_ends 18 = .ok (.invokevirtual 154, 3) := by decide +kernel
theorem dX11_ends_21 : decode cX11_ends 21 = .ok (.aload_n 0, 1) := by decide +kernel
theorem dX11_ends_22 : decode cX11_ends 22 = .ok (.getfield 60, 3) := by decide +kernel
theorem dX11_ends_25 : decode cX11_ends 25 = .ok (.invokevirtual 288, 3) := by decide +kernel
theorem dX11_ends_28 : decode cX11_ends 28 = .ok (.astore_n 2, 1) := by decide +kernel
theorem dX11_ends_29 : decode cX11_ends 29 = .ok (.aload_n 0, 1) := by decide +kernel
theorem dX11_ends_30 : decode cX11_ends 30 = .ok (.getfield 60, 3) := by decide +kernel
theorem dX11_ends_33 : decode cX11_ends 33 = .ok (.getfield 157, 3) := by decide +kernel
theorem dX11_ends_36 : decode cX11_ends 36 = .ok (.ifCond .ne 33, 3) := by decide +kernel
theorem dX11_ends_39 : decode cX11_ends 39 = .ok (.aload_n 0, 1) := by decide +kernel
theorem dX11_ends_40 : decode cX11_ends 40 = .ok (.getfield 60, 3) := by decide +kernel
theorem dX11_ends_43 : decode cX11_ends 43 = .ok (.aload_n 0, 1) := by decide +kernel
theorem dX11_ends_44 : decode cX11_ends 44 = .ok (.getfield 49, 3) := by decide +kernel
theorem dX11_ends_47 : decode cX11_ends 47 = .ok (.iconst 2, 1) := by decide +kernel
theorem dX11_ends_48 : decode cX11_ends 48 = .ok (.aaload, 1) := by decide +kernel
theorem dX11_ends_49 : decode cX11_ends 49 = .ok (.aload_n 0, 1) := by decide +kernel
theorem dX11_ends_50 : decode cX11_ends 50 = .ok (.getfield 60, 3) := by decide +kernel
theorem dX11_ends_53 : decode cX11_ends 53 = .ok (.getfield 292, 3) := by decide +kernel
theorem dX11_ends_56 : decode cX11_ends 56 = .ok (.ifCond .eq 8, 3) := by decide +kernel
theorem dX11_ends_59 : decode cX11_ends 59 = .ok (.bipush 60, 2) := by decide +kernel
theorem dX11_ends_61 : decode cX11_ends 61 = .ok (.goto 5, 3) := by decide +kernel
theorem dX11_ends_64 : decode cX11_ends 64 = .ok (.bipush 59, 2) := by decide +kernel
theorem dX11_ends_66 : decode cX11_ends 66 = .ok (.invokevirtual 160, 3) := by decide +kernel
theorem dX11_ends_69 : decode cX11_ends 69 = .ok (.aload_n 0, 1) := by decide +kernel
theorem dX11_ends_70 : decode cX11_ends 70 = .ok (.getfield 60, 3) := by decide +kernel
theorem dX11_ends_73 : decode cX11_ends 73 = .ok (.getfield 157, 3) := by decide +kernel
theorem dX11_ends_76 : decode cX11_ends 76 = .ok (.ifCond .ne 38, 3) := by decide +kernel
theorem dX11_ends_79 : decode cX11_ends 79 = .ok (.aload_n 0, 1) := by decide +kernel
theorem dX11_ends_80 : decode cX11_ends 80 = .ok (.getfield 60, 3) := by decide +kernel
theorem dX11_ends_83 : decode cX11_ends 83 = .ok (.getfield 164, 3) := by decide +kernel
theorem dX11_ends_86 : decode cX11_ends 86 = .ok (.ifCond .le 28, 3) := by decide +kernel
theorem dX11_ends_89 : decode cX11_ends 89 = .ok (.aload_n 0, 1) := by decide +kernel
theorem dX11_ends_90 : decode cX11_ends 90 = .ok (.getfield 66, 3) := by decide +kernel
theorem dX11_ends_93 : decode cX11_ends 93 = .ok (.aload_n 0, 1) := by decide +kernel
theorem dX11_ends_94 : decode cX11_ends 94 = .ok (.getfield 60, 3) := by decide +kernel
theorem dX11_ends_97 : decode cX11_ends 97 = .ok (.aload_n 0, 1) := by decide +kernel
theorem dX11_ends_98 : decode cX11_ends 98 = .ok (.getfield 28, 3) := by decide +kernel
theorem dX11_ends_101 : decode cX11_ends 101 = .ok (.aload_n 0, 1) := by decide +kernel
theorem dX11_ends_102 : decode cX11_ends 102 = .ok (.getfield 32, 3) := by decide +kernel
theorem dX11_ends_105 : decode cX11_ends 105 = .ok (.aload_n 0, 1) := by decide +kernel
theorem dX11_ends_106 : decode cX11_ends 106 = .ok (.getfield 87, 3) := by decide +kernel
theorem dX11_ends_109 : decode cX11_ends 109 = .ok (.iconst 1, 1) := by decide +kernel
theorem dX11_ends_110 : decode cX11_ends 110 = .ok (.invokevirtual 169, 3) := by decide +kernel
theorem dX11_ends_113 : decode cX11_ends 113 = .ok (.pop, 1) := by decide +kernel
theorem dX11_ends_114 : decode cX11_ends 114 = .ok (.aload_n 0, 1) := by decide +kernel
theorem dX11_ends_115 : decode cX11_ends 115 = .ok (.getfield 60, 3) := by decide +kernel
theorem dX11_ends_118 : decode cX11_ends 118 = .ok (.getfield 157, 3) := by decide +kernel
theorem dX11_ends_121 : decode cX11_ends 121 = .ok (.ifCond .eq 18, 3) := by decide +kernel
theorem dX11_ends_124 : decode cX11_ends 124 = .ok (.aload_n 0, 1) := by decide +kernel
theorem dX11_ends_125 : decode cX11_ends 125 = .ok (.invokevirtual 188, 3) := by decide +kernel
theorem dX11_ends_128 : decode cX11_ends 128 = .ok (.aload_n 0, 1) := by decide +kernel
theorem dX11_ends_129 : decode cX11_ends 129 = .ok (.getfield 60, 3) := by decide +kernel
theorem dX11_ends_132 : decode cX11_ends 132 = .ok (.getfield 157, 3) := by decide +kernel
theorem dX11_ends_135 : decode cX11_ends 135 = .ok (.bipush 20, 2) := by decide +kernel
theorem dX11_ends_137 : decode cX11_ends 137 = .ok (.isub, 1) := by decide +kernel
theorem dX11_ends_138 : decode cX11_ends 138 = .ok (.ireturn, 1) := by decide +kernel
theorem dX11_ends_139 : decode cX11_ends 139 = .ok (.aload_n 0, 1) := by decide +kernel
theorem dX11_ends_140 : decode cX11_ends 140 = .ok (.getfield 60, 3) := by decide +kernel
theorem dX11_ends_143 : decode cX11_ends 143 = .ok (.getfield 292, 3) := by decide +kernel
theorem dX11_ends_146 : decode cX11_ends 146 = .ok (.ifCond .eq 5, 3) := by decide +kernel
theorem dX11_ends_149 : decode cX11_ends 149 = .ok (.iconst 0, 1) := by decide +kernel
theorem dX11_ends_150 : decode cX11_ends 150 = .ok (.ireturn, 1) := by decide +kernel
theorem dX11_ends_151 : decode cX11_ends 151 = .ok (.aload_n 0, 1) := by decide +kernel
theorem dX11_ends_152 : decode cX11_ends 152 = .ok (.getfield 60, 3) := by decide +kernel
theorem dX11_ends_155 : decode cX11_ends 155 = .ok (.getfield 164, 3) := by decide +kernel
theorem dX11_ends_158 : decode cX11_ends 158 = .ok (.ifCond .ne 28, 3) := by decide +kernel
theorem dX11_ends_161 : decode cX11_ends 161 = .ok (.aload_n 0, 1) := by decide +kernel
theorem dX11_ends_162 : decode cX11_ends 162 = .ok (.getfield 73, 3) := by decide +kernel
theorem dX11_ends_165 : decode cX11_ends 165 = .ok (.aload_n 2, 1) := by decide +kernel
theorem dX11_ends_166 : decode cX11_ends 166 = .ok (.aload_n 0, 1) := by decide +kernel
theorem dX11_ends_167 : decode cX11_ends 167 = .ok (.getfield 28, 3) := by decide +kernel
theorem dX11_ends_170 : decode cX11_ends 170 = .ok (.aload_n 0, 1) := by decide +kernel
theorem dX11_ends_171 : decode cX11_ends 171 = .ok (.getfield 32, 3) := by decide +kernel
theorem dX11_ends_174 : decode cX11_ends 174 = .ok (.aload_n 0, 1) := by decide +kernel
theorem dX11_ends_175 : decode cX11_ends 175 = .ok (.getfield 49, 3) := by decide +kernel
theorem dX11_ends_178 : decode cX11_ends 178 = .ok (.iconst 2, 1) := by decide +kernel
theorem dX11_ends_179 : decode cX11_ends 179 = .ok (.aaload, 1) := by decide +kernel
theorem dX11_ends_180 : decode cX11_ends 180 = .ok (.invokevirtual 296, 3) := by decide +kernel
theorem dX11_ends_183 : decode cX11_ends 183 = .ok (.goto 15, 3) := by decide +kernel
theorem dX11_ends_186 : decode cX11_ends 186 = .ok (.aload_n 0, 1) := by decide +kernel
theorem dX11_ends_187 : decode cX11_ends 187 = .ok (.getfield 73, 3) := by decide +kernel
theorem dX11_ends_190 : decode cX11_ends 190 = .ok (.aload_n 2, 1) := by decide +kernel
theorem dX11_ends_191 : decode cX11_ends 191 = .ok (.aload_n 0, 1) := by decide +kernel
theorem dX11_ends_192 : decode cX11_ends 192 = .ok (.getfield 66, 3) := by decide +kernel
theorem dX11_ends_195 : decode cX11_ends 195 = .ok (.invokevirtual 300, 3) := by decide +kernel
theorem dX11_ends_198 : decode cX11_ends 198 = .ok (.aload_n 0, 1) := by decide +kernel
theorem dX11_ends_199 : decode cX11_ends 199 = .ok (.getfield 73, 3) := by decide +kernel
theorem dX11_ends_202 : decode cX11_ends 202 = .ok (.getfield 236, 3) := by decide +kernel
theorem dX11_ends_205 : decode cX11_ends 205 = .ok (.ireturn, 1) := by decide +kernel
theorem dX11_fault_0 : decode cX11_fault 0 = .ok (.aload_n 0, 1) := by decide +kernel
theorem dX11_fault_1 : decode cX11_fault 1 = .ok (.getfield 43, 3) := by decide +kernel
theorem dX11_fault_4 : decode cX11_fault 4 = .ok (.getfield 114, 3) := by decide +kernel
theorem dX11_fault_7 : decode cX11_fault 7 = .ok (.ireturn, 1) := by decide +kernel
theorem dX11_feed_0 : decode cX11_feed 0 = .ok (.aload_n 0, 1) := by decide +kernel
theorem dX11_feed_1 : decode cX11_feed 1 = .ok (.getfield 15, 3) := by decide +kernel
theorem dX11_feed_4 : decode cX11_feed 4 = .ok (.bipush 20, 2) := by decide +kernel
theorem dX11_feed_6 : decode cX11_feed 6 = .ok (.iadd, 1) := by decide +kernel
theorem dX11_feed_7 : decode cX11_feed 7 = .ok (.sipush 2000, 3) := by decide +kernel
theorem dX11_feed_10 : decode cX11_feed 10 = .ok (.if_icmp .le 5, 3) := by decide +kernel
theorem dX11_feed_13 : decode cX11_feed 13 = .ok (.iconst (-1), 1) := by decide +kernel
theorem dX11_feed_14 : decode cX11_feed 14 = .ok (.ireturn, 1) := by decide +kernel
theorem dX11_feed_15 : decode cX11_feed 15 = .ok (.aload_n 0, 1) := by decide +kernel
theorem dX11_feed_16 : decode cX11_feed 16 = .ok (.iload_n 1, 1) := by decide +kernel
theorem dX11_feed_17 : decode cX11_feed 17 = .ok (.invokevirtual 94, 3) := by decide +kernel
theorem dX11_feed_20 : decode cX11_feed 20 = .ok (.aload_n 0, 1) := by decide +kernel
theorem dX11_feed_21 : decode cX11_feed 21 = .ok (.iload_n 2, 1) := by decide +kernel
theorem dX11_feed_22 : decode cX11_feed 22 = .ok (.invokevirtual 94, 3) := by decide +kernel
theorem dX11_feed_25 : decode cX11_feed 25 = .ok (.aload_n 0, 1) := by decide +kernel
theorem dX11_feed_26 : decode cX11_feed 26 = .ok (.iload_n 3, 1) := by decide +kernel
theorem dX11_feed_27 : decode cX11_feed 27 = .ok (.invokevirtual 94, 3) := by decide +kernel
theorem dX11_feed_30 : decode cX11_feed 30 = .ok (.aload_n 0, 1) := by decide +kernel
theorem dX11_feed_31 : decode cX11_feed 31 = .ok (.iload 4, 2) := by decide +kernel
theorem dX11_feed_33 : decode cX11_feed 33 = .ok (.invokevirtual 94, 3) := by decide +kernel
theorem dX11_feed_36 : decode cX11_feed 36 = .ok (.aload_n 0, 1) := by decide +kernel
theorem dX11_feed_37 : decode cX11_feed 37 = .ok (.iload 5, 2) := by decide +kernel
theorem dX11_feed_39 : decode cX11_feed 39 = .ok (.invokevirtual 94, 3) := by decide +kernel
theorem dX11_feed_42 : decode cX11_feed 42 = .ok (.aload_n 0, 1) := by decide +kernel
theorem dX11_feed_43 : decode cX11_feed 43 = .ok (.getfield 15, 3) := by decide +kernel
theorem dX11_feed_46 : decode cX11_feed 46 = .ok (.ireturn, 1) := by decide +kernel
theorem dX11_feedFour_0 : decode cX11_feedFour 0 = .ok (.bipush 24, 2) := by decide +kernel
theorem dX11_feedFour_2 : decode cX11_feedFour 2 = .ok (.istore_n 2, 1) := by decide +kernel
theorem dX11_feedFour_3 : decode cX11_feedFour 3 = .ok (.iload_n 2, 1) := by decide +kernel
theorem dX11_feedFour_4 : decode cX11_feedFour 4 = .ok (.ifCond .lt 48, 3) := by decide +kernel
theorem dX11_feedFour_7 : decode cX11_feedFour 7 = .ok (.aload_n 0, 1) := by decide +kernel
theorem dX11_feedFour_8 : decode cX11_feedFour 8 = .ok (.getfield 15, 3) := by decide +kernel
theorem dX11_feedFour_11 : decode cX11_feedFour 11 = .ok (.aload_n 0, 1) := by decide +kernel
theorem dX11_feedFour_12 : decode cX11_feedFour 12 = .ok (.getfield 11, 3) := by decide +kernel
theorem dX11_feedFour_15 : decode cX11_feedFour 15 = .ok (.arraylength, 1) := by decide +kernel
theorem dX11_feedFour_16 : decode cX11_feedFour 16 = .ok (.if_icmp .ge 36, 3) := by decide +kernel
theorem dX11_feedFour_19 : decode cX11_feedFour 19 = .ok (.aload_n 0, 1) := by decide +kernel
theorem dX11_feedFour_20 : decode cX11_feedFour 20 = .ok (.getfield 11, 3) := by decide +kernel
theorem dX11_feedFour_23 : decode cX11_feedFour 23 = .ok (.aload_n 0, 1) := by decide +kernel
theorem dX11_feedFour_24 : decode cX11_feedFour 24 = .ok (.getfield 15, 3) := by decide +kernel
theorem dX11_feedFour_27 : decode cX11_feedFour 27 = .ok (.iload_n 1, 1) := by decide +kernel
theorem dX11_feedFour_28 : decode cX11_feedFour 28 = .ok (.iload_n 2, 1) := by decide +kernel
theorem dX11_feedFour_29 : decode cX11_feedFour 29 = .ok (.iushr, 1) := by decide +kernel
theorem dX11_feedFour_30 : decode cX11_feedFour 30 = .ok (.sipush 255, 3) := by decide +kernel
theorem dX11_feedFour_33 : decode cX11_feedFour 33 = .ok (.iand, 1) := by decide +kernel
theorem dX11_feedFour_34 : decode cX11_feedFour 34 = .ok (.i2c, 1) := by decide +kernel
theorem dX11_feedFour_35 : decode cX11_feedFour 35 = .ok (.castore, 1) := by decide +kernel
theorem dX11_feedFour_36 : decode cX11_feedFour 36 = .ok (.aload_n 0, 1) := by decide +kernel
theorem dX11_feedFour_37 : decode cX11_feedFour 37 = .ok (.dup, 1) := by decide +kernel
theorem dX11_feedFour_38 : decode cX11_feedFour 38 = .ok (.getfield 15, 3) := by decide +kernel
theorem dX11_feedFour_41 : decode cX11_feedFour 41 = .ok (.iconst 1, 1) := by decide +kernel
theorem dX11_feedFour_42 : decode cX11_feedFour 42 = .ok (.iadd, 1) := by decide +kernel
theorem dX11_feedFour_43 : decode cX11_feedFour 43 = .ok (.putfield 15, 3) := by decide +kernel
theorem dX11_feedFour_46 : decode cX11_feedFour 46 = .ok (.iinc 2 (-8), 3) := by decide +kernel
theorem dX11_feedFour_49 : decode cX11_feedFour 49 = .ok (.goto (-46), 3) := by decide +kernel
theorem dX11_feedFour_52 : decode cX11_feedFour 52 = .ok (.return_, 1) := by decide +kernel
theorem dX11_findNear_0 : decode cX11_findNear 0 = .ok (.aload_n 0, 1) := by decide +kernel
theorem dX11_findNear_1 : decode cX11_findNear 1 = .ok (.getfield 60, 3) := by decide +kernel
theorem dX11_findNear_4 : decode cX11_findNear 4 = .ok (.getfield 157, 3) := by decide +kernel
theorem dX11_findNear_7 : decode cX11_findNear 7 = .ok (.iconst 5, 1) := by decide +kernel
theorem dX11_findNear_8 : decode cX11_findNear 8 = .ok (.if_icmp .ne 37, 3) := by decide +kernel
theorem dX11_findNear_11 : decode cX11_findNear 11 = .ok (.aload_n 0, 1) := by decide +kernel
theorem dX11_findNear_12 : decode cX11_findNear 12 = .ok (.getfield 60, 3) := by decide +kernel
theorem dX11_findNear_15 : decode cX11_findNear 15 = .ok (.getfield 164, 3) := by decide +kernel
theorem dX11_findNear_18 : decode cX11_findNear 18 = .ok (.ifCond .le 27, 3) := by decide +kernel
theorem dX11_findNear_21 : decode cX11_findNear 21 = .ok (.aload_n 0, 1) := by decide +kernel
theorem dX11_findNear_22 : decode cX11_findNear 22 = .ok (.getfield 73, 3) := by decide +kernel
theorem dX11_findNear_25 : decode cX11_findNear 25 = .ok (.aload_n 0, 1) := by decide +kernel
theorem dX11_findNear_26 : decode cX11_findNear 26 = .ok (.getfield 28, 3) := by decide +kernel
theorem dX11_findNear_29 : decode cX11_findNear 29 = .ok (.aload_n 0, 1) := by decide +kernel
theorem dX11_findNear_30 : decode cX11_findNear 30 = .ok (.getfield 32, 3) := by decide +kernel
theorem dX11_findNear_33 : decode cX11_findNear 33 = .ok (.aload_n 0, 1) := by decide +kernel
theorem dX11_findNear_34 : decode cX11_findNear 34 = .ok (.getfield 60, 3) := by decide +kernel
theorem dX11_findNear_37 : decode cX11_findNear 37 = .ok (.getfield 194, 3) := by decide +kernel
theorem dX11_findNear_40 : decode cX11_findNear 40 = .ok (.iconst 0, 1) := by decide +kernel
theorem dX11_findNear_41 : decode cX11_findNear 41 = .ok (.aaload, 1) := by decide +kernel
theorem dX11_findNear_42 : decode cX11_findNear 42 = .ok (.invokevirtual 198, 3) := by decide +kernel
theorem dX11_findNear_45 : decode cX11_findNear 45 = .ok (.aload_n 0, 1) := by decide +kernel
theorem dX11_findNear_46 : decode cX11_findNear 46 = .ok (.getfield 60, 3) := by decide +kernel
theorem dX11_findNear_49 : decode cX11_findNear 49 = .ok (.getfield 157, 3) := by decide +kernel
theorem dX11_findNear_52 : decode cX11_findNear 52 = .ok (.bipush 6, 2) := by decide +kernel
theorem dX11_findNear_54 : decode cX11_findNear 54 = .ok (.if_icmp .ne 41, 3) := by decide +kernel
theorem dX11_findNear_57 : decode cX11_findNear 57 = .ok (.aload_n 0, 1) := by decide +kernel
theorem dX11_findNear_58 : decode cX11_findNear 58 = .ok (.getfield 66, 3) := by decide +kernel
theorem dX11_findNear_61 : decode cX11_findNear 61 = .ok (.getfield 202, 3) := by decide +kernel
theorem dX11_findNear_64 : decode cX11_findNear 64 = .ok (.ifnull 31, 3) := by decide +kernel
theorem dX11_findNear_67 : decode cX11_findNear 67 = .ok (.aload_n 0, 1) := by decide +kernel
theorem dX11_findNear_68 : decode cX11_findNear 68 = .ok (.getfield 73, 3) := by decide +kernel
theorem dX11_findNear_71 : decode cX11_findNear 71 = .ok (.aload_n 0, 1) := by decide +kernel
theorem dX11_findNear_72 : decode cX11_findNear 72 = .ok (.getfield 66, 3) := by decide +kernel
theorem dX11_findNear_75 : decode cX11_findNear 75 = .ok (.getfield 206, 3) := by decide +kernel
theorem dX11_findNear_78 : decode cX11_findNear 78 = .ok (.aload_n 0, 1) := by decide +kernel
theorem dX11_findNear_79 : decode cX11_findNear 79 = .ok (.getfield 66, 3) := by decide +kernel
theorem dX11_findNear_82 : decode cX11_findNear 82 = .ok (.getfield 209, 3) := by decide +kernel
theorem dX11_findNear_85 : decode cX11_findNear 85 = .ok (.aload_n 0, 1) := by decide +kernel
theorem dX11_findNear_86 : decode cX11_findNear 86 = .ok (.getfield 66, 3) := by decide +kernel
theorem dX11_findNear_89 : decode cX11_findNear 89 = .ok (.getfield 202, 3) := by decide +kernel
theorem dX11_findNear_92 : decode cX11_findNear 92 = .ok (.invokevirtual 213, 3) := by decide +kernel
theorem dX11_findNear_95 : decode cX11_findNear 95 = .ok (.return_, 1) := by decide +kernel
theorem dX11_init_0 : decode cX11_init 0 = .ok (.aload_n 0, 1) := by decide +kernel
theorem dX11_init_1 : decode cX11_init 1 = .ok (.invokespecial 3, 3) := by decide +kernel
theorem dX11_init_4 : decode cX11_init 4 = .ok (.aload_n 0, 1) := by decide +kernel
theorem dX11_init_5 : decode cX11_init 5 = .ok (.sipush 2000, 3) := by decide +kernel
theorem dX11_init_8 : decode cX11_init 8 = .ok (.newarray .char, 2) := by decide +kernel
theorem dX11_init_10 : decode cX11_init 10 = .ok (.putfield 11, 3) := by decide +kernel
theorem dX11_init_13 : decode cX11_init 13 = .ok (.aload_n 0, 1) := by decide +kernel
theorem dX11_init_14 : decode cX11_init 14 = .ok (.iconst 0, 1) := by decide +kernel
theorem dX11_init_15 : decode cX11_init 15 = .ok (.putfield 15, 3) := by decide +kernel
theorem dX11_init_18 : decode cX11_init 18 = .ok (.aload_n 0, 1) := by decide +kernel
theorem dX11_init_19 : decode cX11_init 19 = .ok (.new 19, 3) := by decide +kernel
theorem dX11_init_22 : decode cX11_init 22 = .ok (.dup, 1) := by decide +kernel
theorem dX11_init_23 : decode cX11_init 23 = .ok (.invokespecial 21, 3) := by decide +kernel
theorem dX11_init_26 : decode cX11_init 26 = .ok (.putfield 22, 3) := by decide +kernel
theorem dX11_init_29 : decode cX11_init 29 = .ok (.aload_n 0, 1) := by decide +kernel
theorem dX11_init_30 : decode cX11_init 30 = .ok (.bipush 12, 2) := by decide +kernel
theorem dX11_init_32 : decode cX11_init 32 = .ok (.anewarray 26, 3) := by decide +kernel
theorem dX11_init_35 : decode cX11_init 35 = .ok (.putfield 28, 3) := by decide +kernel
theorem dX11_init_38 : decode cX11_init 38 = .ok (.aload_n 0, 1) := by decide +kernel
theorem dX11_init_39 : decode cX11_init 39 = .ok (.iconst 0, 1) := by decide +kernel
theorem dX11_init_40 : decode cX11_init 40 = .ok (.putfield 32, 3) := by decide +kernel
theorem dX11_init_43 : decode cX11_init 43 = .ok (.aload_n 0, 1) := by decide +kernel
theorem dX11_init_44 : decode cX11_init 44 = .ok (.new 26, 3) := by decide +kernel
theorem dX11_init_47 : decode cX11_init 47 = .ok (.dup, 1) := by decide +kernel
theorem dX11_init_48 : decode cX11_init 48 = .ok (.invokespecial 35, 3) := by decide +kernel
theorem dX11_init_51 : decode cX11_init 51 = .ok (.putfield 36, 3) := by decide +kernel
theorem dX11_init_54 : decode cX11_init 54 = .ok (.aload_n 0, 1) := by decide +kernel
theorem dX11_init_55 : decode cX11_init 55 = .ok (.new 40, 3) := by decide +kernel
theorem dX11_init_58 : decode cX11_init 58 = .ok (.dup, 1) := by decide +kernel
theorem dX11_init_59 : decode cX11_init 59 = .ok (.invokespecial 42, 3) := by decide +kernel
theorem dX11_init_62 : decode cX11_init 62 = .ok (.putfield 43, 3) := by decide +kernel
theorem dX11_init_65 : decode cX11_init 65 = .ok (.aload_n 0, 1) := by decide +kernel
theorem dX11_init_66 : decode cX11_init 66 = .ok (.iconst 3, 1) := by decide +kernel
theorem dX11_init_67 : decode cX11_init 67 = .ok (.anewarray 47, 3) := by decide +kernel
theorem dX11_init_70 : decode cX11_init 70 = .ok (.putfield 49, 3) := by decide +kernel
theorem dX11_init_73 : decode cX11_init 73 = .ok (.aload_n 0, 1) := by decide +kernel
theorem dX11_init_74 : decode cX11_init 74 = .ok (.new 53, 3) := by decide +kernel
theorem dX11_init_77 : decode cX11_init 77 = .ok (.dup, 1) := by decide +kernel
theorem dX11_init_78 : decode cX11_init 78 = .ok (.invokespecial 55, 3) := by decide +kernel
theorem dX11_init_81 : decode cX11_init 81 = .ok (.putfield 56, 3) := by decide +kernel
theorem dX11_init_84 : decode cX11_init 84 = .ok (.aload_n 0, 1) := by decide +kernel
theorem dX11_init_85 : decode cX11_init 85 = .ok (.new 53, 3) := by decide +kernel
theorem dX11_init_88 : decode cX11_init 88 = .ok (.dup, 1) := by decide +kernel
theorem dX11_init_89 : decode cX11_init 89 = .ok (.invokespecial 55, 3) := by decide +kernel
theorem dX11_init_92 : decode cX11_init 92 = .ok (.putfield 60, 3) := by decide +kernel
theorem dX11_init_95 : decode cX11_init 95 = .ok (.aload_n 0, 1) := by decide +kernel
theorem dX11_init_96 : decode cX11_init 96 = .ok (.new 63, 3) := by decide +kernel
theorem dX11_init_99 : decode cX11_init 99 = .ok (.dup, 1) := by decide +kernel
theorem dX11_init_100 : decode cX11_init 100 = .ok (.invokespecial 65, 3) := by decide +kernel
theorem dX11_init_103 : decode cX11_init 103 = .ok (.putfield 66, 3) := by decide +kernel
theorem dX11_init_106 : decode cX11_init 106 = .ok (.aload_n 0, 1) := by decide +kernel
theorem dX11_init_107 : decode cX11_init 107 = .ok (.new 70, 3) := by decide +kernel
theorem dX11_init_110 : decode cX11_init 110 = .ok (.dup, 1) := by decide +kernel
theorem dX11_init_111 : decode cX11_init 111 = .ok (.invokespecial 72, 3) := by decide +kernel
theorem dX11_init_114 : decode cX11_init 114 = .ok (.putfield 73, 3) := by decide +kernel
theorem dX11_init_117 : decode cX11_init 117 = .ok (.aload_n 0, 1) := by decide +kernel
theorem dX11_init_118 : decode cX11_init 118 = .ok (.bipush 40, 2) := by decide +kernel
theorem dX11_init_120 : decode cX11_init 120 = .ok (.anewarray 77, 3) := by decide +kernel
theorem dX11_init_123 : decode cX11_init 123 = .ok (.putfield 79, 3) := by decide +kernel
theorem dX11_init_126 : decode cX11_init 126 = .ok (.aload_n 0, 1) := by decide +kernel
theorem dX11_init_127 : decode cX11_init 127 = .ok (.iconst 0, 1) := by decide +kernel
theorem dX11_init_128 : decode cX11_init 128 = .ok (.putfield 83, 3) := by decide +kernel
theorem dX11_init_131 : decode cX11_init 131 = .ok (.aload_n 0, 1) := by decide +kernel
theorem dX11_init_132 : decode cX11_init 132 = .ok (.new 77, 3) := by decide +kernel
theorem dX11_init_135 : decode cX11_init 135 = .ok (.dup, 1) := by decide +kernel
theorem dX11_init_136 : decode cX11_init 136 = .ok (.invokespecial 86, 3) := by decide +kernel
theorem dX11_init_139 : decode cX11_init 139 = .ok (.putfield 87, 3) := by decide +kernel
theorem dX11_init_142 : decode cX11_init 142 = .ok (.iconst 0, 1) := by decide +kernel
theorem dX11_init_143 : decode cX11_init 143 = .ok (.istore_n 1, 1) := by decide +kernel
theorem dX11_init_144 : decode cX11_init 144 = .ok (.iload_n 1, 1) := by decide +kernel
theorem dX11_init_145 : decode cX11_init 145 = .ok (.iconst 3, 1) := by decide +kernel
theorem dX11_init_146 : decode cX11_init 146 = .ok (.if_icmp .ge 33, 3) := by decide +kernel
theorem dX11_init_149 : decode cX11_init 149 = .ok (.aload_n 0, 1) := by decide +kernel
theorem dX11_init_150 : decode cX11_init 150 = .ok (.getfield 49, 3) := by decide +kernel
theorem dX11_init_153 : decode cX11_init 153 = .ok (.iload_n 1, 1) := by decide +kernel
theorem dX11_init_154 : decode cX11_init 154 = .ok (.new 47, 3) := by decide +kernel
theorem dX11_init_157 : decode cX11_init 157 = .ok (.dup, 1) := by decide +kernel
theorem dX11_init_158 : decode cX11_init 158 = .ok (.iload_n 1, 1) := by decide +kernel
theorem dX11_init_159 : decode cX11_init 159 = .ok (.iconst 2, 1) := by decide +kernel
theorem dX11_init_160 : decode cX11_init 160 = .ok (.if_icmp .ne 8, 3) := by decide +kernel
theorem dX11_init_163 : decode cX11_init 163 = .ok (.bipush 30, 2) := by decide +kernel
theorem dX11_init_165 : decode cX11_init 165 = .ok (.goto 4, 3) := by decide +kernel
theorem dX11_init_168 : decode cX11_init 168 = .ok (.iconst 0, 1) := by decide +kernel
theorem dX11_init_169 : decode cX11_init 169 = .ok (.invokespecial 91, 3) := by decide +kernel
theorem dX11_init_172 : decode cX11_init 172 = .ok (.aastore, 1) := by decide +kernel
theorem dX11_init_173 : decode cX11_init 173 = .ok (.iinc 1 1, 3) := by decide +kernel
theorem dX11_init_176 : decode cX11_init 176 = .ok (.goto (-32), 3) := by decide +kernel
theorem dX11_init_179 : decode cX11_init 179 = .ok (.return_, 1) := by decide +kernel
theorem dX11_isLineOnTape_0 : decode cX11_isLineOnTape 0 = .ok (.aload_n 0, 1) := by decide +kernel
theorem dX11_isLineOnTape_1 : decode cX11_isLineOnTape 1 = .ok (.iload_n 1, 1) := by decide +kernel
theorem dX11_isLineOnTape_2 : decode cX11_isLineOnTape 2 = .ok (.invokevirtual 97, 3) := by decide +kernel
theorem dX11_isLineOnTape_5 : decode cX11_isLineOnTape 5 = .ok (.ifCond .eq 14, 3) := by decide +kernel
theorem dX11_isLineOnTape_8 : decode cX11_isLineOnTape 8 = .ok (.iload_n 1, 1) := by decide +kernel
theorem dX11_isLineOnTape_9 : decode cX11_isLineOnTape 9 = .ok (.sipush 400, 3) := by decide +kernel
theorem dX11_isLineOnTape_12 : decode cX11_isLineOnTape 12 = .ok (.if_icmp .gt 7, 3) := by decide +kernel
theorem dX11_isLineOnTape_15 : decode cX11_isLineOnTape 15 = .ok (.iconst 1, 1) := by decide +kernel
theorem dX11_isLineOnTape_16 : decode cX11_isLineOnTape 16 = .ok (.goto 4, 3) := by decide +kernel
theorem dX11_isLineOnTape_19 : decode cX11_isLineOnTape 19 = .ok (.iconst 0, 1) := by decide +kernel
theorem dX11_isLineOnTape_20 : decode cX11_isLineOnTape 20 = .ok (.ireturn, 1) := by decide +kernel
theorem dX11_isOnTape_0 : decode cX11_isOnTape 0 = .ok (.iload_n 1, 1) := by decide +kernel
theorem dX11_isOnTape_1 : decode cX11_isOnTape 1 = .ok (.ifCond .lt 15, 3) := by decide +kernel
theorem dX11_isOnTape_4 : decode cX11_isOnTape 4 = .ok (.iload_n 1, 1) := by decide +kernel
theorem dX11_isOnTape_5 : decode cX11_isOnTape 5 = .ok (.aload_n 0, 1) := by decide +kernel
theorem dX11_isOnTape_6 : decode cX11_isOnTape 6 = .ok (.getfield 15, 3) := by decide +kernel
theorem dX11_isOnTape_9 : decode cX11_isOnTape 9 = .ok (.if_icmp .gt 7, 3) := by decide +kernel
theorem dX11_isOnTape_12 : decode cX11_isOnTape 12 = .ok (.iconst 1, 1) := by decide +kernel
theorem dX11_isOnTape_13 : decode cX11_isOnTape 13 = .ok (.goto 4, 3) := by decide +kernel
theorem dX11_isOnTape_16 : decode cX11_isOnTape 16 = .ok (.iconst 0, 1) := by decide +kernel
theorem dX11_isOnTape_17 : decode cX11_isOnTape 17 = .ok (.ireturn, 1) := by decide +kernel
theorem dX11_isSortOfRows_0 : decode cX11_isSortOfRows 0 = .ok (.iload_n 0, 1) := by decide +kernel
theorem dX11_isSortOfRows_1 : decode cX11_isSortOfRows 1 = .ok (.ifCond .lt 12, 3) := by decide +kernel
theorem dX11_isSortOfRows_4 : decode cX11_isSortOfRows 4 = .ok (.iload_n 0, 1) := by decide +kernel
theorem dX11_isSortOfRows_5 : decode cX11_isSortOfRows 5 = .ok (.iconst 3, 1) := by decide +kernel
theorem dX11_isSortOfRows_6 : decode cX11_isSortOfRows 6 = .ok (.if_icmp .ge 7, 3) := by decide +kernel
theorem dX11_isSortOfRows_9 : decode cX11_isSortOfRows 9 = .ok (.iconst 1, 1) := by decide +kernel
theorem dX11_isSortOfRows_10 : decode cX11_isSortOfRows 10 = .ok (.goto 4, 3) := by decide +kernel
theorem dX11_isSortOfRows_13 : decode cX11_isSortOfRows 13 = .ok (.iconst 0, 1) := by decide +kernel
theorem dX11_isSortOfRows_14 : decode cX11_isSortOfRows 14 = .ok (.ireturn, 1) := by decide +kernel
theorem dX11_item_0 : decode cX11_item 0 = .ok (.aload_n 0, 1) := by decide +kernel
theorem dX11_item_1 : decode cX11_item 1 = .ok (.iload_n 1, 1) := by decide +kernel
theorem dX11_item_2 : decode cX11_item 2 = .ok (.invokevirtual 242, 3) := by decide +kernel
theorem dX11_item_5 : decode cX11_item 5 = .ok (.astore 4, 2) := by decide +kernel
theorem dX11_item_7 : decode cX11_item 7 = .ok (.iload_n 3, 1) := by decide +kernel
theorem dX11_item_8 : decode cX11_item 8 = .ok (.ifCond .ge 5, 3) := by decide +kernel
theorem dX11_item_11 : decode cX11_item 11 = .ok (.iconst 0, 1) := by decide +kernel
theorem dX11_item_12 : decode cX11_item 12 = .ok (.ireturn, 1) := by decide +kernel
theorem dX11_item_13 : decode cX11_item 13 = .ok (.iload_n 2, 1) := by decide +kernel
theorem dX11_item_14 : decode cX11_item 14 = .ok (.iconst (-1), 1) := by decide +kernel
theorem dX11_item_15 : decode cX11_item 15 = .ok (.if_icmp .ne 17, 3) := by decide +kernel
theorem dX11_item_18 : decode cX11_item 18 = .ok (.aload 4, 2) := by decide +kernel
theorem dX11_item_20 : decode cX11_item 20 = .ok (.iload_n 3, 1) := by decide +kernel
theorem dX11_item_21 : decode cX11_item 21 = .ok (.bipush 100, 2) := by decide +kernel
theorem dX11_item_23 : decode cX11_item 23 = .ok (.idiv, 1) := by decide +kernel
theorem dX11_item_24 : decode cX11_item 24 = .ok (.iload_n 3, 1) := by decide +kernel
theorem dX11_item_25 : decode cX11_item 25 = .ok (.bipush 100, 2) := by decide +kernel
theorem dX11_item_27 : decode cX11_item 27 = .ok (.irem, 1) := by decide +kernel
theorem dX11_item_28 : decode cX11_item 28 = .ok (.invokevirtual 266, 3) := by decide +kernel
theorem dX11_item_31 : decode cX11_item 31 = .ok (.ireturn, 1) := by decide +kernel
theorem dX11_item_32 : decode cX11_item 32 = .ok (.aload 4, 2) := by decide +kernel
theorem dX11_item_34 : decode cX11_item 34 = .ok (.iload_n 2, 1) := by decide +kernel
theorem dX11_item_35 : decode cX11_item 35 = .ok (.invokevirtual 256, 3) := by decide +kernel
theorem dX11_item_38 : decode cX11_item 38 = .ok (.ifCond .eq 13, 3) := by decide +kernel
theorem dX11_item_41 : decode cX11_item 41 = .ok (.aload 4, 2) := by decide +kernel
theorem dX11_item_43 : decode cX11_item 43 = .ok (.iload_n 2, 1) := by decide +kernel
theorem dX11_item_44 : decode cX11_item 44 = .ok (.iload_n 3, 1) := by decide +kernel
theorem dX11_item_45 : decode cX11_item 45 = .ok (.invokevirtual 270, 3) := by decide +kernel
theorem dX11_item_48 : decode cX11_item 48 = .ok (.goto 4, 3) := by decide +kernel
theorem dX11_item_51 : decode cX11_item 51 = .ok (.iconst 0, 1) := by decide +kernel
theorem dX11_item_52 : decode cX11_item 52 = .ok (.ireturn, 1) := by decide +kernel
theorem dX11_octet_0 : decode cX11_octet 0 = .ok (.iload_n 1, 1) := by decide +kernel
theorem dX11_octet_1 : decode cX11_octet 1 = .ok (.ifCond .lt 25, 3) := by decide +kernel
theorem dX11_octet_4 : decode cX11_octet 4 = .ok (.iload_n 1, 1) := by decide +kernel
theorem dX11_octet_5 : decode cX11_octet 5 = .ok (.aload_n 0, 1) := by decide +kernel
theorem dX11_octet_6 : decode cX11_octet 6 = .ok (.getfield 22, 3) := by decide +kernel
theorem dX11_octet_9 : decode cX11_octet 9 = .ok (.invokevirtual 233, 3) := by decide +kernel
theorem dX11_octet_12 : decode cX11_octet 12 = .ok (.if_icmp .ge 14, 3) := by decide +kernel
theorem dX11_octet_15 : decode cX11_octet 15 = .ok (.aload_n 0, 1) := by decide +kernel
theorem dX11_octet_16 : decode cX11_octet 16 = .ok (.getfield 22, 3) := by decide +kernel
theorem dX11_octet_19 : decode cX11_octet 19 = .ok (.iload_n 1, 1) := by decide +kernel
theorem dX11_octet_20 : decode cX11_octet 20 = .ok (.invokevirtual 284, 3) := by decide +kernel
theorem dX11_octet_23 : decode cX11_octet 23 = .ok (.goto 4, 3) := by decide +kernel
theorem dX11_octet_26 : decode cX11_octet 26 = .ok (.iconst (-1), 1) := by decide +kernel
theorem dX11_octet_27 : decode cX11_octet 27 = .ok (.ireturn, 1) := by decide +kernel
theorem dX11_print_0 : decode cX11_print 0 = .ok (.aload_n 0, 1) := by decide +kernel
theorem dX11_print_1 : decode cX11_print 1 = .ok (.iload_n 1, 1) := by decide +kernel
theorem dX11_print_2 : decode cX11_print 2 = .ok (.invokevirtual 242, 3) := by decide +kernel
theorem dX11_print_5 : decode cX11_print 5 = .ok (.astore_n 2, 1) := by decide +kernel
theorem dX11_print_6 : decode cX11_print 6 = .ok (.aload_n 0, 1) := by decide +kernel
theorem dX11_print_7 : decode cX11_print 7 = .ok (.getfield 22, 3) := by decide +kernel
theorem dX11_print_10 : decode cX11_print 10 = .ok (.iconst 0, 1) := by decide +kernel
theorem dX11_print_11 : decode cX11_print 11 = .ok (.invokevirtual 277, 3) := by decide +kernel
theorem dX11_print_14 : decode cX11_print 14 = .ok (.aload_n 2, 1) := by decide +kernel
theorem dX11_print_15 : decode cX11_print 15 = .ok (.aload_n 0, 1) := by decide +kernel
theorem dX11_print_16 : decode cX11_print 16 = .ok (.getfield 22, 3) := by decide +kernel
theorem dX11_print_19 : decode cX11_print 19 = .ok (.invokevirtual 280, 3) := by decide +kernel
theorem dX11_print_22 : decode cX11_print 22 = .ok (.aload_n 0, 1) := by decide +kernel
theorem dX11_print_23 : decode cX11_print 23 = .ok (.getfield 22, 3) := by decide +kernel
theorem dX11_print_26 : decode cX11_print 26 = .ok (.invokevirtual 233, 3) := by decide +kernel
theorem dX11_print_29 : decode cX11_print 29 = .ok (.ireturn, 1) := by decide +kernel
theorem dX11_put_0 : decode cX11_put 0 = .ok (.aload_n 0, 1) := by decide +kernel
theorem dX11_put_1 : decode cX11_put 1 = .ok (.iload_n 2, 1) := by decide +kernel
theorem dX11_put_2 : decode cX11_put 2 = .ok (.invokevirtual 97, 3) := by decide +kernel
theorem dX11_put_5 : decode cX11_put 5 = .ok (.ifCond .eq 10, 3) := by decide +kernel
theorem dX11_put_8 : decode cX11_put 8 = .ok (.iload_n 1, 1) := by decide +kernel
theorem dX11_put_9 : decode cX11_put 9 = .ok (.invokestatic 117, 3) := by decide +kernel
theorem dX11_put_12 : decode cX11_put 12 = .ok (.ifCond .ne 11, 3) := by decide +kernel
theorem dX11_put_15 : decode cX11_put 15 = .ok (.new 101, 3) := by decide +kernel
theorem dX11_put_18 : decode cX11_put 18 = .ok (.dup, 1) := by decide +kernel
theorem dX11_put_19 : decode cX11_put 19 = .ok (.invokespecial 103, 3) := by decide +kernel
theorem dX11_put_22 : decode cX11_put 22 = .ok (.athrow, 1) := by decide +kernel
theorem dX11_put_23 : decode cX11_put 23 = .ok (.aload_n 0, 1) := by decide +kernel
theorem dX11_put_24 : decode cX11_put 24 = .ok (.iconst 0, 1) := by decide +kernel
theorem dX11_put_25 : decode cX11_put 25 = .ok (.putfield 15, 3) := by decide +kernel
theorem dX11_put_28 : decode cX11_put 28 = .ok (.iconst 0, 1) := by decide +kernel
theorem dX11_put_29 : decode cX11_put 29 = .ok (.istore_n 3, 1) := by decide +kernel
theorem dX11_put_30 : decode cX11_put 30 = .ok (.iload_n 3, 1) := by decide +kernel
theorem dX11_put_31 : decode cX11_put 31 = .ok (.iload_n 2, 1) := by decide +kernel
theorem dX11_put_32 : decode cX11_put 32 = .ok (.if_icmp .ge 20, 3) := by decide +kernel
theorem dX11_put_35 : decode cX11_put 35 = .ok (.aload_n 0, 1) := by decide +kernel
theorem dX11_put_36 : decode cX11_put 36 = .ok (.getfield 11, 3) := by decide +kernel
theorem dX11_put_39 : decode cX11_put 39 = .ok (.iload_n 3, 1) := by decide +kernel
theorem dX11_put_40 : decode cX11_put 40 = .ok (.caload, 1) := by decide +kernel
theorem dX11_put_41 : decode cX11_put 41 = .ok (.bipush 61, 2) := by decide +kernel
theorem dX11_put_43 : decode cX11_put 43 = .ok (.if_icmp .eq 9, 3) := by decide +kernel
theorem dX11_put_46 : decode cX11_put 46 = .ok (.iinc 3 1, 3) := by decide +kernel
theorem dX11_put_49 : decode cX11_put 49 = .ok (.goto (-19), 3) := by decide +kernel
theorem dX11_put_52 : decode cX11_put 52 = .ok (.iload_n 3, 1) := by decide +kernel
theorem dX11_put_53 : decode cX11_put 53 = .ok (.iload_n 2, 1) := by decide +kernel
