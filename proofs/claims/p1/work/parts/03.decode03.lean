theorem dX8_scan_5 : decode cX8_scan 5 = .ok (.aload_n 0, 1) := by decide +kernel
theorem dX8_scan_6 : decode cX8_scan 6 = .ok (.iload_n 2, 1) := by decide +kernel
theorem dX8_scan_7 : decode cX8_scan 7 = .ok (.aload_n 1, 1) := by decide +kernel
theorem dX8_scan_8 : decode cX8_scan 8 = .ok (.arraylength, 1) := by decide +kernel
theorem dX8_scan_9 : decode cX8_scan 9 = .ok (.invokestatic 28, 3) := by decide +kernel
theorem dX8_scan_12 : decode cX8_scan 12 = .ok (.putfield 34, 3) := by decide +kernel
theorem dX8_scan_15 : decode cX8_scan 15 = .ok (.aload_n 0, 1) := by decide +kernel
theorem dX8_scan_16 : decode cX8_scan 16 = .ok (.iconst 0, 1) := by decide +kernel
theorem dX8_scan_17 : decode cX8_scan 17 = .ok (.putfield 38, 3) := by decide +kernel
theorem dX8_scan_20 : decode cX8_scan 20 = .ok (.iconst 0, 1) := by decide +kernel
theorem dX8_scan_21 : decode cX8_scan 21 = .ok (.istore_n 3, 1) := by decide +kernel
theorem dX8_scan_22 : decode cX8_scan 22 = .ok (.iconst 0, 1) := by decide +kernel
theorem dX8_scan_23 : decode cX8_scan 23 = .ok (.istore 4, 2) := by decide +kernel
theorem dX8_scan_25 : decode cX8_scan 25 = .ok (.iload 4, 2) := by decide +kernel
theorem dX8_scan_27 : decode cX8_scan 27 = .ok (.sipush 2000, 3) := by decide +kernel
theorem dX8_scan_30 : decode cX8_scan 30 = .ok (.if_icmp .gt 81, 3) := by decide +kernel
theorem dX8_scan_33 : decode cX8_scan 33 = .ok (.iload_n 3, 1) := by decide +kernel
theorem dX8_scan_34 : decode cX8_scan 34 = .ok (.aload_n 0, 1) := by decide +kernel
theorem dX8_scan_35 : decode cX8_scan 35 = .ok (.getfield 34, 3) := by decide +kernel
theorem dX8_scan_38 : decode cX8_scan 38 = .ok (.if_icmp .ge 21, 3) := by decide +kernel
theorem dX8_scan_41 : decode cX8_scan 41 = .ok (.aload_n 0, 1) := by decide +kernel
theorem dX8_scan_42 : decode cX8_scan 42 = .ok (.getfield 24, 3) := by decide +kernel
theorem dX8_scan_45 : decode cX8_scan 45 = .ok (.iload_n 3, 1) := by decide +kernel
theorem dX8_scan_46 : decode cX8_scan 46 = .ok (.caload, 1) := by decide +kernel
theorem dX8_scan_47 : decode cX8_scan 47 = .ok (.invokestatic 41, 3) := by decide +kernel
theorem dX8_scan_50 : decode cX8_scan 50 = .ok (.ifCond .eq 9, 3) := by decide +kernel
theorem dX8_scan_53 : decode cX8_scan 53 = .ok (.iinc 3 1, 3) := by decide +kernel
theorem dX8_scan_56 : decode cX8_scan 56 = .ok (.goto (-23), 3) := by decide +kernel
theorem dX8_scan_59 : decode cX8_scan 59 = .ok (.iload_n 3, 1) := by decide +kernel
theorem dX8_scan_60 : decode cX8_scan 60 = .ok (.aload_n 0, 1) := by decide +kernel
theorem dX8_scan_61 : decode cX8_scan 61 = .ok (.getfield 34, 3) := by decide +kernel
theorem dX8_scan_64 : decode cX8_scan 64 = .ok (.if_icmp .lt 19, 3) := by decide +kernel
theorem dX8_scan_67 : decode cX8_scan 67 = .ok (.aload_n 0, 1) := by decide +kernel
theorem dX8_scan_68 : decode cX8_scan 68 = .ok (.iconst 0, 1) := by decide +kernel
theorem dX8_scan_69 : decode cX8_scan 69 = .ok (.aload_n 0, 1) := by decide +kernel
theorem dX8_scan_70 : decode cX8_scan 70 = .ok (.getfield 34, 3) := by decide +kernel
theorem dX8_scan_73 : decode cX8_scan 73 = .ok (.aload_n 0, 1) := by decide +kernel
theorem dX8_scan_74 : decode cX8_scan 74 = .ok (.getfield 34, 3) := by decide +kernel
theorem dX8_scan_77 : decode cX8_scan 77 = .ok (.iconst 0, 1) := by decide +kernel
theorem dX8_scan_78 : decode cX8_scan 78 = .ok (.invokevirtual 45, 3) := by decide +kernel
theorem dX8_scan_81 : decode cX8_scan 81 = .ok (.pop, 1) := by decide +kernel
theorem dX8_scan_82 : decode cX8_scan 82 = .ok (.return_, 1) := by decide +kernel
theorem dX8_scan_83 : decode cX8_scan 83 = .ok (.aload_n 0, 1) := by decide +kernel
theorem dX8_scan_84 : decode cX8_scan 84 = .ok (.iload_n 3, 1) := by decide +kernel
theorem dX8_scan_85 : decode cX8_scan 85 = .ok (.invokevirtual 49, 3) := by decide +kernel
theorem dX8_scan_88 : decode cX8_scan 88 = .ok (.istore_n 3, 1) := by decide +kernel
theorem dX8_scan_89 : decode cX8_scan 89 = .ok (.aload_n 0, 1) := by decide +kernel
theorem dX8_scan_90 : decode cX8_scan 90 = .ok (.getfield 9, 3) := by decide +kernel
theorem dX8_scan_93 : decode cX8_scan 93 = .ok (.aload_n 0, 1) := by decide +kernel
theorem dX8_scan_94 : decode cX8_scan 94 = .ok (.getfield 38, 3) := by decide +kernel
theorem dX8_scan_97 : decode cX8_scan 97 = .ok (.iconst 1, 1) := by decide +kernel
theorem dX8_scan_98 : decode cX8_scan 98 = .ok (.isub, 1) := by decide +kernel
theorem dX8_scan_99 : decode cX8_scan 99 = .ok (.iaload, 1) := by decide +kernel
theorem dX8_scan_100 : decode cX8_scan 100 = .ok (.iconst 1, 1) := by decide +kernel
theorem dX8_scan_101 : decode cX8_scan 101 = .ok (.if_icmp .ne 4, 3) := by decide +kernel
theorem dX8_scan_104 : decode cX8_scan 104 = .ok (.return_, 1) := by decide +kernel
theorem dX8_scan_105 : decode cX8_scan 105 = .ok (.iinc 4 1, 3) := by decide +kernel
theorem dX8_scan_108 : decode cX8_scan 108 = .ok (.goto (-83), 3) := by decide +kernel
theorem dX8_scan_111 : decode cX8_scan 111 = .ok (.return_, 1) := by decide +kernel
theorem dX9_init_0 : decode cX9_init 0 = .ok (.aload_n 0, 1) := by decide +kernel
theorem dX9_init_1 : decode cX9_init 1 = .ok (.invokespecial 3, 3) := by decide +kernel
theorem dX9_init_4 : decode cX9_init 4 = .ok (.iconst 0, 1) := by decide +kernel
theorem dX9_init_5 : decode cX9_init 5 = .ok (.iload_n 2, 1) := by decide +kernel
theorem dX9_init_6 : decode cX9_init 6 = .ok (.invokestatic 9, 3) := by decide +kernel
theorem dX9_init_9 : decode cX9_init 9 = .ok (.istore 4, 2) := by decide +kernel
theorem dX9_init_11 : decode cX9_init 11 = .ok (.iconst 0, 1) := by decide +kernel
theorem dX9_init_12 : decode cX9_init 12 = .ok (.aload_n 1, 1) := by decide +kernel
theorem dX9_init_13 : decode cX9_init 13 = .ok (.arraylength, 1) := by decide +kernel
theorem dX9_init_14 : decode cX9_init 14 = .ok (.iload_n 3, 1) := by decide +kernel
theorem dX9_init_15 : decode cX9_init 15 = .ok (.invokestatic 15, 3) := by decide +kernel
theorem dX9_init_18 : decode cX9_init 18 = .ok (.iload 4, 2) := by decide +kernel
theorem dX9_init_20 : decode cX9_init 20 = .ok (.isub, 1) := by decide +kernel
theorem dX9_init_21 : decode cX9_init 21 = .ok (.invokestatic 9, 3) := by decide +kernel
theorem dX9_init_24 : decode cX9_init 24 = .ok (.istore 5, 2) := by decide +kernel
theorem dX9_init_26 : decode cX9_init 26 = .ok (.aload_n 0, 1) := by decide +kernel
theorem dX9_init_27 : decode cX9_init 27 = .ok (.iload 5, 2) := by decide +kernel
theorem dX9_init_29 : decode cX9_init 29 = .ok (.newarray .char, 2) := by decide +kernel
theorem dX9_init_31 : decode cX9_init 31 = .ok (.putfield 18, 3) := by decide +kernel
theorem dX9_init_34 : decode cX9_init 34 = .ok (.iconst 0, 1) := by decide +kernel
theorem dX9_init_35 : decode cX9_init 35 = .ok (.istore 6, 2) := by decide +kernel
theorem dX9_init_37 : decode cX9_init 37 = .ok (.iload 6, 2) := by decide +kernel
theorem dX9_init_39 : decode cX9_init 39 = .ok (.iload 5, 2) := by decide +kernel
theorem dX9_init_41 : decode cX9_init 41 = .ok (.if_icmp .ge 23, 3) := by decide +kernel
theorem dX9_init_44 : decode cX9_init 44 = .ok (.aload_n 0, 1) := by decide +kernel
theorem dX9_init_45 : decode cX9_init 45 = .ok (.getfield 18, 3) := by decide +kernel
theorem dX9_init_48 : decode cX9_init 48 = .ok (.iload 6, 2) := by decide +kernel
theorem dX9_init_50 : decode cX9_init 50 = .ok (.aload_n 1, 1) := by decide +kernel
theorem dX9_init_51 : decode cX9_init 51 = .ok (.iload 4, 2) := by decide +kernel
theorem dX9_init_53 : decode cX9_init 53 = .ok (.iload 6, 2) := by decide +kernel
theorem dX9_init_55 : decode cX9_init 55 = .ok (.iadd, 1) := by decide +kernel
theorem dX9_init_56 : decode cX9_init 56 = .ok (.caload, 1) := by decide +kernel
theorem dX9_init_57 : decode cX9_init 57 = .ok (.castore, 1) := by decide +kernel
theorem dX9_init_58 : decode cX9_init 58 = .ok (.iinc 6 1, 3) := by decide +kernel
theorem dX9_init_61 : decode cX9_init 61 = .ok (.goto (-24), 3) := by decide +kernel
theorem dX9_init_64 : decode cX9_init 64 = .ok (.return_, 1) := by decide +kernel
