theorem dX9_init_14 : decode cX9_init 14 = .ok (.iload_n 3, 1) := by decide +kernel
theorem dX9_init_15 : decode cX9_init 15 = .ok (.invokestatic 15, 3) := by decide +kernel
theorem dX9_init_18 : decode cX9_init 18 = .ok (.iload 4, 2) := by decide +kernel
theorem dX9_init_20 : decode cX9_init 20 = .ok (.isub, 1) := by decide +kernel
theorem dX9_init_21 : decode cX9_init 21 = .ok (.invokestatic 9, 3) := by decide +kernel
theorem dX9_init_24 : decode cX9_init 24 = .ok (.istore 5, 2) := by decide +kernel
theorem dX9_init_26 : decode cX9_init 26 = .ok (.aload_n 0, 1) := by decide +kernel
theorem dX9_init_27 : decode cX9_init 27 = .ok (.iload 5, 2) := by decide +kernel
theorem dX9_init_29 : decode cX9_init 29 = .ok (.newarray .char, 2) := by decide +kernel
theorem dX9_init_31 : decode cX9_init 31 = .ok (.putfield 18, 3) := by decide +kernel
theorem dX9_init_34 : decode cX9_init 34 = .ok (.iconst 0, 1) := by decide +kernel
theorem dX9_init_35 : decode cX9_init 35 = .ok (.istore 6, 2) := by decide +kernel
theorem dX9_init_37 : decode cX9_init 37 = .ok (.iload 6, 2) := by decide +kernel
theorem dX9_init_39 : decode cX9_init 39 = .ok (.iload 5, 2) := by decide +kernel
theorem dX9_init_41 : decode cX9_init 41 = .ok (.if_icmp .ge 23, 3) := by decide +kernel
theorem dX9_init_44 : decode cX9_init 44 = .ok (.aload_n 0, 1) := by decide +kernel
theorem dX9_init_45 : decode cX9_init 45 = .ok (.getfield 18, 3) := by decide +kernel
theorem dX9_init_48 : decode cX9_init 48 = .ok (.iload 6, 2) := by decide +kernel
theorem dX9_init_50 : decode cX9_init 50 = .ok (.aload_n 1, 1) := by decide +kernel
theorem dX9_init_51 : decode cX9_init 51 = .ok (.iload 4, 2) := by decide +kernel
theorem dX9_init_53 : decode cX9_init 53 = .ok (.iload 6, 2) := by decide +kernel
theorem dX9_init_55 : decode cX9_init 55 = .ok (.iadd, 1) := by decide +kernel
theorem dX9_init_56 : decode cX9_init 56 = .ok (.caload, 1) := by decide +kernel
theorem dX9_init_57 : decode cX9_init 57 = .ok (.castore, 1) := by decide +kernel
theorem dX9_init_58 : decode cX9_init 58 = .ok (.iinc 6 1, 3) := by decide +kernel
theorem dX9_init_61 : decode cX9_init 61 = .ok (.goto (-24), 3) := by decide +kernel
theorem dX9_init_64 : decode cX9_init 64 = .ok (.return_, 1) := by decide +kernel
