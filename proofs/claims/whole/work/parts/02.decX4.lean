theorem dX4_init_0 : decode cX4_init 0 = .ok (.aload_n 0, 1) := by decide +kernel
theorem dX4_init_1 : decode cX4_init 1 = .ok (.invokespecial 3, 3) := by decide +kernel
theorem dX4_init_4 : decode cX4_init 4 = .ok (.aload_n 0, 1) := by decide +kernel
theorem dX4_init_5 : decode cX4_init 5 = .ok (.iconst 2, 1) := by decide +kernel
theorem dX4_init_6 : decode cX4_init 6 = .ok (.anewarray 9, 3) := by decide +kernel
theorem dX4_init_9 : decode cX4_init 9 = .ok (.putfield 11, 3) := by decide +kernel
theorem dX4_init_12 : decode cX4_init 12 = .ok (.aload_n 0, 1) := by decide +kernel
theorem dX4_init_13 : decode cX4_init 13 = .ok (.iconst 2, 1) := by decide +kernel
theorem dX4_init_14 : decode cX4_init 14 = .ok (.newarray .boolean, 2) := by decide +kernel
theorem dX4_init_16 : decode cX4_init 16 = .ok (.putfield 17, 3) := by decide +kernel
theorem dX4_init_19 : decode cX4_init 19 = .ok (.iconst 0, 1) := by decide +kernel
theorem dX4_init_20 : decode cX4_init 20 = .ok (.istore_n 2, 1) := by decide +kernel
theorem dX4_init_21 : decode cX4_init 21 = .ok (.iload_n 2, 1) := by decide +kernel
theorem dX4_init_22 : decode cX4_init 22 = .ok (.iconst 2, 1) := by decide +kernel
theorem dX4_init_23 : decode cX4_init 23 = .ok (.if_icmp .ge 23, 3) := by decide +kernel
theorem dX4_init_26 : decode cX4_init 26 = .ok (.aload_n 0, 1) := by decide +kernel
theorem dX4_init_27 : decode cX4_init 27 = .ok (.getfield 11, 3) := by decide +kernel
theorem dX4_init_30 : decode cX4_init 30 = .ok (.iload_n 2, 1) := by decide +kernel
theorem dX4_init_31 : decode cX4_init 31 = .ok (.new 9, 3) := by decide +kernel
theorem dX4_init_34 : decode cX4_init 34 = .ok (.dup, 1) := by decide +kernel
theorem dX4_init_35 : decode cX4_init 35 = .ok (.aload_n 1, 1) := by decide +kernel
theorem dX4_init_36 : decode cX4_init 36 = .ok (.invokespecial 21, 3) := by decide +kernel
theorem dX4_init_39 : decode cX4_init 39 = .ok (.aastore, 1) := by decide +kernel
theorem dX4_init_40 : decode cX4_init 40 = .ok (.iinc 2 1, 3) := by decide +kernel
theorem dX4_init_43 : decode cX4_init 43 = .ok (.goto (-22), 3) := by decide +kernel
theorem dX4_init_46 : decode cX4_init 46 = .ok (.return_, 1) := by decide +kernel
theorem dX4_forgetAll_0 : decode cX4_forgetAll 0 = .ok (.iconst 0, 1) := by decide +kernel
theorem dX4_forgetAll_1 : decode cX4_forgetAll 1 = .ok (.istore_n 1, 1) := by decide +kernel
theorem dX4_forgetAll_2 : decode cX4_forgetAll 2 = .ok (.iload_n 1, 1) := by decide +kernel
theorem dX4_forgetAll_3 : decode cX4_forgetAll 3 = .ok (.iconst 2, 1) := by decide +kernel
theorem dX4_forgetAll_4 : decode cX4_forgetAll 4 = .ok (.if_icmp .ge 16, 3) := by decide +kernel
theorem dX4_forgetAll_7 : decode cX4_forgetAll 7 = .ok (.aload_n 0, 1) := by decide +kernel
theorem dX4_forgetAll_8 : decode cX4_forgetAll 8 = .ok (.getfield 17, 3) := by decide +kernel
theorem dX4_forgetAll_11 : decode cX4_forgetAll 11 = .ok (.iload_n 1, 1) := by decide +kernel
theorem dX4_forgetAll_12 : decode cX4_forgetAll 12 = .ok (.iconst 0, 1) := by decide +kernel
theorem dX4_forgetAll_13 : decode cX4_forgetAll 13 = .ok (.bastore, 1) := by decide +kernel
theorem dX4_forgetAll_14 : decode cX4_forgetAll 14 = .ok (.iinc 1 1, 3) := by decide +kernel
theorem dX4_forgetAll_17 : decode cX4_forgetAll 17 = .ok (.goto (-15), 3) := by decide +kernel
theorem dX4_forgetAll_20 : decode cX4_forgetAll 20 = .ok (.return_, 1) := by decide +kernel
