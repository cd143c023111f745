theorem dX1_init_0 : decode cX1_init 0 = .ok (.aload_n 0, 1) := by decide +kernel
theorem dX1_init_1 : decode cX1_init 1 = .ok (.invokespecial 3, 3) := by decide +kernel
theorem dX1_init_4 : decode cX1_init 4 = .ok (.aload_n 0, 1) := by decide +kernel
theorem dX1_init_5 : decode cX1_init 5 = .ok (.iconst 0, 1) := by decide +kernel
theorem dX1_init_6 : decode cX1_init 6 = .ok (.putfield 9, 3) := by decide +kernel
theorem dX1_init_9 : decode cX1_init 9 = .ok (.aload_n 0, 1) := by decide +kernel
theorem dX1_init_10 : decode cX1_init 10 = .ok (.iconst 5, 1) := by decide +kernel
theorem dX1_init_11 : decode cX1_init 11 = .ok (.newarray .int, 2) := by decide +kernel
theorem dX1_init_13 : decode cX1_init 13 = .ok (.putfield 15, 3) := by decide +kernel
theorem dX1_init_16 : decode cX1_init 16 = .ok (.aload_n 0, 1) := by decide +kernel
theorem dX1_init_17 : decode cX1_init 17 = .ok (.iconst 5, 1) := by decide +kernel
theorem dX1_init_18 : decode cX1_init 18 = .ok (.newarray .int, 2) := by decide +kernel
theorem dX1_init_20 : decode cX1_init 20 = .ok (.putfield 19, 3) := by decide +kernel
theorem dX1_init_23 : decode cX1_init 23 = .ok (.return_, 1) := by decide +kernel
theorem dX1_tellFrom_0 : decode cX1_tellFrom 0 = .ok (.aload_n 0, 1) := by decide +kernel
theorem dX1_tellFrom_1 : decode cX1_tellFrom 1 = .ok (.aload_n 1, 1) := by decide +kernel
theorem dX1_tellFrom_2 : decode cX1_tellFrom 2 = .ok (.invokevirtual 22, 3) := by decide +kernel
theorem dX1_tellFrom_5 : decode cX1_tellFrom 5 = .ok (.putfield 9, 3) := by decide +kernel
theorem dX1_tellFrom_8 : decode cX1_tellFrom 8 = .ok (.iconst 0, 1) := by decide +kernel
theorem dX1_tellFrom_9 : decode cX1_tellFrom 9 = .ok (.istore_n 2, 1) := by decide +kernel
theorem dX1_tellFrom_10 : decode cX1_tellFrom 10 = .ok (.iload_n 2, 1) := by decide +kernel
theorem dX1_tellFrom_11 : decode cX1_tellFrom 11 = .ok (.aload_n 0, 1) := by decide +kernel
theorem dX1_tellFrom_12 : decode cX1_tellFrom 12 = .ok (.getfield 9, 3) := by decide +kernel
theorem dX1_tellFrom_15 : decode cX1_tellFrom 15 = .ok (.if_icmp .ge 33, 3) := by decide +kernel
theorem dX1_tellFrom_18 : decode cX1_tellFrom 18 = .ok (.aload_n 0, 1) := by decide +kernel
theorem dX1_tellFrom_19 : decode cX1_tellFrom 19 = .ok (.getfield 15, 3) := by decide +kernel
theorem dX1_tellFrom_22 : decode cX1_tellFrom 22 = .ok (.iload_n 2, 1) := by decide +kernel
theorem dX1_tellFrom_23 : decode cX1_tellFrom 23 = .ok (.aload_n 1, 1) := by decide +kernel
theorem dX1_tellFrom_24 : decode cX1_tellFrom 24 = .ok (.iload_n 2, 1) := by decide +kernel
theorem dX1_tellFrom_25 : decode cX1_tellFrom 25 = .ok (.iconst 2, 1) := by decide +kernel
theorem dX1_tellFrom_26 : decode cX1_tellFrom 26 = .ok (.invokevirtual 28, 3) := by decide +kernel
theorem dX1_tellFrom_29 : decode cX1_tellFrom 29 = .ok (.iastore, 1) := by decide +kernel
theorem dX1_tellFrom_30 : decode cX1_tellFrom 30 = .ok (.aload_n 0, 1) := by decide +kernel
theorem dX1_tellFrom_31 : decode cX1_tellFrom 31 = .ok (.getfield 19, 3) := by decide +kernel
theorem dX1_tellFrom_34 : decode cX1_tellFrom 34 = .ok (.iload_n 2, 1) := by decide +kernel
theorem dX1_tellFrom_35 : decode cX1_tellFrom 35 = .ok (.aload_n 1, 1) := by decide +kernel
theorem dX1_tellFrom_36 : decode cX1_tellFrom 36 = .ok (.iload_n 2, 1) := by decide +kernel
theorem dX1_tellFrom_37 : decode cX1_tellFrom 37 = .ok (.iconst 3, 1) := by decide +kernel
theorem dX1_tellFrom_38 : decode cX1_tellFrom 38 = .ok (.invokevirtual 28, 3) := by decide +kernel
theorem dX1_tellFrom_41 : decode cX1_tellFrom 41 = .ok (.iastore, 1) := by decide +kernel
theorem dX1_tellFrom_42 : decode cX1_tellFrom 42 = .ok (.iinc 2 1, 3) := by decide +kernel
theorem dX1_tellFrom_45 : decode cX1_tellFrom 45 = .ok (.goto (-35), 3) := by decide +kernel
theorem dX1_tellFrom_48 : decode cX1_tellFrom 48 = .ok (.return_, 1) := by decide +kernel
theorem dX1_might_0 : decode cX1_might 0 = .ok (.aload_n 0, 1) := by decide +kernel
theorem dX1_might_1 : decode cX1_might 1 = .ok (.getfield 15, 3) := by decide +kernel
theorem dX1_might_4 : decode cX1_might 4 = .ok (.iload_n 1, 1) := by decide +kernel
theorem dX1_might_5 : decode cX1_might 5 = .ok (.iaload, 1) := by decide +kernel
theorem dX1_might_6 : decode cX1_might 6 = .ok (.aload_n 0, 1) := by decide +kernel
theorem dX1_might_7 : decode cX1_might 7 = .ok (.getfield 19, 3) := by decide +kernel
theorem dX1_might_10 : decode cX1_might 10 = .ok (.iload_n 1, 1) := by decide +kernel
theorem dX1_might_11 : decode cX1_might 11 = .ok (.iaload, 1) := by decide +kernel
theorem dX1_might_12 : decode cX1_might 12 = .ok (.iconst 1, 1) := by decide +kernel
theorem dX1_might_13 : decode cX1_might 13 = .ok (.if_icmp .ne 7, 3) := by decide +kernel
theorem dX1_might_16 : decode cX1_might 16 = .ok (.iconst 2, 1) := by decide +kernel
theorem dX1_might_17 : decode cX1_might 17 = .ok (.goto 4, 3) := by decide +kernel
theorem dX1_might_20 : decode cX1_might 20 = .ok (.iconst 0, 1) := by decide +kernel
theorem dX1_might_21 : decode cX1_might 21 = .ok (.iadd, 1) := by decide +kernel
theorem dX1_might_22 : decode cX1_might 22 = .ok (.ireturn, 1) := by decide +kernel
