theorem dX3_init_0 : decode cX3_init 0 = .ok (.aload_n 0, 1) := by decide +kernel
theorem dX3_init_1 : decode cX3_init 1 = .ok (.invokespecial 3, 3) := by decide +kernel
theorem dX3_init_4 : decode cX3_init 4 = .ok (.aload_n 0, 1) := by decide +kernel
theorem dX3_init_5 : decode cX3_init 5 = .ok (.bipush 6, 2) := by decide +kernel
theorem dX3_init_7 : decode cX3_init 7 = .ok (.newarray .int, 2) := by decide +kernel
theorem dX3_init_9 : decode cX3_init 9 = .ok (.putfield 9, 3) := by decide +kernel
theorem dX3_init_12 : decode cX3_init 12 = .ok (.aload_n 0, 1) := by decide +kernel
theorem dX3_init_13 : decode cX3_init 13 = .ok (.bipush 6, 2) := by decide +kernel
theorem dX3_init_15 : decode cX3_init 15 = .ok (.newarray .int, 2) := by decide +kernel
theorem dX3_init_17 : decode cX3_init 17 = .ok (.putfield 15, 3) := by decide +kernel
theorem dX3_init_20 : decode cX3_init 20 = .ok (.aload_n 0, 1) := by decide +kernel
theorem dX3_init_21 : decode cX3_init 21 = .ok (.iconst 0, 1) := by decide +kernel
theorem dX3_init_22 : decode cX3_init 22 = .ok (.putfield 18, 3) := by decide +kernel
theorem dX3_init_25 : decode cX3_init 25 = .ok (.return_, 1) := by decide +kernel
theorem dX3_append_0 : decode cX3_append 0 = .ok (.aload_n 0, 1) := by decide +kernel
theorem dX3_append_1 : decode cX3_append 1 = .ok (.getfield 18, 3) := by decide +kernel
theorem dX3_append_4 : decode cX3_append 4 = .ok (.bipush 6, 2) := by decide +kernel
theorem dX3_append_6 : decode cX3_append 6 = .ok (.if_icmp .ge 33, 3) := by decide +kernel
theorem dX3_append_9 : decode cX3_append 9 = .ok (.aload_n 0, 1) := by decide +kernel
theorem dX3_append_10 : decode cX3_append 10 = .ok (.getfield 9, 3) := by decide +kernel
theorem dX3_append_13 : decode cX3_append 13 = .ok (.aload_n 0, 1) := by decide +kernel
theorem dX3_append_14 : decode cX3_append 14 = .ok (.getfield 18, 3) := by decide +kernel
theorem dX3_append_17 : decode cX3_append 17 = .ok (.iload_n 1, 1) := by decide +kernel
theorem dX3_append_18 : decode cX3_append 18 = .ok (.iastore, 1) := by decide +kernel
theorem dX3_append_19 : decode cX3_append 19 = .ok (.aload_n 0, 1) := by decide +kernel
theorem dX3_append_20 : decode cX3_append 20 = .ok (.getfield 15, 3) := by decide +kernel
theorem dX3_append_23 : decode cX3_append 23 = .ok (.aload_n 0, 1) := by decide +kernel
theorem dX3_append_24 : decode cX3_append 24 = .ok (.getfield 18, 3) := by decide +kernel
theorem dX3_append_27 : decode cX3_append 27 = .ok (.iload_n 2, 1) := by decide +kernel
theorem dX3_append_28 : decode cX3_append 28 = .ok (.iastore, 1) := by decide +kernel
theorem dX3_append_29 : decode cX3_append 29 = .ok (.aload_n 0, 1) := by decide +kernel
theorem dX3_append_30 : decode cX3_append 30 = .ok (.dup, 1) := by decide +kernel
theorem dX3_append_31 : decode cX3_append 31 = .ok (.getfield 18, 3) := by decide +kernel
theorem dX3_append_34 : decode cX3_append 34 = .ok (.iconst 1, 1) := by decide +kernel
theorem dX3_append_35 : decode cX3_append 35 = .ok (.iadd, 1) := by decide +kernel
theorem dX3_append_36 : decode cX3_append 36 = .ok (.putfield 18, 3) := by decide +kernel
theorem dX3_append_39 : decode cX3_append 39 = .ok (.return_, 1) := by decide +kernel
theorem dX3_ridersIn_0 : decode cX3_ridersIn 0 = .ok (.iconst 0, 1) := by decide +kernel
theorem dX3_ridersIn_1 : decode cX3_ridersIn 1 = .ok (.istore_n 2, 1) := by decide +kernel
theorem dX3_ridersIn_2 : decode cX3_ridersIn 2 = .ok (.iconst 0, 1) := by decide +kernel
theorem dX3_ridersIn_3 : decode cX3_ridersIn 3 = .ok (.istore_n 3, 1) := by decide +kernel
theorem dX3_ridersIn_4 : decode cX3_ridersIn 4 = .ok (.iload_n 3, 1) := by decide +kernel
theorem dX3_ridersIn_5 : decode cX3_ridersIn 5 = .ok (.aload_n 0, 1) := by decide +kernel
theorem dX3_ridersIn_6 : decode cX3_ridersIn 6 = .ok (.getfield 18, 3) := by decide +kernel
theorem dX3_ridersIn_9 : decode cX3_ridersIn 9 = .ok (.if_icmp .ge 30, 3) := by decide +kernel
theorem dX3_ridersIn_12 : decode cX3_ridersIn 12 = .ok (.aload_n 0, 1) := by decide +kernel
theorem dX3_ridersIn_13 : decode cX3_ridersIn 13 = .ok (.getfield 15, 3) := by decide +kernel
theorem dX3_ridersIn_16 : decode cX3_ridersIn 16 = .ok (.iload_n 3, 1) := by decide +kernel
theorem dX3_ridersIn_17 : decode cX3_ridersIn 17 = .ok (.iaload, 1) := by decide +kernel
theorem dX3_ridersIn_18 : decode cX3_ridersIn 18 = .ok (.iload_n 1, 1) := by decide +kernel
theorem dX3_ridersIn_19 : decode cX3_ridersIn 19 = .ok (.if_icmp .ne 14, 3) := by decide +kernel
theorem dX3_ridersIn_22 : decode cX3_ridersIn 22 = .ok (.iload_n 2, 1) := by decide +kernel
theorem dX3_ridersIn_23 : decode cX3_ridersIn 23 = .ok (.iconst 1, 1) := by decide +kernel
theorem dX3_ridersIn_24 : decode cX3_ridersIn 24 = .ok (.aload_n 0, 1) := by decide +kernel
theorem dX3_ridersIn_25 : decode cX3_ridersIn 25 = .ok (.getfield 9, 3) := by decide +kernel
theorem dX3_ridersIn_28 : decode cX3_ridersIn 28 = .ok (.iload_n 3, 1) := by decide +kernel
theorem dX3_ridersIn_29 : decode cX3_ridersIn 29 = .ok (.iaload, 1) := by decide +kernel
theorem dX3_ridersIn_30 : decode cX3_ridersIn 30 = .ok (.ishl, 1) := by decide +kernel
theorem dX3_ridersIn_31 : decode cX3_ridersIn 31 = .ok (.ior, 1) := by decide +kernel
theorem dX3_ridersIn_32 : decode cX3_ridersIn 32 = .ok (.istore_n 2, 1) := by decide +kernel
theorem dX3_ridersIn_33 : decode cX3_ridersIn 33 = .ok (.iinc 3 1, 3) := by decide +kernel
theorem dX3_ridersIn_36 : decode cX3_ridersIn 36 = .ok (.goto (-32), 3) := by decide +kernel
theorem dX3_ridersIn_39 : decode cX3_ridersIn 39 = .ok (.iload_n 2, 1) := by decide +kernel
theorem dX3_ridersIn_40 : decode cX3_ridersIn 40 = .ok (.ireturn, 1) := by decide +kernel
