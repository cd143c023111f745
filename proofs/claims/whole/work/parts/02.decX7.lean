theorem dX7_init_0 : decode cX7_init 0 = .ok (.aload_n 0, 1) := by decide +kernel
theorem dX7_init_1 : decode cX7_init 1 = .ok (.invokespecial 1, 3) := by decide +kernel
theorem dX7_init_4 : decode cX7_init 4 = .ok (.aload_n 0, 1) := by decide +kernel
theorem dX7_init_5 : decode cX7_init 5 = .ok (.bipush 32, 2) := by decide +kernel
theorem dX7_init_7 : decode cX7_init 7 = .ok (.newarray .int, 2) := by decide +kernel
theorem dX7_init_9 : decode cX7_init 9 = .ok (.putfield 7, 3) := by decide +kernel
theorem dX7_init_12 : decode cX7_init 12 = .ok (.aload_n 0, 1) := by decide +kernel
theorem dX7_init_13 : decode cX7_init 13 = .ok (.iconst 5, 1) := by decide +kernel
theorem dX7_init_14 : decode cX7_init 14 = .ok (.newarray .int, 2) := by decide +kernel
theorem dX7_init_16 : decode cX7_init 16 = .ok (.putfield 13, 3) := by decide +kernel
theorem dX7_init_19 : decode cX7_init 19 = .ok (.aload_n 0, 1) := by decide +kernel
theorem dX7_init_20 : decode cX7_init 20 = .ok (.iconst 5, 1) := by decide +kernel
theorem dX7_init_21 : decode cX7_init 21 = .ok (.newarray .int, 2) := by decide +kernel
theorem dX7_init_23 : decode cX7_init 23 = .ok (.putfield 16, 3) := by decide +kernel
theorem dX7_init_26 : decode cX7_init 26 = .ok (.aload_n 0, 1) := by decide +kernel
theorem dX7_init_27 : decode cX7_init 27 = .ok (.iconst 1, 1) := by decide +kernel
theorem dX7_init_28 : decode cX7_init 28 = .ok (.putfield 19, 3) := by decide +kernel
theorem dX7_init_31 : decode cX7_init 31 = .ok (.aload_n 0, 1) := by decide +kernel
theorem dX7_init_32 : decode cX7_init 32 = .ok (.bipush 15, 2) := by decide +kernel
theorem dX7_init_34 : decode cX7_init 34 = .ok (.newarray .int, 2) := by decide +kernel
theorem dX7_init_36 : decode cX7_init 36 = .ok (.putfield 23, 3) := by decide +kernel
theorem dX7_init_39 : decode cX7_init 39 = .ok (.aload_n 0, 1) := by decide +kernel
theorem dX7_init_40 : decode cX7_init 40 = .ok (.bipush 36, 2) := by decide +kernel
theorem dX7_init_42 : decode cX7_init 42 = .ok (.newarray .int, 2) := by decide +kernel
theorem dX7_init_44 : decode cX7_init 44 = .ok (.putfield 26, 3) := by decide +kernel
theorem dX7_init_47 : decode cX7_init 47 = .ok (.aload_n 0, 1) := by decide +kernel
theorem dX7_init_48 : decode cX7_init 48 = .ok (.bipush 36, 2) := by decide +kernel
theorem dX7_init_50 : decode cX7_init 50 = .ok (.newarray .int, 2) := by decide +kernel
theorem dX7_init_52 : decode cX7_init 52 = .ok (.putfield 29, 3) := by decide +kernel
theorem dX7_init_55 : decode cX7_init 55 = .ok (.aload_n 0, 1) := by decide +kernel
theorem dX7_init_56 : decode cX7_init 56 = .ok (.sipush 504, 3) := by decide +kernel
theorem dX7_init_59 : decode cX7_init 59 = .ok (.newarray .int, 2) := by decide +kernel
theorem dX7_init_61 : decode cX7_init 61 = .ok (.putfield 32, 3) := by decide +kernel
theorem dX7_init_64 : decode cX7_init 64 = .ok (.aload_n 0, 1) := by decide +kernel
theorem dX7_init_65 : decode cX7_init 65 = .ok (.bipush 72, 2) := by decide +kernel
theorem dX7_init_67 : decode cX7_init 67 = .ok (.newarray .int, 2) := by decide +kernel
theorem dX7_init_69 : decode cX7_init 69 = .ok (.putfield 35, 3) := by decide +kernel
theorem dX7_init_72 : decode cX7_init 72 = .ok (.aload_n 0, 1) := by decide +kernel
theorem dX7_init_73 : decode cX7_init 73 = .ok (.iconst 2, 1) := by decide +kernel
theorem dX7_init_74 : decode cX7_init 74 = .ok (.newarray .boolean, 2) := by decide +kernel
theorem dX7_init_76 : decode cX7_init 76 = .ok (.putfield 38, 3) := by decide +kernel
theorem dX7_init_79 : decode cX7_init 79 = .ok (.aload_n 0, 1) := by decide +kernel
theorem dX7_init_80 : decode cX7_init 80 = .ok (.bipush 6, 2) := by decide +kernel
theorem dX7_init_82 : decode cX7_init 82 = .ok (.newarray .int, 2) := by decide +kernel
theorem dX7_init_84 : decode cX7_init 84 = .ok (.putfield 42, 3) := by decide +kernel
theorem dX7_init_87 : decode cX7_init 87 = .ok (.aload_n 0, 1) := by decide +kernel
theorem dX7_init_88 : decode cX7_init 88 = .ok (.bipush 6, 2) := by decide +kernel
theorem dX7_init_90 : decode cX7_init 90 = .ok (.newarray .int, 2) := by decide +kernel
theorem dX7_init_92 : decode cX7_init 92 = .ok (.putfield 45, 3) := by decide +kernel
theorem dX7_init_95 : decode cX7_init 95 = .ok (.aload_n 0, 1) := by decide +kernel
theorem dX7_init_96 : decode cX7_init 96 = .ok (.bipush 32, 2) := by decide +kernel
theorem dX7_init_98 : decode cX7_init 98 = .ok (.newarray .int, 2) := by decide +kernel
theorem dX7_init_100 : decode cX7_init 100 = .ok (.putfield 48, 3) := by decide +kernel
theorem dX7_init_103 : decode cX7_init 103 = .ok (.aload_n 0, 1) := by decide +kernel
theorem dX7_init_104 : decode cX7_init 104 = .ok (.getfield 26, 3) := by decide +kernel
theorem dX7_init_107 : decode cX7_init 107 = .ok (.bipush 31, 2) := by decide +kernel
theorem dX7_init_109 : decode cX7_init 109 = .ok (.bipush (-9), 2) := by decide +kernel
theorem dX7_init_111 : decode cX7_init 111 = .ok (.iastore, 1) := by decide +kernel
theorem dX7_init_112 : decode cX7_init 112 = .ok (.aload_n 0, 1) := by decide +kernel
theorem dX7_init_113 : decode cX7_init 113 = .ok (.getfield 26, 3) := by decide +kernel
theorem dX7_init_116 : decode cX7_init 116 = .ok (.bipush 33, 2) := by decide +kernel
theorem dX7_init_118 : decode cX7_init 118 = .ok (.iconst 1, 1) := by decide +kernel
theorem dX7_init_119 : decode cX7_init 119 = .ok (.iastore, 1) := by decide +kernel
theorem dX7_init_120 : decode cX7_init 120 = .ok (.aload_n 0, 1) := by decide +kernel
theorem dX7_init_121 : decode cX7_init 121 = .ok (.getfield 26, 3) := by decide +kernel
theorem dX7_init_124 : decode cX7_init 124 = .ok (.bipush 34, 2) := by decide +kernel
theorem dX7_init_126 : decode cX7_init 126 = .ok (.iconst 1, 1) := by decide +kernel
theorem dX7_init_127 : decode cX7_init 127 = .ok (.iastore, 1) := by decide +kernel
theorem dX7_init_128 : decode cX7_init 128 = .ok (.return_, 1) := by decide +kernel
theorem dX7_in_0 : decode cX7_in 0 = .ok (.lload_n 0, 1) := by decide +kernel
theorem dX7_in_1 : decode cX7_in 1 = .ok (.lload_n 2, 1) := by decide +kernel
theorem dX7_in_2 : decode cX7_in 2 = .ok (.lcmp, 1) := by decide +kernel
theorem dX7_in_3 : decode cX7_in 3 = .ok (.ifCond .lt 14, 3) := by decide +kernel
theorem dX7_in_6 : decode cX7_in 6 = .ok (.lload_n 0, 1) := by decide +kernel
theorem dX7_in_7 : decode cX7_in 7 = .ok (.lload 4, 2) := by decide +kernel
theorem dX7_in_9 : decode cX7_in 9 = .ok (.lcmp, 1) := by decide +kernel
theorem dX7_in_10 : decode cX7_in 10 = .ok (.ifCond .gt 7, 3) := by decide +kernel
theorem dX7_in_13 : decode cX7_in 13 = .ok (.iconst 1, 1) := by decide +kernel
theorem dX7_in_14 : decode cX7_in 14 = .ok (.goto 4, 3) := by decide +kernel
theorem dX7_in_17 : decode cX7_in 17 = .ok (.iconst 0, 1) := by decide +kernel
theorem dX7_in_18 : decode cX7_in 18 = .ok (.ireturn, 1) := by decide +kernel
theorem dX7_has_0 : decode cX7_has 0 = .ok (.iload_n 0, 1) := by decide +kernel
theorem dX7_has_1 : decode cX7_has 1 = .ok (.iload_n 1, 1) := by decide +kernel
theorem dX7_has_2 : decode cX7_has 2 = .ok (.ishr, 1) := by decide +kernel
theorem dX7_has_3 : decode cX7_has 3 = .ok (.iconst 1, 1) := by decide +kernel
theorem dX7_has_4 : decode cX7_has 4 = .ok (.iand, 1) := by decide +kernel
theorem dX7_has_5 : decode cX7_has 5 = .ok (.iconst 1, 1) := by decide +kernel
theorem dX7_has_6 : decode cX7_has 6 = .ok (.if_icmp .ne 7, 3) := by decide +kernel
theorem dX7_has_9 : decode cX7_has 9 = .ok (.iconst 1, 1) := by decide +kernel
theorem dX7_has_10 : decode cX7_has 10 = .ok (.goto 4, 3) := by decide +kernel
theorem dX7_has_13 : decode cX7_has 13 = .ok (.iconst 0, 1) := by decide +kernel
theorem dX7_has_14 : decode cX7_has 14 = .ok (.ireturn, 1) := by decide +kernel
theorem dX7_many_0 : decode cX7_many 0 = .ok (.iconst 0, 1) := by decide +kernel
theorem dX7_many_1 : decode cX7_many 1 = .ok (.istore_n 1, 1) := by decide +kernel
theorem dX7_many_2 : decode cX7_many 2 = .ok (.iconst 0, 1) := by decide +kernel
theorem dX7_many_3 : decode cX7_many 3 = .ok (.istore_n 2, 1) := by decide +kernel
theorem dX7_many_4 : decode cX7_many 4 = .ok (.iload_n 2, 1) := by decide +kernel
theorem dX7_many_5 : decode cX7_many 5 = .ok (.iconst 5, 1) := by decide +kernel
theorem dX7_many_6 : decode cX7_many 6 = .ok (.if_icmp .ge 17, 3) := by decide +kernel
theorem dX7_many_9 : decode cX7_many 9 = .ok (.iload_n 1, 1) := by decide +kernel
theorem dX7_many_10 : decode cX7_many 10 = .ok (.iload_n 0, 1) := by decide +kernel
theorem dX7_many_11 : decode cX7_many 11 = .ok (.iload_n 2, 1) := by decide +kernel
theorem dX7_many_12 : decode cX7_many 12 = .ok (.ishr, 1) := by decide +kernel
theorem dX7_many_13 : decode cX7_many 13 = .ok (.iconst 1, 1) := by decide +kernel
theorem dX7_many_14 : decode cX7_many 14 = .ok (.iand, 1) := by decide +kernel
theorem dX7_many_15 : decode cX7_many 15 = .ok (.iadd, 1) := by decide +kernel
theorem dX7_many_16 : decode cX7_many 16 = .ok (.istore_n 1, 1) := by decide +kernel
theorem dX7_many_17 : decode cX7_many 17 = .ok (.iinc 2 1, 3) := by decide +kernel
theorem dX7_many_20 : decode cX7_many 20 = .ok (.goto (-16), 3) := by decide +kernel
theorem dX7_many_23 : decode cX7_many 23 = .ok (.iload_n 1, 1) := by decide +kernel
theorem dX7_many_24 : decode cX7_many 24 = .ok (.ireturn, 1) := by decide +kernel
theorem dX7_noChild_0 : decode cX7_noChild 0 = .ok (.iload_n 1, 1) := by decide +kernel
theorem dX7_noChild_1 : decode cX7_noChild 1 = .ok (.i2l, 1) := by decide +kernel
theorem dX7_noChild_2 : decode cX7_noChild 2 = .ok (.lconst 0, 1) := by decide +kernel
theorem dX7_noChild_3 : decode cX7_noChild 3 = .ok (.aload_n 0, 1) := by decide +kernel
theorem dX7_noChild_4 : decode cX7_noChild 4 = .ok (.getfield 54, 3) := by decide +kernel
theorem dX7_noChild_7 : decode cX7_noChild 7 = .ok (.iconst 1, 1) := by decide +kernel
theorem dX7_noChild_8 : decode cX7_noChild 8 = .ok (.isub, 1) := by decide +kernel
theorem dX7_noChild_9 : decode cX7_noChild 9 = .ok (.i2l, 1) := by decide +kernel
theorem dX7_noChild_10 : decode cX7_noChild 10 = .ok (.invokestatic 57, 3) := by decide +kernel
theorem dX7_noChild_13 : decode cX7_noChild 13 = .ok (.ifCond .ne 7, 3) := by decide +kernel
theorem dX7_noChild_16 : decode cX7_noChild 16 = .ok (.iconst 1, 1) := by decide +kernel
theorem dX7_noChild_17 : decode cX7_noChild 17 = .ok (.goto 4, 3) := by decide +kernel
theorem dX7_noChild_20 : decode cX7_noChild 20 = .ok (.iconst 0, 1) := by decide +kernel
theorem dX7_noChild_21 : decode cX7_noChild 21 = .ok (.ireturn, 1) := by decide +kernel
theorem dX7_write_0 : decode cX7_write 0 = .ok (.aload_n 0, 1) := by decide +kernel
theorem dX7_write_1 : decode cX7_write 1 = .ok (.iconst 0, 1) := by decide +kernel
theorem dX7_write_2 : decode cX7_write 2 = .ok (.putfield 51, 3) := by decide +kernel
theorem dX7_write_5 : decode cX7_write 5 = .ok (.iload_n 1, 1) := by decide +kernel
theorem dX7_write_6 : decode cX7_write 6 = .ok (.i2l, 1) := by decide +kernel
theorem dX7_write_7 : decode cX7_write 7 = .ok (.lconst 0, 1) := by decide +kernel
theorem dX7_write_8 : decode cX7_write 8 = .ok (.ldc2_w 61, 3) := by decide +kernel
theorem dX7_write_11 : decode cX7_write 11 = .ok (.invokestatic 57, 3) := by decide +kernel
theorem dX7_write_14 : decode cX7_write 14 = .ok (.ifCond .ne 6, 3) := by decide +kernel
theorem dX7_write_17 : decode cX7_write 17 = .ok (.bipush (-2), 2) := by decide +kernel
theorem dX7_write_19 : decode cX7_write 19 = .ok (.ireturn, 1) := by decide +kernel
theorem dX7_write_20 : decode cX7_write 20 = .ok (.aload_n 0, 1) := by decide +kernel
theorem dX7_write_21 : decode cX7_write 21 = .ok (.getfield 63, 3) := by decide +kernel
theorem dX7_write_24 : decode cX7_write 24 = .ok (.bipush 32, 2) := by decide +kernel
theorem dX7_write_26 : decode cX7_write 26 = .ok (.if_icmp .ne 6, 3) := by decide +kernel
theorem dX7_write_29 : decode cX7_write 29 = .ok (.bipush (-4), 2) := by decide +kernel
theorem dX7_write_31 : decode cX7_write 31 = .ok (.ireturn, 1) := by decide +kernel
theorem dX7_write_32 : decode cX7_write 32 = .ok (.aload_n 0, 1) := by decide +kernel
theorem dX7_write_33 : decode cX7_write 33 = .ok (.getfield 7, 3) := by decide +kernel
theorem dX7_write_36 : decode cX7_write 36 = .ok (.aload_n 0, 1) := by decide +kernel
theorem dX7_write_37 : decode cX7_write 37 = .ok (.getfield 63, 3) := by decide +kernel
theorem dX7_write_40 : decode cX7_write 40 = .ok (.iload_n 1, 1) := by decide +kernel
theorem dX7_write_41 : decode cX7_write 41 = .ok (.iastore, 1) := by decide +kernel
theorem dX7_write_42 : decode cX7_write 42 = .ok (.aload_n 0, 1) := by decide +kernel
theorem dX7_write_43 : decode cX7_write 43 = .ok (.dup, 1) := by decide +kernel
theorem dX7_write_44 : decode cX7_write 44 = .ok (.getfield 63, 3) := by decide +kernel
theorem dX7_write_47 : decode cX7_write 47 = .ok (.iconst 1, 1) := by decide +kernel
theorem dX7_write_48 : decode cX7_write 48 = .ok (.iadd, 1) := by decide +kernel
theorem dX7_write_49 : decode cX7_write 49 = .ok (.putfield 63, 3) := by decide +kernel
theorem dX7_write_52 : decode cX7_write 52 = .ok (.aload_n 0, 1) := by decide +kernel
theorem dX7_write_53 : decode cX7_write 53 = .ok (.getfield 63, 3) := by decide +kernel
theorem dX7_write_56 : decode cX7_write 56 = .ok (.ireturn, 1) := by decide +kernel
theorem dX7_wipe_0 : decode cX7_wipe 0 = .ok (.aload_n 0, 1) := by decide +kernel
theorem dX7_wipe_1 : decode cX7_wipe 1 = .ok (.iconst 0, 1) := by decide +kernel
theorem dX7_wipe_2 : decode cX7_wipe 2 = .ok (.putfield 51, 3) := by decide +kernel
theorem dX7_wipe_5 : decode cX7_wipe 5 = .ok (.aload_n 0, 1) := by decide +kernel
theorem dX7_wipe_6 : decode cX7_wipe 6 = .ok (.getfield 63, 3) := by decide +kernel
theorem dX7_wipe_9 : decode cX7_wipe 9 = .ok (.istore_n 1, 1) := by decide +kernel
theorem dX7_wipe_10 : decode cX7_wipe 10 = .ok (.aload_n 0, 1) := by decide +kernel
theorem dX7_wipe_11 : decode cX7_wipe 11 = .ok (.iconst 0, 1) := by decide +kernel
theorem dX7_wipe_12 : decode cX7_wipe 12 = .ok (.putfield 63, 3) := by decide +kernel
theorem dX7_wipe_15 : decode cX7_wipe 15 = .ok (.iload_n 1, 1) := by decide +kernel
theorem dX7_wipe_16 : decode cX7_wipe 16 = .ok (.ireturn, 1) := by decide +kernel
theorem dX7_figure_0 : decode cX7_figure 0 = .ok (.aload_n 0, 1) := by decide +kernel
theorem dX7_figure_1 : decode cX7_figure 1 = .ok (.getfield 66, 3) := by decide +kernel
theorem dX7_figure_4 : decode cX7_figure 4 = .ok (.aload_n 0, 1) := by decide +kernel
theorem dX7_figure_5 : decode cX7_figure 5 = .ok (.getfield 63, 3) := by decide +kernel
theorem dX7_figure_8 : decode cX7_figure 8 = .ok (.if_icmp .eq 26, 3) := by decide +kernel
theorem dX7_figure_11 : decode cX7_figure 11 = .ok (.aload_n 0, 1) := by decide +kernel
theorem dX7_figure_12 : decode cX7_figure 12 = .ok (.getfield 7, 3) := by decide +kernel
theorem dX7_figure_15 : decode cX7_figure 15 = .ok (.aload_n 0, 1) := by decide +kernel
theorem dX7_figure_16 : decode cX7_figure 16 = .ok (.getfield 66, 3) := by decide +kernel
theorem dX7_figure_19 : decode cX7_figure 19 = .ok (.iaload, 1) := by decide +kernel
theorem dX7_figure_20 : decode cX7_figure 20 = .ok (.bipush 48, 2) := by decide +kernel
theorem dX7_figure_22 : decode cX7_figure 22 = .ok (.isub, 1) := by decide +kernel
theorem dX7_figure_23 : decode cX7_figure 23 = .ok (.i2l, 1) := by decide +kernel
theorem dX7_figure_24 : decode cX7_figure 24 = .ok (.iload_n 1, 1) := by decide +kernel
theorem dX7_figure_25 : decode cX7_figure 25 = .ok (.i2l, 1) := by decide +kernel
theorem dX7_figure_26 : decode cX7_figure 26 = .ok (.iload_n 2, 1) := by decide +kernel
theorem dX7_figure_27 : decode cX7_figure 27 = .ok (.i2l, 1) := by decide +kernel
theorem dX7_figure_28 : decode cX7_figure 28 = .ok (.invokestatic 57, 3) := by decide +kernel
theorem dX7_figure_31 : decode cX7_figure 31 = .ok (.ifCond .ne 6, 3) := by decide +kernel
theorem dX7_figure_34 : decode cX7_figure 34 = .ok (.bipush (-9), 2) := by decide +kernel
theorem dX7_figure_36 : decode cX7_figure 36 = .ok (.ireturn, 1) := by decide +kernel
theorem dX7_figure_37 : decode cX7_figure 37 = .ok (.aload_n 0, 1) := by decide +kernel
theorem dX7_figure_38 : decode cX7_figure 38 = .ok (.dup, 1) := by decide +kernel
theorem dX7_figure_39 : decode cX7_figure 39 = .ok (.getfield 66, 3) := by decide +kernel
theorem dX7_figure_42 : decode cX7_figure 42 = .ok (.iconst 1, 1) := by decide +kernel
theorem dX7_figure_43 : decode cX7_figure 43 = .ok (.iadd, 1) := by decide +kernel
theorem dX7_figure_44 : decode cX7_figure 44 = .ok (.putfield 66, 3) := by decide +kernel
theorem dX7_figure_47 : decode cX7_figure 47 = .ok (.aload_n 0, 1) := by decide +kernel
theorem dX7_figure_48 : decode cX7_figure 48 = .ok (.getfield 7, 3) := by decide +kernel
theorem dX7_figure_51 : decode cX7_figure 51 = .ok (.aload_n 0, 1) := by decide +kernel
theorem dX7_figure_52 : decode cX7_figure 52 = .ok (.getfield 66, 3) := by decide +kernel
theorem dX7_figure_55 : decode cX7_figure 55 = .ok (.iconst 1, 1) := by decide +kernel
theorem dX7_figure_56 : decode cX7_figure 56 = .ok (.isub, 1) := by decide +kernel
theorem dX7_figure_57 : decode cX7_figure 57 = .ok (.iaload, 1) := by decide +kernel
theorem dX7_figure_58 : decode cX7_figure 58 = .ok (.bipush 48, 2) := by decide +kernel
theorem dX7_figure_60 : decode cX7_figure 60 = .ok (.isub, 1) := by decide +kernel
theorem dX7_figure_61 : decode cX7_figure 61 = .ok (.ireturn, 1) := by decide +kernel
theorem dX7_readHead_0 : decode cX7_readHead 0 = .ok (.aload_n 0, 1) := by decide +kernel
theorem dX7_readHead_1 : decode cX7_readHead 1 = .ok (.aload_n 0, 1) := by decide +kernel
theorem dX7_readHead_2 : decode cX7_readHead 2 = .ok (.iconst 0, 1) := by decide +kernel
theorem dX7_readHead_3 : decode cX7_readHead 3 = .ok (.iconst 3, 1) := by decide +kernel
theorem dX7_readHead_4 : decode cX7_readHead 4 = .ok (.invokevirtual 69, 3) := by decide +kernel
theorem dX7_readHead_7 : decode cX7_readHead 7 = .ok (.putfield 73, 3) := by decide +kernel
theorem dX7_readHead_10 : decode cX7_readHead 10 = .ok (.aload_n 0, 1) := by decide +kernel
theorem dX7_readHead_11 : decode cX7_readHead 11 = .ok (.aload_n 0, 1) := by decide +kernel
theorem dX7_readHead_12 : decode cX7_readHead 12 = .ok (.getfield 73, 3) := by decide +kernel
theorem dX7_readHead_15 : decode cX7_readHead 15 = .ok (.bipush (-9), 2) := by decide +kernel
theorem dX7_readHead_17 : decode cX7_readHead 17 = .ok (.if_icmp .ne 8, 3) := by decide +kernel
theorem dX7_readHead_20 : decode cX7_readHead 20 = .ok (.bipush (-9), 2) := by decide +kernel
theorem dX7_readHead_22 : decode cX7_readHead 22 = .ok (.goto 10, 3) := by decide +kernel
theorem dX7_readHead_25 : decode cX7_readHead 25 = .ok (.aload_n 0, 1) := by decide +kernel
theorem dX7_readHead_26 : decode cX7_readHead 26 = .ok (.iconst 1, 1) := by decide +kernel
theorem dX7_readHead_27 : decode cX7_readHead 27 = .ok (.bipush 9, 2) := by decide +kernel
theorem dX7_readHead_29 : decode cX7_readHead 29 = .ok (.invokevirtual 69, 3) := by decide +kernel
theorem dX7_readHead_32 : decode cX7_readHead 32 = .ok (.putfield 76, 3) := by decide +kernel
theorem dX7_readHead_35 : decode cX7_readHead 35 = .ok (.aload_n 0, 1) := by decide +kernel
theorem dX7_readHead_36 : decode cX7_readHead 36 = .ok (.aload_n 0, 1) := by decide +kernel
theorem dX7_readHead_37 : decode cX7_readHead 37 = .ok (.getfield 76, 3) := by decide +kernel
theorem dX7_readHead_40 : decode cX7_readHead 40 = .ok (.bipush (-9), 2) := by decide +kernel
theorem dX7_readHead_42 : decode cX7_readHead 42 = .ok (.if_icmp .ne 8, 3) := by decide +kernel
theorem dX7_readHead_45 : decode cX7_readHead 45 = .ok (.bipush (-9), 2) := by decide +kernel
theorem dX7_readHead_47 : decode cX7_readHead 47 = .ok (.goto 9, 3) := by decide +kernel
theorem dX7_readHead_50 : decode cX7_readHead 50 = .ok (.aload_n 0, 1) := by decide +kernel
theorem dX7_readHead_51 : decode cX7_readHead 51 = .ok (.iconst 1, 1) := by decide +kernel
theorem dX7_readHead_52 : decode cX7_readHead 52 = .ok (.iconst 2, 1) := by decide +kernel
theorem dX7_readHead_53 : decode cX7_readHead 53 = .ok (.invokevirtual 69, 3) := by decide +kernel
theorem dX7_readHead_56 : decode cX7_readHead 56 = .ok (.putfield 19, 3) := by decide +kernel
theorem dX7_readHead_59 : decode cX7_readHead 59 = .ok (.aload_n 0, 1) := by decide +kernel
theorem dX7_readHead_60 : decode cX7_readHead 60 = .ok (.getfield 19, 3) := by decide +kernel
theorem dX7_readHead_63 : decode cX7_readHead 63 = .ok (.bipush (-9), 2) := by decide +kernel
theorem dX7_readHead_65 : decode cX7_readHead 65 = .ok (.if_icmp .eq 7, 3) := by decide +kernel
theorem dX7_readHead_68 : decode cX7_readHead 68 = .ok (.iconst 1, 1) := by decide +kernel
theorem dX7_readHead_69 : decode cX7_readHead 69 = .ok (.goto 4, 3) := by decide +kernel
theorem dX7_readHead_72 : decode cX7_readHead 72 = .ok (.iconst 0, 1) := by decide +kernel
theorem dX7_readHead_73 : decode cX7_readHead 73 = .ok (.ireturn, 1) := by decide +kernel
theorem dX7_readOne_0 : decode cX7_readOne 0 = .ok (.aload_n 0, 1) := by decide +kernel
theorem dX7_readOne_1 : decode cX7_readOne 1 = .ok (.iconst 0, 1) := by decide +kernel
theorem dX7_readOne_2 : decode cX7_readOne 2 = .ok (.bipush 9, 2) := by decide +kernel
theorem dX7_readOne_4 : decode cX7_readOne 4 = .ok (.invokevirtual 69, 3) := by decide +kernel
theorem dX7_readOne_7 : decode cX7_readOne 7 = .ok (.istore_n 1, 1) := by decide +kernel
theorem dX7_readOne_8 : decode cX7_readOne 8 = .ok (.iload_n 1, 1) := by decide +kernel
theorem dX7_readOne_9 : decode cX7_readOne 9 = .ok (.bipush (-9), 2) := by decide +kernel
theorem dX7_readOne_11 : decode cX7_readOne 11 = .ok (.if_icmp .ne 8, 3) := by decide +kernel
theorem dX7_readOne_14 : decode cX7_readOne 14 = .ok (.bipush (-9), 2) := by decide +kernel
theorem dX7_readOne_16 : decode cX7_readOne 16 = .ok (.goto 10, 3) := by decide +kernel
theorem dX7_readOne_19 : decode cX7_readOne 19 = .ok (.aload_n 0, 1) := by decide +kernel
theorem dX7_readOne_20 : decode cX7_readOne 20 = .ok (.iconst 1, 1) := by decide +kernel
theorem dX7_readOne_21 : decode cX7_readOne 21 = .ok (.bipush 9, 2) := by decide +kernel
theorem dX7_readOne_23 : decode cX7_readOne 23 = .ok (.invokevirtual 69, 3) := by decide +kernel
theorem dX7_readOne_26 : decode cX7_readOne 26 = .ok (.istore_n 2, 1) := by decide +kernel
theorem dX7_readOne_27 : decode cX7_readOne 27 = .ok (.iload_n 2, 1) := by decide +kernel
theorem dX7_readOne_28 : decode cX7_readOne 28 = .ok (.bipush (-9), 2) := by decide +kernel
theorem dX7_readOne_30 : decode cX7_readOne 30 = .ok (.if_icmp .ne 8, 3) := by decide +kernel
theorem dX7_readOne_33 : decode cX7_readOne 33 = .ok (.bipush (-9), 2) := by decide +kernel
theorem dX7_readOne_35 : decode cX7_readOne 35 = .ok (.goto 9, 3) := by decide +kernel
theorem dX7_readOne_38 : decode cX7_readOne 38 = .ok (.aload_n 0, 1) := by decide +kernel
theorem dX7_readOne_39 : decode cX7_readOne 39 = .ok (.iconst 0, 1) := by decide +kernel
theorem dX7_readOne_40 : decode cX7_readOne 40 = .ok (.iconst 3, 1) := by decide +kernel
theorem dX7_readOne_41 : decode cX7_readOne 41 = .ok (.invokevirtual 69, 3) := by decide +kernel
theorem dX7_readOne_44 : decode cX7_readOne 44 = .ok (.istore_n 3, 1) := by decide +kernel
theorem dX7_readOne_45 : decode cX7_readOne 45 = .ok (.iload_n 3, 1) := by decide +kernel
theorem dX7_readOne_46 : decode cX7_readOne 46 = .ok (.bipush (-9), 2) := by decide +kernel
theorem dX7_readOne_48 : decode cX7_readOne 48 = .ok (.if_icmp .ne 5, 3) := by decide +kernel
theorem dX7_readOne_51 : decode cX7_readOne 51 = .ok (.iconst 0, 1) := by decide +kernel
theorem dX7_readOne_52 : decode cX7_readOne 52 = .ok (.ireturn, 1) := by decide +kernel
theorem dX7_readOne_53 : decode cX7_readOne 53 = .ok (.aload_n 0, 1) := by decide +kernel
theorem dX7_readOne_54 : decode cX7_readOne 54 = .ok (.getfield 23, 3) := by decide +kernel
theorem dX7_readOne_57 : decode cX7_readOne 57 = .ok (.iconst 3, 1) := by decide +kernel
theorem dX7_readOne_58 : decode cX7_readOne 58 = .ok (.aload_n 0, 1) := by decide +kernel
theorem dX7_readOne_59 : decode cX7_readOne 59 = .ok (.getfield 79, 3) := by decide +kernel
theorem dX7_readOne_62 : decode cX7_readOne 62 = .ok (.imul, 1) := by decide +kernel
theorem dX7_readOne_63 : decode cX7_readOne 63 = .ok (.iload_n 1, 1) := by decide +kernel
theorem dX7_readOne_64 : decode cX7_readOne 64 = .ok (.iastore, 1) := by decide +kernel
theorem dX7_readOne_65 : decode cX7_readOne 65 = .ok (.aload_n 0, 1) := by decide +kernel
theorem dX7_readOne_66 : decode cX7_readOne 66 = .ok (.getfield 23, 3) := by decide +kernel
theorem dX7_readOne_69 : decode cX7_readOne 69 = .ok (.iconst 3, 1) := by decide +kernel
theorem dX7_readOne_70 : decode cX7_readOne 70 = .ok (.aload_n 0, 1) := by decide +kernel
theorem dX7_readOne_71 : decode cX7_readOne 71 = .ok (.getfield 79, 3) := by decide +kernel
theorem dX7_readOne_74 : decode cX7_readOne 74 = .ok (.imul, 1) := by decide +kernel
theorem dX7_readOne_75 : decode cX7_readOne 75 = .ok (.iconst 1, 1) := by decide +kernel
theorem dX7_readOne_76 : decode cX7_readOne 76 = .ok (.iadd, 1) := by decide +kernel
theorem dX7_readOne_77 : decode cX7_readOne 77 = .ok (.iload_n 2, 1) := by decide +kernel
theorem dX7_readOne_78 : decode cX7_readOne 78 = .ok (.iastore, 1) := by decide +kernel
theorem dX7_readOne_79 : decode cX7_readOne 79 = .ok (.aload_n 0, 1) := by decide +kernel
theorem dX7_readOne_80 : decode cX7_readOne 80 = .ok (.getfield 23, 3) := by decide +kernel
theorem dX7_readOne_83 : decode cX7_readOne 83 = .ok (.iconst 3, 1) := by decide +kernel
theorem dX7_readOne_84 : decode cX7_readOne 84 = .ok (.aload_n 0, 1) := by decide +kernel
theorem dX7_readOne_85 : decode cX7_readOne 85 = .ok (.getfield 79, 3) := by decide +kernel
theorem dX7_readOne_88 : decode cX7_readOne 88 = .ok (.imul, 1) := by decide +kernel
theorem dX7_readOne_89 : decode cX7_readOne 89 = .ok (.iconst 2, 1) := by decide +kernel
theorem dX7_readOne_90 : decode cX7_readOne 90 = .ok (.iadd, 1) := by decide +kernel
theorem dX7_readOne_91 : decode cX7_readOne 91 = .ok (.iload_n 3, 1) := by decide +kernel
theorem dX7_readOne_92 : decode cX7_readOne 92 = .ok (.iastore, 1) := by decide +kernel
theorem dX7_readOne_93 : decode cX7_readOne 93 = .ok (.aload_n 0, 1) := by decide +kernel
theorem dX7_readOne_94 : decode cX7_readOne 94 = .ok (.dup, 1) := by decide +kernel
theorem dX7_readOne_95 : decode cX7_readOne 95 = .ok (.getfield 79, 3) := by decide +kernel
theorem dX7_readOne_98 : decode cX7_readOne 98 = .ok (.iconst 1, 1) := by decide +kernel
theorem dX7_readOne_99 : decode cX7_readOne 99 = .ok (.iadd, 1) := by decide +kernel
theorem dX7_readOne_100 : decode cX7_readOne 100 = .ok (.putfield 79, 3) := by decide +kernel
theorem dX7_readOne_103 : decode cX7_readOne 103 = .ok (.iconst 1, 1) := by decide +kernel
theorem dX7_readOne_104 : decode cX7_readOne 104 = .ok (.ireturn, 1) := by decide +kernel
theorem dX7_readGarden_0 : decode cX7_readGarden 0 = .ok (.aload_n 0, 1) := by decide +kernel
theorem dX7_readGarden_1 : decode cX7_readGarden 1 = .ok (.iconst 0, 1) := by decide +kernel
theorem dX7_readGarden_2 : decode cX7_readGarden 2 = .ok (.putfield 66, 3) := by decide +kernel
theorem dX7_readGarden_5 : decode cX7_readGarden 5 = .ok (.aload_n 0, 1) := by decide +kernel
theorem dX7_readGarden_6 : decode cX7_readGarden 6 = .ok (.iconst 0, 1) := by decide +kernel
theorem dX7_readGarden_7 : decode cX7_readGarden 7 = .ok (.putfield 79, 3) := by decide +kernel
theorem dX7_readGarden_10 : decode cX7_readGarden 10 = .ok (.aload_n 0, 1) := by decide +kernel
theorem dX7_readGarden_11 : decode cX7_readGarden 11 = .ok (.getfield 63, 3) := by decide +kernel
theorem dX7_readGarden_14 : decode cX7_readGarden 14 = .ok (.ifCond .eq 14, 3) := by decide +kernel
theorem dX7_readGarden_17 : decode cX7_readGarden 17 = .ok (.aload_n 0, 1) := by decide +kernel
theorem dX7_readGarden_18 : decode cX7_readGarden 18 = .ok (.getfield 7, 3) := by decide +kernel
theorem dX7_readGarden_21 : decode cX7_readGarden 21 = .ok (.iconst 0, 1) := by decide +kernel
theorem dX7_readGarden_22 : decode cX7_readGarden 22 = .ok (.iaload, 1) := by decide +kernel
theorem dX7_readGarden_23 : decode cX7_readGarden 23 = .ok (.bipush 84, 2) := by decide +kernel
theorem dX7_readGarden_25 : decode cX7_readGarden 25 = .ok (.if_icmp .eq 5, 3) := by decide +kernel
theorem dX7_readGarden_28 : decode cX7_readGarden 28 = .ok (.iconst 0, 1) := by decide +kernel
theorem dX7_readGarden_29 : decode cX7_readGarden 29 = .ok (.ireturn, 1) := by decide +kernel
theorem dX7_readGarden_30 : decode cX7_readGarden 30 = .ok (.aload_n 0, 1) := by decide +kernel
theorem dX7_readGarden_31 : decode cX7_readGarden 31 = .ok (.iconst 1, 1) := by decide +kernel
theorem dX7_readGarden_32 : decode cX7_readGarden 32 = .ok (.putfield 66, 3) := by decide +kernel
theorem dX7_readGarden_35 : decode cX7_readGarden 35 = .ok (.aload_n 0, 1) := by decide +kernel
theorem dX7_readGarden_36 : decode cX7_readGarden 36 = .ok (.invokevirtual 82, 3) := by decide +kernel
theorem dX7_readGarden_39 : decode cX7_readGarden 39 = .ok (.ifCond .ne 8, 3) := by decide +kernel
theorem dX7_readGarden_42 : decode cX7_readGarden 42 = .ok (.aload_n 0, 1) := by decide +kernel
theorem dX7_readGarden_43 : decode cX7_readGarden 43 = .ok (.getfield 66, 3) := by decide +kernel
theorem dX7_readGarden_46 : decode cX7_readGarden 46 = .ok (.ireturn, 1) := by decide +kernel
theorem dX7_readGarden_47 : decode cX7_readGarden 47 = .ok (.aload_n 0, 1) := by decide +kernel
theorem dX7_readGarden_48 : decode cX7_readGarden 48 = .ok (.getfield 66, 3) := by decide +kernel
theorem dX7_readGarden_51 : decode cX7_readGarden 51 = .ok (.aload_n 0, 1) := by decide +kernel
theorem dX7_readGarden_52 : decode cX7_readGarden 52 = .ok (.getfield 63, 3) := by decide +kernel
theorem dX7_readGarden_55 : decode cX7_readGarden 55 = .ok (.if_icmp .ge 52, 3) := by decide +kernel
theorem dX7_readGarden_58 : decode cX7_readGarden 58 = .ok (.aload_n 0, 1) := by decide +kernel
theorem dX7_readGarden_59 : decode cX7_readGarden 59 = .ok (.getfield 7, 3) := by decide +kernel
theorem dX7_readGarden_62 : decode cX7_readGarden 62 = .ok (.aload_n 0, 1) := by decide +kernel
theorem dX7_readGarden_63 : decode cX7_readGarden 63 = .ok (.getfield 66, 3) := by decide +kernel
theorem dX7_readGarden_66 : decode cX7_readGarden 66 = .ok (.iaload, 1) := by decide +kernel
theorem dX7_readGarden_67 : decode cX7_readGarden 67 = .ok (.bipush 67, 2) := by decide +kernel
theorem dX7_readGarden_69 : decode cX7_readGarden 69 = .ok (.if_icmp .ne 11, 3) := by decide +kernel
theorem dX7_readGarden_72 : decode cX7_readGarden 72 = .ok (.aload_n 0, 1) := by decide +kernel
theorem dX7_readGarden_73 : decode cX7_readGarden 73 = .ok (.getfield 79, 3) := by decide +kernel
theorem dX7_readGarden_76 : decode cX7_readGarden 76 = .ok (.iconst 5, 1) := by decide +kernel
theorem dX7_readGarden_77 : decode cX7_readGarden 77 = .ok (.if_icmp .ne 8, 3) := by decide +kernel
theorem dX7_readGarden_80 : decode cX7_readGarden 80 = .ok (.aload_n 0, 1) := by decide +kernel
theorem dX7_readGarden_81 : decode cX7_readGarden 81 = .ok (.getfield 66, 3) := by decide +kernel
theorem dX7_readGarden_84 : decode cX7_readGarden 84 = .ok (.ireturn, 1) := by decide +kernel
theorem dX7_readGarden_85 : decode cX7_readGarden 85 = .ok (.aload_n 0, 1) := by decide +kernel
theorem dX7_readGarden_86 : decode cX7_readGarden 86 = .ok (.dup, 1) := by decide +kernel
theorem dX7_readGarden_87 : decode cX7_readGarden 87 = .ok (.getfield 66, 3) := by decide +kernel
theorem dX7_readGarden_90 : decode cX7_readGarden 90 = .ok (.iconst 1, 1) := by decide +kernel
theorem dX7_readGarden_91 : decode cX7_readGarden 91 = .ok (.iadd, 1) := by decide +kernel
theorem dX7_readGarden_92 : decode cX7_readGarden 92 = .ok (.putfield 66, 3) := by decide +kernel
theorem dX7_readGarden_95 : decode cX7_readGarden 95 = .ok (.aload_n 0, 1) := by decide +kernel
theorem dX7_readGarden_96 : decode cX7_readGarden 96 = .ok (.invokevirtual 86, 3) := by decide +kernel
theorem dX7_readGarden_99 : decode cX7_readGarden 99 = .ok (.ifCond .ne (-52), 3) := by decide +kernel
theorem dX7_readGarden_102 : decode cX7_readGarden 102 = .ok (.aload_n 0, 1) := by decide +kernel
theorem dX7_readGarden_103 : decode cX7_readGarden 103 = .ok (.getfield 66, 3) := by decide +kernel
theorem dX7_readGarden_106 : decode cX7_readGarden 106 = .ok (.ireturn, 1) := by decide +kernel
theorem dX7_readGarden_107 : decode cX7_readGarden 107 = .ok (.bipush (-9), 2) := by decide +kernel
theorem dX7_readGarden_109 : decode cX7_readGarden 109 = .ok (.ireturn, 1) := by decide +kernel
theorem dX7_fault_0 : decode cX7_fault 0 = .ok (.aload_n 0, 1) := by decide +kernel
theorem dX7_fault_1 : decode cX7_fault 1 = .ok (.iconst 0, 1) := by decide +kernel
theorem dX7_fault_2 : decode cX7_fault 2 = .ok (.putfield 51, 3) := by decide +kernel
theorem dX7_fault_5 : decode cX7_fault 5 = .ok (.aload_n 0, 1) := by decide +kernel
theorem dX7_fault_6 : decode cX7_fault 6 = .ok (.invokevirtual 89, 3) := by decide +kernel
theorem dX7_fault_9 : decode cX7_fault 9 = .ok (.ireturn, 1) := by decide +kernel
theorem dX7_garden_0 : decode cX7_garden 0 = .ok (.aload_n 0, 1) := by decide +kernel
theorem dX7_garden_1 : decode cX7_garden 1 = .ok (.iconst 0, 1) := by decide +kernel
theorem dX7_garden_2 : decode cX7_garden 2 = .ok (.putfield 51, 3) := by decide +kernel
theorem dX7_garden_5 : decode cX7_garden 5 = .ok (.aload_n 0, 1) := by decide +kernel
theorem dX7_garden_6 : decode cX7_garden 6 = .ok (.invokevirtual 89, 3) := by decide +kernel
theorem dX7_garden_9 : decode cX7_garden 9 = .ok (.bipush (-9), 2) := by decide +kernel
theorem dX7_garden_11 : decode cX7_garden 11 = .ok (.if_icmp .eq 6, 3) := by decide +kernel
theorem dX7_garden_14 : decode cX7_garden 14 = .ok (.bipush (-3), 2) := by decide +kernel
theorem dX7_garden_16 : decode cX7_garden 16 = .ok (.ireturn, 1) := by decide +kernel
theorem dX7_garden_17 : decode cX7_garden 17 = .ok (.aload_n 0, 1) := by decide +kernel
theorem dX7_garden_18 : decode cX7_garden 18 = .ok (.aload_n 0, 1) := by decide +kernel
theorem dX7_garden_19 : decode cX7_garden 19 = .ok (.getfield 79, 3) := by decide +kernel
theorem dX7_garden_22 : decode cX7_garden 22 = .ok (.putfield 54, 3) := by decide +kernel
theorem dX7_garden_25 : decode cX7_garden 25 = .ok (.iconst 0, 1) := by decide +kernel
theorem dX7_garden_26 : decode cX7_garden 26 = .ok (.istore_n 1, 1) := by decide +kernel
theorem dX7_garden_27 : decode cX7_garden 27 = .ok (.iload_n 1, 1) := by decide +kernel
theorem dX7_garden_28 : decode cX7_garden 28 = .ok (.bipush 36, 2) := by decide +kernel
theorem dX7_garden_30 : decode cX7_garden 30 = .ok (.if_icmp .ge 16, 3) := by decide +kernel
theorem dX7_garden_33 : decode cX7_garden 33 = .ok (.aload_n 0, 1) := by decide +kernel
theorem dX7_garden_34 : decode cX7_garden 34 = .ok (.getfield 26, 3) := by decide +kernel
theorem dX7_garden_37 : decode cX7_garden 37 = .ok (.iload_n 1, 1) := by decide +kernel
theorem dX7_garden_38 : decode cX7_garden 38 = .ok (.iconst 0, 1) := by decide +kernel
theorem dX7_garden_39 : decode cX7_garden 39 = .ok (.iastore, 1) := by decide +kernel
theorem dX7_garden_40 : decode cX7_garden 40 = .ok (.iinc 1 1, 3) := by decide +kernel
theorem dX7_garden_43 : decode cX7_garden 43 = .ok (.goto (-16), 3) := by decide +kernel
theorem dX7_garden_46 : decode cX7_garden 46 = .ok (.iconst 0, 1) := by decide +kernel
theorem dX7_garden_47 : decode cX7_garden 47 = .ok (.istore_n 1, 1) := by decide +kernel
theorem dX7_garden_48 : decode cX7_garden 48 = .ok (.iload_n 1, 1) := by decide +kernel
theorem dX7_garden_49 : decode cX7_garden 49 = .ok (.aload_n 0, 1) := by decide +kernel
theorem dX7_garden_50 : decode cX7_garden 50 = .ok (.getfield 54, 3) := by decide +kernel
theorem dX7_garden_53 : decode cX7_garden 53 = .ok (.if_icmp .ge 57, 3) := by decide +kernel
theorem dX7_garden_56 : decode cX7_garden 56 = .ok (.aload_n 0, 1) := by decide +kernel
theorem dX7_garden_57 : decode cX7_garden 57 = .ok (.getfield 26, 3) := by decide +kernel
theorem dX7_garden_60 : decode cX7_garden 60 = .ok (.iconst 0, 1) := by decide +kernel
theorem dX7_garden_61 : decode cX7_garden 61 = .ok (.iload_n 1, 1) := by decide +kernel
theorem dX7_garden_62 : decode cX7_garden 62 = .ok (.iadd, 1) := by decide +kernel
theorem dX7_garden_63 : decode cX7_garden 63 = .ok (.aload_n 0, 1) := by decide +kernel
theorem dX7_garden_64 : decode cX7_garden 64 = .ok (.getfield 23, 3) := by decide +kernel
theorem dX7_garden_67 : decode cX7_garden 67 = .ok (.iconst 3, 1) := by decide +kernel
theorem dX7_garden_68 : decode cX7_garden 68 = .ok (.iload_n 1, 1) := by decide +kernel
theorem dX7_garden_69 : decode cX7_garden 69 = .ok (.imul, 1) := by decide +kernel
theorem dX7_garden_70 : decode cX7_garden 70 = .ok (.iaload, 1) := by decide +kernel
theorem dX7_garden_71 : decode cX7_garden 71 = .ok (.iastore, 1) := by decide +kernel
theorem dX7_garden_72 : decode cX7_garden 72 = .ok (.aload_n 0, 1) := by decide +kernel
theorem dX7_garden_73 : decode cX7_garden 73 = .ok (.getfield 13, 3) := by decide +kernel
theorem dX7_garden_76 : decode cX7_garden 76 = .ok (.iload_n 1, 1) := by decide +kernel
theorem dX7_garden_77 : decode cX7_garden 77 = .ok (.aload_n 0, 1) := by decide +kernel
theorem dX7_garden_78 : decode cX7_garden 78 = .ok (.getfield 23, 3) := by decide +kernel
theorem dX7_garden_81 : decode cX7_garden 81 = .ok (.iconst 3, 1) := by decide +kernel
theorem dX7_garden_82 : decode cX7_garden 82 = .ok (.iload_n 1, 1) := by decide +kernel
theorem dX7_garden_83 : decode cX7_garden 83 = .ok (.imul, 1) := by decide +kernel
theorem dX7_garden_84 : decode cX7_garden 84 = .ok (.iconst 1, 1) := by decide +kernel
theorem dX7_garden_85 : decode cX7_garden 85 = .ok (.iadd, 1) := by decide +kernel
theorem dX7_garden_86 : decode cX7_garden 86 = .ok (.iaload, 1) := by decide +kernel
theorem dX7_garden_87 : decode cX7_garden 87 = .ok (.iastore, 1) := by decide +kernel
theorem dX7_garden_88 : decode cX7_garden 88 = .ok (.aload_n 0, 1) := by decide +kernel
theorem dX7_garden_89 : decode cX7_garden 89 = .ok (.getfield 16, 3) := by decide +kernel
theorem dX7_garden_92 : decode cX7_garden 92 = .ok (.iload_n 1, 1) := by decide +kernel
theorem dX7_garden_93 : decode cX7_garden 93 = .ok (.aload_n 0, 1) := by decide +kernel
theorem dX7_garden_94 : decode cX7_garden 94 = .ok (.getfield 23, 3) := by decide +kernel
theorem dX7_garden_97 : decode cX7_garden 97 = .ok (.iconst 3, 1) := by decide +kernel
theorem dX7_garden_98 : decode cX7_garden 98 = .ok (.iload_n 1, 1) := by decide +kernel
theorem dX7_garden_99 : decode cX7_garden 99 = .ok (.imul, 1) := by decide +kernel
theorem dX7_garden_100 : decode cX7_garden 100 = .ok (.iconst 2, 1) := by decide +kernel
theorem dX7_garden_101 : decode cX7_garden 101 = .ok (.iadd, 1) := by decide +kernel
theorem dX7_garden_102 : decode cX7_garden 102 = .ok (.iaload, 1) := by decide +kernel
theorem dX7_garden_103 : decode cX7_garden 103 = .ok (.iastore, 1) := by decide +kernel
theorem dX7_garden_104 : decode cX7_garden 104 = .ok (.iinc 1 1, 3) := by decide +kernel
theorem dX7_garden_107 : decode cX7_garden 107 = .ok (.goto (-59), 3) := by decide +kernel
theorem dX7_garden_110 : decode cX7_garden 110 = .ok (.aload_n 0, 1) := by decide +kernel
theorem dX7_garden_111 : decode cX7_garden 111 = .ok (.getfield 26, 3) := by decide +kernel
theorem dX7_garden_114 : decode cX7_garden 114 = .ok (.bipush 31, 2) := by decide +kernel
theorem dX7_garden_116 : decode cX7_garden 116 = .ok (.bipush (-9), 2) := by decide +kernel
theorem dX7_garden_118 : decode cX7_garden 118 = .ok (.iastore, 1) := by decide +kernel
theorem dX7_garden_119 : decode cX7_garden 119 = .ok (.aload_n 0, 1) := by decide +kernel
theorem dX7_garden_120 : decode cX7_garden 120 = .ok (.getfield 26, 3) := by decide +kernel
theorem dX7_garden_123 : decode cX7_garden 123 = .ok (.bipush 32, 2) := by decide +kernel
theorem dX7_garden_125 : decode cX7_garden 125 = .ok (.aload_n 0, 1) := by decide +kernel
theorem dX7_garden_126 : decode cX7_garden 126 = .ok (.getfield 73, 3) := by decide +kernel
theorem dX7_garden_129 : decode cX7_garden 129 = .ok (.iastore, 1) := by decide +kernel
theorem dX7_garden_130 : decode cX7_garden 130 = .ok (.aload_n 0, 1) := by decide +kernel
theorem dX7_garden_131 : decode cX7_garden 131 = .ok (.getfield 26, 3) := by decide +kernel
theorem dX7_garden_134 : decode cX7_garden 134 = .ok (.bipush 33, 2) := by decide +kernel
theorem dX7_garden_136 : decode cX7_garden 136 = .ok (.aload_n 0, 1) := by decide +kernel
theorem dX7_garden_137 : decode cX7_garden 137 = .ok (.getfield 76, 3) := by decide +kernel
theorem dX7_garden_140 : decode cX7_garden 140 = .ok (.iastore, 1) := by decide +kernel
theorem dX7_garden_141 : decode cX7_garden 141 = .ok (.aload_n 0, 1) := by decide +kernel
theorem dX7_garden_142 : decode cX7_garden 142 = .ok (.getfield 26, 3) := by decide +kernel
theorem dX7_garden_145 : decode cX7_garden 145 = .ok (.bipush 34, 2) := by decide +kernel
theorem dX7_garden_147 : decode cX7_garden 147 = .ok (.aload_n 0, 1) := by decide +kernel
theorem dX7_garden_148 : decode cX7_garden 148 = .ok (.getfield 19, 3) := by decide +kernel
theorem dX7_garden_151 : decode cX7_garden 151 = .ok (.iastore, 1) := by decide +kernel
theorem dX7_garden_152 : decode cX7_garden 152 = .ok (.aload_n 0, 1) := by decide +kernel
theorem dX7_garden_153 : decode cX7_garden 153 = .ok (.iconst 0, 1) := by decide +kernel
theorem dX7_garden_154 : decode cX7_garden 154 = .ok (.putfield 93, 3) := by decide +kernel
theorem dX7_garden_157 : decode cX7_garden 157 = .ok (.aload_n 0, 1) := by decide +kernel
theorem dX7_garden_158 : decode cX7_garden 158 = .ok (.getfield 38, 3) := by decide +kernel
theorem dX7_garden_161 : decode cX7_garden 161 = .ok (.iconst 0, 1) := by decide +kernel
theorem dX7_garden_162 : decode cX7_garden 162 = .ok (.iconst 0, 1) := by decide +kernel
theorem dX7_garden_163 : decode cX7_garden 163 = .ok (.bastore, 1) := by decide +kernel
theorem dX7_garden_164 : decode cX7_garden 164 = .ok (.aload_n 0, 1) := by decide +kernel
theorem dX7_garden_165 : decode cX7_garden 165 = .ok (.getfield 38, 3) := by decide +kernel
theorem dX7_garden_168 : decode cX7_garden 168 = .ok (.iconst 1, 1) := by decide +kernel
theorem dX7_garden_169 : decode cX7_garden 169 = .ok (.iconst 0, 1) := by decide +kernel
theorem dX7_garden_170 : decode cX7_garden 170 = .ok (.bastore, 1) := by decide +kernel
theorem dX7_garden_171 : decode cX7_garden 171 = .ok (.aload_n 0, 1) := by decide +kernel
theorem dX7_garden_172 : decode cX7_garden 172 = .ok (.getfield 54, 3) := by decide +kernel
theorem dX7_garden_175 : decode cX7_garden 175 = .ok (.ireturn, 1) := by decide +kernel
theorem dX7_might_0 : decode cX7_might 0 = .ok (.aload_n 0, 1) := by decide +kernel
theorem dX7_might_1 : decode cX7_might 1 = .ok (.getfield 13, 3) := by decide +kernel
theorem dX7_might_4 : decode cX7_might 4 = .ok (.iload_n 1, 1) := by decide +kernel
theorem dX7_might_5 : decode cX7_might 5 = .ok (.iaload, 1) := by decide +kernel
theorem dX7_might_6 : decode cX7_might 6 = .ok (.aload_n 0, 1) := by decide +kernel
theorem dX7_might_7 : decode cX7_might 7 = .ok (.getfield 16, 3) := by decide +kernel
theorem dX7_might_10 : decode cX7_might 10 = .ok (.iload_n 1, 1) := by decide +kernel
theorem dX7_might_11 : decode cX7_might 11 = .ok (.iaload, 1) := by decide +kernel
theorem dX7_might_12 : decode cX7_might 12 = .ok (.iconst 1, 1) := by decide +kernel
theorem dX7_might_13 : decode cX7_might 13 = .ok (.if_icmp .ne 7, 3) := by decide +kernel
theorem dX7_might_16 : decode cX7_might 16 = .ok (.iconst 2, 1) := by decide +kernel
theorem dX7_might_17 : decode cX7_might 17 = .ok (.goto 4, 3) := by decide +kernel
theorem dX7_might_20 : decode cX7_might 20 = .ok (.iconst 0, 1) := by decide +kernel
theorem dX7_might_21 : decode cX7_might 21 = .ok (.iadd, 1) := by decide +kernel
theorem dX7_might_22 : decode cX7_might 22 = .ok (.ireturn, 1) := by decide +kernel
theorem dX7_wantsOf_0 : decode cX7_wantsOf 0 = .ok (.iconst 0, 1) := by decide +kernel
theorem dX7_wantsOf_1 : decode cX7_wantsOf 1 = .ok (.istore_n 2, 1) := by decide +kernel
theorem dX7_wantsOf_2 : decode cX7_wantsOf 2 = .ok (.iconst 0, 1) := by decide +kernel
theorem dX7_wantsOf_3 : decode cX7_wantsOf 3 = .ok (.istore_n 3, 1) := by decide +kernel
theorem dX7_wantsOf_4 : decode cX7_wantsOf 4 = .ok (.iload_n 3, 1) := by decide +kernel
theorem dX7_wantsOf_5 : decode cX7_wantsOf 5 = .ok (.aload_n 0, 1) := by decide +kernel
theorem dX7_wantsOf_6 : decode cX7_wantsOf 6 = .ok (.getfield 54, 3) := by decide +kernel
theorem dX7_wantsOf_9 : decode cX7_wantsOf 9 = .ok (.if_icmp .ge 50, 3) := by decide +kernel
theorem dX7_wantsOf_12 : decode cX7_wantsOf 12 = .ok (.iload_n 2, 1) := by decide +kernel
theorem dX7_wantsOf_13 : decode cX7_wantsOf 13 = .ok (.aload_n 0, 1) := by decide +kernel
theorem dX7_wantsOf_14 : decode cX7_wantsOf 14 = .ok (.getfield 96, 3) := by decide +kernel
theorem dX7_wantsOf_17 : decode cX7_wantsOf 17 = .ok (.iload_n 3, 1) := by decide +kernel
theorem dX7_wantsOf_18 : decode cX7_wantsOf 18 = .ok (.invokestatic 99, 3) := by decide +kernel
theorem dX7_wantsOf_21 : decode cX7_wantsOf 21 = .ok (.ifCond .eq 29, 3) := by decide +kernel
theorem dX7_wantsOf_24 : decode cX7_wantsOf 24 = .ok (.aload_n 1, 1) := by decide +kernel
theorem dX7_wantsOf_25 : decode cX7_wantsOf 25 = .ok (.bipush 30, 2) := by decide +kernel
theorem dX7_wantsOf_27 : decode cX7_wantsOf 27 = .ok (.iaload, 1) := by decide +kernel
theorem dX7_wantsOf_28 : decode cX7_wantsOf 28 = .ok (.iload_n 3, 1) := by decide +kernel
theorem dX7_wantsOf_29 : decode cX7_wantsOf 29 = .ok (.invokestatic 99, 3) := by decide +kernel
theorem dX7_wantsOf_32 : decode cX7_wantsOf 32 = .ok (.ifCond .ne 18, 3) := by decide +kernel
theorem dX7_wantsOf_35 : decode cX7_wantsOf 35 = .ok (.aload_n 1, 1) := by decide +kernel
theorem dX7_wantsOf_36 : decode cX7_wantsOf 36 = .ok (.iconst 0, 1) := by decide +kernel
theorem dX7_wantsOf_37 : decode cX7_wantsOf 37 = .ok (.iload_n 3, 1) := by decide +kernel
theorem dX7_wantsOf_38 : decode cX7_wantsOf 38 = .ok (.iadd, 1) := by decide +kernel
theorem dX7_wantsOf_39 : decode cX7_wantsOf 39 = .ok (.iaload, 1) := by decide +kernel
theorem dX7_wantsOf_40 : decode cX7_wantsOf 40 = .ok (.iconst 5, 1) := by decide +kernel
theorem dX7_wantsOf_41 : decode cX7_wantsOf 41 = .ok (.if_icmp .lt 9, 3) := by decide +kernel
theorem dX7_wantsOf_44 : decode cX7_wantsOf 44 = .ok (.iconst 1, 1) := by decide +kernel
theorem dX7_wantsOf_45 : decode cX7_wantsOf 45 = .ok (.iload_n 3, 1) := by decide +kernel
theorem dX7_wantsOf_46 : decode cX7_wantsOf 46 = .ok (.ishl, 1) := by decide +kernel
theorem dX7_wantsOf_47 : decode cX7_wantsOf 47 = .ok (.goto 4, 3) := by decide +kernel
theorem dX7_wantsOf_50 : decode cX7_wantsOf 50 = .ok (.iconst 0, 1) := by decide +kernel
theorem dX7_wantsOf_51 : decode cX7_wantsOf 51 = .ok (.ior, 1) := by decide +kernel
theorem dX7_wantsOf_52 : decode cX7_wantsOf 52 = .ok (.istore_n 2, 1) := by decide +kernel
theorem dX7_wantsOf_53 : decode cX7_wantsOf 53 = .ok (.iinc 3 1, 3) := by decide +kernel
theorem dX7_wantsOf_56 : decode cX7_wantsOf 56 = .ok (.goto (-52), 3) := by decide +kernel
theorem dX7_wantsOf_59 : decode cX7_wantsOf 59 = .ok (.iload_n 2, 1) := by decide +kernel
theorem dX7_wantsOf_60 : decode cX7_wantsOf 60 = .ok (.ireturn, 1) := by decide +kernel
theorem dX7_asksOf_0 : decode cX7_asksOf 0 = .ok (.aload_n 0, 1) := by decide +kernel
theorem dX7_asksOf_1 : decode cX7_asksOf 1 = .ok (.aload_n 1, 1) := by decide +kernel
theorem dX7_asksOf_2 : decode cX7_asksOf 2 = .ok (.invokevirtual 103, 3) := by decide +kernel
theorem dX7_asksOf_5 : decode cX7_asksOf 5 = .ok (.istore_n 2, 1) := by decide +kernel
theorem dX7_asksOf_6 : decode cX7_asksOf 6 = .ok (.iconst 0, 1) := by decide +kernel
theorem dX7_asksOf_7 : decode cX7_asksOf 7 = .ok (.istore_n 3, 1) := by decide +kernel
theorem dX7_asksOf_8 : decode cX7_asksOf 8 = .ok (.iload_n 3, 1) := by decide +kernel
theorem dX7_asksOf_9 : decode cX7_asksOf 9 = .ok (.aload_n 0, 1) := by decide +kernel
theorem dX7_asksOf_10 : decode cX7_asksOf 10 = .ok (.getfield 54, 3) := by decide +kernel
theorem dX7_asksOf_13 : decode cX7_asksOf 13 = .ok (.if_icmp .ge 39, 3) := by decide +kernel
theorem dX7_asksOf_16 : decode cX7_asksOf 16 = .ok (.iload_n 2, 1) := by decide +kernel
theorem dX7_asksOf_17 : decode cX7_asksOf 17 = .ok (.aload_n 0, 1) := by decide +kernel
theorem dX7_asksOf_18 : decode cX7_asksOf 18 = .ok (.getfield 16, 3) := by decide +kernel
theorem dX7_asksOf_21 : decode cX7_asksOf 21 = .ok (.iload_n 3, 1) := by decide +kernel
theorem dX7_asksOf_22 : decode cX7_asksOf 22 = .ok (.iaload, 1) := by decide +kernel
theorem dX7_asksOf_23 : decode cX7_asksOf 23 = .ok (.iconst 2, 1) := by decide +kernel
theorem dX7_asksOf_24 : decode cX7_asksOf 24 = .ok (.if_icmp .ne 19, 3) := by decide +kernel
theorem dX7_asksOf_27 : decode cX7_asksOf 27 = .ok (.aload_n 1, 1) := by decide +kernel
theorem dX7_asksOf_28 : decode cX7_asksOf 28 = .ok (.bipush 32, 2) := by decide +kernel
theorem dX7_asksOf_30 : decode cX7_asksOf 30 = .ok (.iaload, 1) := by decide +kernel
theorem dX7_asksOf_31 : decode cX7_asksOf 31 = .ok (.iconst 3, 1) := by decide +kernel
theorem dX7_asksOf_32 : decode cX7_asksOf 32 = .ok (.if_icmp .eq 11, 3) := by decide +kernel
theorem dX7_asksOf_35 : decode cX7_asksOf 35 = .ok (.iconst 1, 1) := by decide +kernel
theorem dX7_asksOf_36 : decode cX7_asksOf 36 = .ok (.iload_n 3, 1) := by decide +kernel
theorem dX7_asksOf_37 : decode cX7_asksOf 37 = .ok (.ishl, 1) := by decide +kernel
theorem dX7_asksOf_38 : decode cX7_asksOf 38 = .ok (.iconst (-1), 1) := by decide +kernel
theorem dX7_asksOf_39 : decode cX7_asksOf 39 = .ok (.ixor, 1) := by decide +kernel
theorem dX7_asksOf_40 : decode cX7_asksOf 40 = .ok (.goto 4, 3) := by decide +kernel
theorem dX7_asksOf_43 : decode cX7_asksOf 43 = .ok (.iconst (-1), 1) := by decide +kernel
theorem dX7_asksOf_44 : decode cX7_asksOf 44 = .ok (.iand, 1) := by decide +kernel
theorem dX7_asksOf_45 : decode cX7_asksOf 45 = .ok (.istore_n 2, 1) := by decide +kernel
theorem dX7_asksOf_46 : decode cX7_asksOf 46 = .ok (.iinc 3 1, 3) := by decide +kernel
theorem dX7_asksOf_49 : decode cX7_asksOf 49 = .ok (.goto (-41), 3) := by decide +kernel
theorem dX7_asksOf_52 : decode cX7_asksOf 52 = .ok (.iload_n 2, 1) := by decide +kernel
theorem dX7_asksOf_53 : decode cX7_asksOf 53 = .ok (.ireturn, 1) := by decide +kernel
theorem dX7_claim_0 : decode cX7_claim 0 = .ok (.aload_n 1, 1) := by decide +kernel
theorem dX7_claim_1 : decode cX7_claim 1 = .ok (.bipush 32, 2) := by decide +kernel
theorem dX7_claim_3 : decode cX7_claim 3 = .ok (.iaload, 1) := by decide +kernel
theorem dX7_claim_4 : decode cX7_claim 4 = .ok (.tableswitch 91 1 3 #[28, 36, 43], 28) := by decide +kernel
theorem dX7_claim_32 : decode cX7_claim 32 = .ok (.aload_n 1, 1) := by decide +kernel
theorem dX7_claim_33 : decode cX7_claim 33 = .ok (.bipush 10, 2) := by decide +kernel
theorem dX7_claim_35 : decode cX7_claim 35 = .ok (.iload_n 2, 1) := by decide +kernel
theorem dX7_claim_36 : decode cX7_claim 36 = .ok (.iadd, 1) := by decide +kernel
theorem dX7_claim_37 : decode cX7_claim 37 = .ok (.iaload, 1) := by decide +kernel
theorem dX7_claim_38 : decode cX7_claim 38 = .ok (.ineg, 1) := by decide +kernel
theorem dX7_claim_39 : decode cX7_claim 39 = .ok (.ireturn, 1) := by decide +kernel
theorem dX7_claim_40 : decode cX7_claim 40 = .ok (.aload_n 1, 1) := by decide +kernel
theorem dX7_claim_41 : decode cX7_claim 41 = .ok (.bipush 20, 2) := by decide +kernel
theorem dX7_claim_43 : decode cX7_claim 43 = .ok (.iload_n 2, 1) := by decide +kernel
theorem dX7_claim_44 : decode cX7_claim 44 = .ok (.iadd, 1) := by decide +kernel
theorem dX7_claim_45 : decode cX7_claim 45 = .ok (.iaload, 1) := by decide +kernel
theorem dX7_claim_46 : decode cX7_claim 46 = .ok (.ireturn, 1) := by decide +kernel
theorem dX7_claim_47 : decode cX7_claim 47 = .ok (.aload_n 1, 1) := by decide +kernel
theorem dX7_claim_48 : decode cX7_claim 48 = .ok (.bipush 31, 2) := by decide +kernel
theorem dX7_claim_50 : decode cX7_claim 50 = .ok (.iaload, 1) := by decide +kernel
theorem dX7_claim_51 : decode cX7_claim 51 = .ok (.bipush (-9), 2) := by decide +kernel
theorem dX7_claim_53 : decode cX7_claim 53 = .ok (.if_icmp .ne 8, 3) := by decide +kernel
theorem dX7_claim_56 : decode cX7_claim 56 = .ok (.iload_n 2, 1) := by decide +kernel
theorem dX7_claim_57 : decode cX7_claim 57 = .ok (.ineg, 1) := by decide +kernel
theorem dX7_claim_58 : decode cX7_claim 58 = .ok (.goto 36, 3) := by decide +kernel
theorem dX7_claim_61 : decode cX7_claim 61 = .ok (.iload_n 2, 1) := by decide +kernel
theorem dX7_claim_62 : decode cX7_claim 62 = .ok (.aload_n 1, 1) := by decide +kernel
theorem dX7_claim_63 : decode cX7_claim 63 = .ok (.bipush 31, 2) := by decide +kernel
theorem dX7_claim_65 : decode cX7_claim 65 = .ok (.iaload, 1) := by decide +kernel
theorem dX7_claim_66 : decode cX7_claim 66 = .ok (.isub, 1) := by decide +kernel
theorem dX7_claim_67 : decode cX7_claim 67 = .ok (.iconst 1, 1) := by decide +kernel
theorem dX7_claim_68 : decode cX7_claim 68 = .ok (.isub, 1) := by decide +kernel
theorem dX7_claim_69 : decode cX7_claim 69 = .ok (.bipush 10, 2) := by decide +kernel
theorem dX7_claim_71 : decode cX7_claim 71 = .ok (.aload_n 0, 1) := by decide +kernel
theorem dX7_claim_72 : decode cX7_claim 72 = .ok (.getfield 54, 3) := by decide +kernel
theorem dX7_claim_75 : decode cX7_claim 75 = .ok (.imul, 1) := by decide +kernel
theorem dX7_claim_76 : decode cX7_claim 76 = .ok (.iadd, 1) := by decide +kernel
theorem dX7_claim_77 : decode cX7_claim 77 = .ok (.aload_n 0, 1) := by decide +kernel
theorem dX7_claim_78 : decode cX7_claim 78 = .ok (.getfield 54, 3) := by decide +kernel
theorem dX7_claim_81 : decode cX7_claim 81 = .ok (.ifCond .ne 7, 3) := by decide +kernel
theorem dX7_claim_84 : decode cX7_claim 84 = .ok (.iconst 1, 1) := by decide +kernel
theorem dX7_claim_85 : decode cX7_claim 85 = .ok (.goto 7, 3) := by decide +kernel
theorem dX7_claim_88 : decode cX7_claim 88 = .ok (.aload_n 0, 1) := by decide +kernel
theorem dX7_claim_89 : decode cX7_claim 89 = .ok (.getfield 54, 3) := by decide +kernel
theorem dX7_claim_92 : decode cX7_claim 92 = .ok (.irem, 1) := by decide +kernel
theorem dX7_claim_93 : decode cX7_claim 93 = .ok (.ineg, 1) := by decide +kernel
theorem dX7_claim_94 : decode cX7_claim 94 = .ok (.ireturn, 1) := by decide +kernel
theorem dX7_claim_95 : decode cX7_claim 95 = .ok (.aload_n 0, 1) := by decide +kernel
theorem dX7_claim_96 : decode cX7_claim 96 = .ok (.iload_n 2, 1) := by decide +kernel
theorem dX7_claim_97 : decode cX7_claim 97 = .ok (.invokevirtual 107, 3) := by decide +kernel
theorem dX7_claim_100 : decode cX7_claim 100 = .ok (.ireturn, 1) := by decide +kernel
theorem dX7_nextOf_0 : decode cX7_nextOf 0 = .ok (.aload_n 0, 1) := by decide +kernel
theorem dX7_nextOf_1 : decode cX7_nextOf 1 = .ok (.aload_n 1, 1) := by decide +kernel
theorem dX7_nextOf_2 : decode cX7_nextOf 2 = .ok (.invokevirtual 111, 3) := by decide +kernel
theorem dX7_nextOf_5 : decode cX7_nextOf 5 = .ok (.istore_n 2, 1) := by decide +kernel
theorem dX7_nextOf_6 : decode cX7_nextOf 6 = .ok (.bipush (-9), 2) := by decide +kernel
theorem dX7_nextOf_8 : decode cX7_nextOf 8 = .ok (.istore_n 3, 1) := by decide +kernel
theorem dX7_nextOf_9 : decode cX7_nextOf 9 = .ok (.iconst 0, 1) := by decide +kernel
theorem dX7_nextOf_10 : decode cX7_nextOf 10 = .ok (.istore 4, 2) := by decide +kernel
theorem dX7_nextOf_12 : decode cX7_nextOf 12 = .ok (.iload 4, 2) := by decide +kernel
theorem dX7_nextOf_14 : decode cX7_nextOf 14 = .ok (.aload_n 0, 1) := by decide +kernel
theorem dX7_nextOf_15 : decode cX7_nextOf 15 = .ok (.getfield 54, 3) := by decide +kernel
theorem dX7_nextOf_18 : decode cX7_nextOf 18 = .ok (.if_icmp .ge 43, 3) := by decide +kernel
theorem dX7_nextOf_21 : decode cX7_nextOf 21 = .ok (.iload_n 2, 1) := by decide +kernel
theorem dX7_nextOf_22 : decode cX7_nextOf 22 = .ok (.iload 4, 2) := by decide +kernel
theorem dX7_nextOf_24 : decode cX7_nextOf 24 = .ok (.invokestatic 99, 3) := by decide +kernel
theorem dX7_nextOf_27 : decode cX7_nextOf 27 = .ok (.ifCond .eq 28, 3) := by decide +kernel
theorem dX7_nextOf_30 : decode cX7_nextOf 30 = .ok (.iload_n 3, 1) := by decide +kernel
theorem dX7_nextOf_31 : decode cX7_nextOf 31 = .ok (.bipush (-9), 2) := by decide +kernel
theorem dX7_nextOf_33 : decode cX7_nextOf 33 = .ok (.if_icmp .eq 19, 3) := by decide +kernel
theorem dX7_nextOf_36 : decode cX7_nextOf 36 = .ok (.aload_n 0, 1) := by decide +kernel
theorem dX7_nextOf_37 : decode cX7_nextOf 37 = .ok (.aload_n 1, 1) := by decide +kernel
theorem dX7_nextOf_38 : decode cX7_nextOf 38 = .ok (.iload 4, 2) := by decide +kernel
theorem dX7_nextOf_40 : decode cX7_nextOf 40 = .ok (.invokevirtual 114, 3) := by decide +kernel
theorem dX7_nextOf_43 : decode cX7_nextOf 43 = .ok (.aload_n 0, 1) := by decide +kernel
theorem dX7_nextOf_44 : decode cX7_nextOf 44 = .ok (.aload_n 1, 1) := by decide +kernel
theorem dX7_nextOf_45 : decode cX7_nextOf 45 = .ok (.iload_n 3, 1) := by decide +kernel
theorem dX7_nextOf_46 : decode cX7_nextOf 46 = .ok (.invokevirtual 114, 3) := by decide +kernel
theorem dX7_nextOf_49 : decode cX7_nextOf 49 = .ok (.if_icmp .le 6, 3) := by decide +kernel
theorem dX7_nextOf_52 : decode cX7_nextOf 52 = .ok (.iload 4, 2) := by decide +kernel
theorem dX7_nextOf_54 : decode cX7_nextOf 54 = .ok (.istore_n 3, 1) := by decide +kernel
theorem dX7_nextOf_55 : decode cX7_nextOf 55 = .ok (.iinc 4 1, 3) := by decide +kernel
theorem dX7_nextOf_58 : decode cX7_nextOf 58 = .ok (.goto (-46), 3) := by decide +kernel
theorem dX7_nextOf_61 : decode cX7_nextOf 61 = .ok (.iload_n 3, 1) := by decide +kernel
theorem dX7_nextOf_62 : decode cX7_nextOf 62 = .ok (.ireturn, 1) := by decide +kernel
theorem dX7_getOff_0 : decode cX7_getOff 0 = .ok (.aload_n 0, 1) := by decide +kernel
theorem dX7_getOff_1 : decode cX7_getOff 1 = .ok (.bipush 30, 2) := by decide +kernel
theorem dX7_getOff_3 : decode cX7_getOff 3 = .ok (.dup2, 1) := by decide +kernel
theorem dX7_getOff_4 : decode cX7_getOff 4 = .ok (.iaload, 1) := by decide +kernel
theorem dX7_getOff_5 : decode cX7_getOff 5 = .ok (.iconst 1, 1) := by decide +kernel
theorem dX7_getOff_6 : decode cX7_getOff 6 = .ok (.iload_n 1, 1) := by decide +kernel
theorem dX7_getOff_7 : decode cX7_getOff 7 = .ok (.ishl, 1) := by decide +kernel
theorem dX7_getOff_8 : decode cX7_getOff 8 = .ok (.iconst (-1), 1) := by decide +kernel
theorem dX7_getOff_9 : decode cX7_getOff 9 = .ok (.ixor, 1) := by decide +kernel
theorem dX7_getOff_10 : decode cX7_getOff 10 = .ok (.iand, 1) := by decide +kernel
theorem dX7_getOff_11 : decode cX7_getOff 11 = .ok (.iastore, 1) := by decide +kernel
theorem dX7_getOff_12 : decode cX7_getOff 12 = .ok (.aload_n 0, 1) := by decide +kernel
theorem dX7_getOff_13 : decode cX7_getOff 13 = .ok (.iconst 5, 1) := by decide +kernel
theorem dX7_getOff_14 : decode cX7_getOff 14 = .ok (.iload_n 1, 1) := by decide +kernel
theorem dX7_getOff_15 : decode cX7_getOff 15 = .ok (.iadd, 1) := by decide +kernel
theorem dX7_getOff_16 : decode cX7_getOff 16 = .ok (.iconst 0, 1) := by decide +kernel
theorem dX7_getOff_17 : decode cX7_getOff 17 = .ok (.iastore, 1) := by decide +kernel
theorem dX7_getOff_18 : decode cX7_getOff 18 = .ok (.return_, 1) := by decide +kernel
theorem dX7_getOn_0 : decode cX7_getOn 0 = .ok (.aload_n 0, 1) := by decide +kernel
theorem dX7_getOn_1 : decode cX7_getOn 1 = .ok (.bipush 30, 2) := by decide +kernel
theorem dX7_getOn_3 : decode cX7_getOn 3 = .ok (.dup2, 1) := by decide +kernel
theorem dX7_getOn_4 : decode cX7_getOn 4 = .ok (.iaload, 1) := by decide +kernel
theorem dX7_getOn_5 : decode cX7_getOn 5 = .ok (.iconst 1, 1) := by decide +kernel
theorem dX7_getOn_6 : decode cX7_getOn 6 = .ok (.iload_n 1, 1) := by decide +kernel
theorem dX7_getOn_7 : decode cX7_getOn 7 = .ok (.ishl, 1) := by decide +kernel
theorem dX7_getOn_8 : decode cX7_getOn 8 = .ok (.ior, 1) := by decide +kernel
theorem dX7_getOn_9 : decode cX7_getOn 9 = .ok (.iastore, 1) := by decide +kernel
theorem dX7_getOn_10 : decode cX7_getOn 10 = .ok (.aload_n 0, 1) := by decide +kernel
theorem dX7_getOn_11 : decode cX7_getOn 11 = .ok (.iconst 5, 1) := by decide +kernel
theorem dX7_getOn_12 : decode cX7_getOn 12 = .ok (.iload_n 1, 1) := by decide +kernel
theorem dX7_getOn_13 : decode cX7_getOn 13 = .ok (.iadd, 1) := by decide +kernel
theorem dX7_getOn_14 : decode cX7_getOn 14 = .ok (.iconst 0, 1) := by decide +kernel
theorem dX7_getOn_15 : decode cX7_getOn 15 = .ok (.iastore, 1) := by decide +kernel
theorem dX7_getOn_16 : decode cX7_getOn 16 = .ok (.aload_n 0, 1) := by decide +kernel
theorem dX7_getOn_17 : decode cX7_getOn 17 = .ok (.bipush 20, 2) := by decide +kernel
theorem dX7_getOn_19 : decode cX7_getOn 19 = .ok (.iload_n 1, 1) := by decide +kernel
theorem dX7_getOn_20 : decode cX7_getOn 20 = .ok (.iadd, 1) := by decide +kernel
theorem dX7_getOn_21 : decode cX7_getOn 21 = .ok (.iconst 0, 1) := by decide +kernel
theorem dX7_getOn_22 : decode cX7_getOn 22 = .ok (.iastore, 1) := by decide +kernel
theorem dX7_getOn_23 : decode cX7_getOn 23 = .ok (.aload_n 0, 1) := by decide +kernel
theorem dX7_getOn_24 : decode cX7_getOn 24 = .ok (.bipush 31, 2) := by decide +kernel
theorem dX7_getOn_26 : decode cX7_getOn 26 = .ok (.iload_n 1, 1) := by decide +kernel
theorem dX7_getOn_27 : decode cX7_getOn 27 = .ok (.iastore, 1) := by decide +kernel
theorem dX7_getOn_28 : decode cX7_getOn 28 = .ok (.return_, 1) := by decide +kernel
theorem dX7_lookAt_0 : decode cX7_lookAt 0 = .ok (.aload_n 0, 1) := by decide +kernel
theorem dX7_lookAt_1 : decode cX7_lookAt 1 = .ok (.aload_n 1, 1) := by decide +kernel
theorem dX7_lookAt_2 : decode cX7_lookAt 2 = .ok (.invokevirtual 118, 3) := by decide +kernel
theorem dX7_lookAt_5 : decode cX7_lookAt 5 = .ok (.istore_n 3, 1) := by decide +kernel
theorem dX7_lookAt_6 : decode cX7_lookAt 6 = .ok (.aload_n 1, 1) := by decide +kernel
theorem dX7_lookAt_7 : decode cX7_lookAt 7 = .ok (.iconst 5, 1) := by decide +kernel
theorem dX7_lookAt_8 : decode cX7_lookAt 8 = .ok (.iload_n 2, 1) := by decide +kernel
theorem dX7_lookAt_9 : decode cX7_lookAt 9 = .ok (.iadd, 1) := by decide +kernel
theorem dX7_lookAt_10 : decode cX7_lookAt 10 = .ok (.iaload, 1) := by decide +kernel
theorem dX7_lookAt_11 : decode cX7_lookAt 11 = .ok (.aload_n 1, 1) := by decide +kernel
theorem dX7_lookAt_12 : decode cX7_lookAt 12 = .ok (.bipush 33, 2) := by decide +kernel
theorem dX7_lookAt_14 : decode cX7_lookAt 14 = .ok (.iaload, 1) := by decide +kernel
theorem dX7_lookAt_15 : decode cX7_lookAt 15 = .ok (.if_icmp .lt 7, 3) := by decide +kernel
theorem dX7_lookAt_18 : decode cX7_lookAt 18 = .ok (.iconst 1, 1) := by decide +kernel
theorem dX7_lookAt_19 : decode cX7_lookAt 19 = .ok (.goto 4, 3) := by decide +kernel
theorem dX7_lookAt_22 : decode cX7_lookAt 22 = .ok (.iconst 0, 1) := by decide +kernel
theorem dX7_lookAt_23 : decode cX7_lookAt 23 = .ok (.istore 4, 2) := by decide +kernel
theorem dX7_lookAt_25 : decode cX7_lookAt 25 = .ok (.iload_n 3, 1) := by decide +kernel
theorem dX7_lookAt_26 : decode cX7_lookAt 26 = .ok (.bipush (-9), 2) := by decide +kernel
theorem dX7_lookAt_28 : decode cX7_lookAt 28 = .ok (.if_icmp .eq 27, 3) := by decide +kernel
theorem dX7_lookAt_31 : decode cX7_lookAt 31 = .ok (.aload_n 1, 1) := by decide +kernel
theorem dX7_lookAt_32 : decode cX7_lookAt 32 = .ok (.bipush 32, 2) := by decide +kernel
theorem dX7_lookAt_34 : decode cX7_lookAt 34 = .ok (.iaload, 1) := by decide +kernel
theorem dX7_lookAt_35 : decode cX7_lookAt 35 = .ok (.ifCond .ne 20, 3) := by decide +kernel
theorem dX7_lookAt_38 : decode cX7_lookAt 38 = .ok (.aload_n 0, 1) := by decide +kernel
theorem dX7_lookAt_39 : decode cX7_lookAt 39 = .ok (.iload_n 3, 1) := by decide +kernel
theorem dX7_lookAt_40 : decode cX7_lookAt 40 = .ok (.invokevirtual 107, 3) := by decide +kernel
theorem dX7_lookAt_43 : decode cX7_lookAt 43 = .ok (.aload_n 0, 1) := by decide +kernel
theorem dX7_lookAt_44 : decode cX7_lookAt 44 = .ok (.iload_n 2, 1) := by decide +kernel
theorem dX7_lookAt_45 : decode cX7_lookAt 45 = .ok (.invokevirtual 107, 3) := by decide +kernel
theorem dX7_lookAt_48 : decode cX7_lookAt 48 = .ok (.if_icmp .le 7, 3) := by decide +kernel
theorem dX7_lookAt_51 : decode cX7_lookAt 51 = .ok (.iconst 1, 1) := by decide +kernel
theorem dX7_lookAt_52 : decode cX7_lookAt 52 = .ok (.goto 4, 3) := by decide +kernel
theorem dX7_lookAt_55 : decode cX7_lookAt 55 = .ok (.iconst 0, 1) := by decide +kernel
theorem dX7_lookAt_56 : decode cX7_lookAt 56 = .ok (.istore 5, 2) := by decide +kernel
theorem dX7_lookAt_58 : decode cX7_lookAt 58 = .ok (.iload_n 3, 1) := by decide +kernel
theorem dX7_lookAt_59 : decode cX7_lookAt 59 = .ok (.bipush (-9), 2) := by decide +kernel
theorem dX7_lookAt_61 : decode cX7_lookAt 61 = .ok (.if_icmp .eq 29, 3) := by decide +kernel
theorem dX7_lookAt_64 : decode cX7_lookAt 64 = .ok (.iload 4, 2) := by decide +kernel
theorem dX7_lookAt_66 : decode cX7_lookAt 66 = .ok (.ifCond .eq 24, 3) := by decide +kernel
theorem dX7_lookAt_69 : decode cX7_lookAt 69 = .ok (.aload_n 1, 1) := by decide +kernel
theorem dX7_lookAt_70 : decode cX7_lookAt 70 = .ok (.bipush 32, 2) := by decide +kernel
theorem dX7_lookAt_72 : decode cX7_lookAt 72 = .ok (.iaload, 1) := by decide +kernel
theorem dX7_lookAt_73 : decode cX7_lookAt 73 = .ok (.ifCond .ne 13, 3) := by decide +kernel
theorem dX7_lookAt_76 : decode cX7_lookAt 76 = .ok (.aload_n 0, 1) := by decide +kernel
theorem dX7_lookAt_77 : decode cX7_lookAt 77 = .ok (.getfield 16, 3) := by decide +kernel
theorem dX7_lookAt_80 : decode cX7_lookAt 80 = .ok (.iload_n 2, 1) := by decide +kernel
theorem dX7_lookAt_81 : decode cX7_lookAt 81 = .ok (.iaload, 1) := by decide +kernel
theorem dX7_lookAt_82 : decode cX7_lookAt 82 = .ok (.iconst 3, 1) := by decide +kernel
theorem dX7_lookAt_83 : decode cX7_lookAt 83 = .ok (.if_icmp .ne 7, 3) := by decide +kernel
theorem dX7_lookAt_86 : decode cX7_lookAt 86 = .ok (.iconst 1, 1) := by decide +kernel
theorem dX7_lookAt_87 : decode cX7_lookAt 87 = .ok (.goto 4, 3) := by decide +kernel
theorem dX7_lookAt_90 : decode cX7_lookAt 90 = .ok (.iconst 0, 1) := by decide +kernel
theorem dX7_lookAt_91 : decode cX7_lookAt 91 = .ok (.istore 6, 2) := by decide +kernel
theorem dX7_lookAt_93 : decode cX7_lookAt 93 = .ok (.aload_n 1, 1) := by decide +kernel
theorem dX7_lookAt_94 : decode cX7_lookAt 94 = .ok (.iconst 0, 1) := by decide +kernel
theorem dX7_lookAt_95 : decode cX7_lookAt 95 = .ok (.iload_n 2, 1) := by decide +kernel
theorem dX7_lookAt_96 : decode cX7_lookAt 96 = .ok (.iadd, 1) := by decide +kernel
theorem dX7_lookAt_97 : decode cX7_lookAt 97 = .ok (.iaload, 1) := by decide +kernel
theorem dX7_lookAt_98 : decode cX7_lookAt 98 = .ok (.ifCond .eq 13, 3) := by decide +kernel
theorem dX7_lookAt_101 : decode cX7_lookAt 101 = .ok (.iload 5, 2) := by decide +kernel
theorem dX7_lookAt_103 : decode cX7_lookAt 103 = .ok (.ifCond .ne 8, 3) := by decide +kernel
theorem dX7_lookAt_106 : decode cX7_lookAt 106 = .ok (.iload 6, 2) := by decide +kernel
theorem dX7_lookAt_108 : decode cX7_lookAt 108 = .ok (.ifCond .eq 35, 3) := by decide +kernel
theorem dX7_lookAt_111 : decode cX7_lookAt 111 = .ok (.aload_n 1, 1) := by decide +kernel
theorem dX7_lookAt_112 : decode cX7_lookAt 112 = .ok (.bipush 25, 2) := by decide +kernel
theorem dX7_lookAt_114 : decode cX7_lookAt 114 = .ok (.iload_n 2, 1) := by decide +kernel
theorem dX7_lookAt_115 : decode cX7_lookAt 115 = .ok (.iadd, 1) := by decide +kernel
theorem dX7_lookAt_116 : decode cX7_lookAt 116 = .ok (.dup2, 1) := by decide +kernel
theorem dX7_lookAt_117 : decode cX7_lookAt 117 = .ok (.iaload, 1) := by decide +kernel
theorem dX7_lookAt_118 : decode cX7_lookAt 118 = .ok (.iload 5, 2) := by decide +kernel
theorem dX7_lookAt_120 : decode cX7_lookAt 120 = .ok (.ifCond .eq 15, 3) := by decide +kernel
theorem dX7_lookAt_123 : decode cX7_lookAt 123 = .ok (.aload_n 1, 1) := by decide +kernel
theorem dX7_lookAt_124 : decode cX7_lookAt 124 = .ok (.iconst 0, 1) := by decide +kernel
theorem dX7_lookAt_125 : decode cX7_lookAt 125 = .ok (.iload_n 2, 1) := by decide +kernel
theorem dX7_lookAt_126 : decode cX7_lookAt 126 = .ok (.iadd, 1) := by decide +kernel
theorem dX7_lookAt_127 : decode cX7_lookAt 127 = .ok (.iaload, 1) := by decide +kernel
theorem dX7_lookAt_128 : decode cX7_lookAt 128 = .ok (.ifCond .le 7, 3) := by decide +kernel
theorem dX7_lookAt_131 : decode cX7_lookAt 131 = .ok (.iconst 1, 1) := by decide +kernel
theorem dX7_lookAt_132 : decode cX7_lookAt 132 = .ok (.goto 4, 3) := by decide +kernel
theorem dX7_lookAt_135 : decode cX7_lookAt 135 = .ok (.iconst 0, 1) := by decide +kernel
theorem dX7_lookAt_136 : decode cX7_lookAt 136 = .ok (.iadd, 1) := by decide +kernel
theorem dX7_lookAt_137 : decode cX7_lookAt 137 = .ok (.iastore, 1) := by decide +kernel
theorem dX7_lookAt_138 : decode cX7_lookAt 138 = .ok (.aload_n 1, 1) := by decide +kernel
theorem dX7_lookAt_139 : decode cX7_lookAt 139 = .ok (.iload_n 2, 1) := by decide +kernel
theorem dX7_lookAt_140 : decode cX7_lookAt 140 = .ok (.invokestatic 121, 3) := by decide +kernel
theorem dX7_lookAt_143 : decode cX7_lookAt 143 = .ok (.return_, 1) := by decide +kernel
theorem dX7_goMinute_0 : decode cX7_goMinute 0 = .ok (.aload_n 1, 1) := by decide +kernel
theorem dX7_goMinute_1 : decode cX7_goMinute 1 = .ok (.bipush 30, 2) := by decide +kernel
theorem dX7_goMinute_3 : decode cX7_goMinute 3 = .ok (.iaload, 1) := by decide +kernel
theorem dX7_goMinute_4 : decode cX7_goMinute 4 = .ok (.istore_n 2, 1) := by decide +kernel
theorem dX7_goMinute_5 : decode cX7_goMinute 5 = .ok (.iconst 0, 1) := by decide +kernel
theorem dX7_goMinute_6 : decode cX7_goMinute 6 = .ok (.istore_n 3, 1) := by decide +kernel
theorem dX7_goMinute_7 : decode cX7_goMinute 7 = .ok (.iload_n 3, 1) := by decide +kernel
theorem dX7_goMinute_8 : decode cX7_goMinute 8 = .ok (.aload_n 0, 1) := by decide +kernel
theorem dX7_goMinute_9 : decode cX7_goMinute 9 = .ok (.getfield 54, 3) := by decide +kernel
theorem dX7_goMinute_12 : decode cX7_goMinute 12 = .ok (.if_icmp .ge 23, 3) := by decide +kernel
theorem dX7_goMinute_15 : decode cX7_goMinute 15 = .ok (.iload_n 2, 1) := by decide +kernel
theorem dX7_goMinute_16 : decode cX7_goMinute 16 = .ok (.iload_n 3, 1) := by decide +kernel
theorem dX7_goMinute_17 : decode cX7_goMinute 17 = .ok (.invokestatic 99, 3) := by decide +kernel
theorem dX7_goMinute_20 : decode cX7_goMinute 20 = .ok (.ifCond .eq 9, 3) := by decide +kernel
theorem dX7_goMinute_23 : decode cX7_goMinute 23 = .ok (.aload_n 0, 1) := by decide +kernel
theorem dX7_goMinute_24 : decode cX7_goMinute 24 = .ok (.aload_n 1, 1) := by decide +kernel
theorem dX7_goMinute_25 : decode cX7_goMinute 25 = .ok (.iload_n 3, 1) := by decide +kernel
theorem dX7_goMinute_26 : decode cX7_goMinute 26 = .ok (.invokevirtual 125, 3) := by decide +kernel
theorem dX7_goMinute_29 : decode cX7_goMinute 29 = .ok (.iinc 3 1, 3) := by decide +kernel
theorem dX7_goMinute_32 : decode cX7_goMinute 32 = .ok (.goto (-25), 3) := by decide +kernel
theorem dX7_goMinute_35 : decode cX7_goMinute 35 = .ok (.aload_n 1, 1) := by decide +kernel
theorem dX7_goMinute_36 : decode cX7_goMinute 36 = .ok (.bipush 30, 2) := by decide +kernel
theorem dX7_goMinute_38 : decode cX7_goMinute 38 = .ok (.iaload, 1) := by decide +kernel
theorem dX7_goMinute_39 : decode cX7_goMinute 39 = .ok (.invokestatic 128, 3) := by decide +kernel
theorem dX7_goMinute_42 : decode cX7_goMinute 42 = .ok (.aload_n 1, 1) := by decide +kernel
theorem dX7_goMinute_43 : decode cX7_goMinute 43 = .ok (.bipush 34, 2) := by decide +kernel
theorem dX7_goMinute_45 : decode cX7_goMinute 45 = .ok (.iaload, 1) := by decide +kernel
theorem dX7_goMinute_46 : decode cX7_goMinute 46 = .ok (.if_icmp .ge 23, 3) := by decide +kernel
theorem dX7_goMinute_49 : decode cX7_goMinute 49 = .ok (.aload_n 0, 1) := by decide +kernel
theorem dX7_goMinute_50 : decode cX7_goMinute 50 = .ok (.aload_n 1, 1) := by decide +kernel
theorem dX7_goMinute_51 : decode cX7_goMinute 51 = .ok (.invokevirtual 111, 3) := by decide +kernel
theorem dX7_goMinute_54 : decode cX7_goMinute 54 = .ok (.ifCond .eq 15, 3) := by decide +kernel
theorem dX7_goMinute_57 : decode cX7_goMinute 57 = .ok (.aload_n 1, 1) := by decide +kernel
theorem dX7_goMinute_58 : decode cX7_goMinute 58 = .ok (.aload_n 0, 1) := by decide +kernel
theorem dX7_goMinute_59 : decode cX7_goMinute 59 = .ok (.aload_n 1, 1) := by decide +kernel
theorem dX7_goMinute_60 : decode cX7_goMinute 60 = .ok (.invokevirtual 118, 3) := by decide +kernel
theorem dX7_goMinute_63 : decode cX7_goMinute 63 = .ok (.invokestatic 131, 3) := by decide +kernel
theorem dX7_goMinute_66 : decode cX7_goMinute 66 = .ok (.goto (-31), 3) := by decide +kernel
theorem dX7_goMinute_69 : decode cX7_goMinute 69 = .ok (.iconst 0, 1) := by decide +kernel
theorem dX7_goMinute_70 : decode cX7_goMinute 70 = .ok (.istore_n 3, 1) := by decide +kernel
theorem dX7_goMinute_71 : decode cX7_goMinute 71 = .ok (.iload_n 3, 1) := by decide +kernel
theorem dX7_goMinute_72 : decode cX7_goMinute 72 = .ok (.aload_n 0, 1) := by decide +kernel
theorem dX7_goMinute_73 : decode cX7_goMinute 73 = .ok (.getfield 54, 3) := by decide +kernel
theorem dX7_goMinute_76 : decode cX7_goMinute 76 = .ok (.if_icmp .ge 150, 3) := by decide +kernel
theorem dX7_goMinute_79 : decode cX7_goMinute 79 = .ok (.aload_n 1, 1) := by decide +kernel
theorem dX7_goMinute_80 : decode cX7_goMinute 80 = .ok (.bipush 30, 2) := by decide +kernel
theorem dX7_goMinute_82 : decode cX7_goMinute 82 = .ok (.iaload, 1) := by decide +kernel
theorem dX7_goMinute_83 : decode cX7_goMinute 83 = .ok (.iload_n 3, 1) := by decide +kernel
theorem dX7_goMinute_84 : decode cX7_goMinute 84 = .ok (.invokestatic 99, 3) := by decide +kernel
theorem dX7_goMinute_87 : decode cX7_goMinute 87 = .ok (.ifCond .eq 46, 3) := by decide +kernel
theorem dX7_goMinute_90 : decode cX7_goMinute 90 = .ok (.aload_n 1, 1) := by decide +kernel
theorem dX7_goMinute_91 : decode cX7_goMinute 91 = .ok (.bipush 10, 2) := by decide +kernel
theorem dX7_goMinute_93 : decode cX7_goMinute 93 = .ok (.iload_n 3, 1) := by decide +kernel
theorem dX7_goMinute_94 : decode cX7_goMinute 94 = .ok (.iadd, 1) := by decide +kernel
theorem dX7_goMinute_95 : decode cX7_goMinute 95 = .ok (.dup2, 1) := by decide +kernel
theorem dX7_goMinute_96 : decode cX7_goMinute 96 = .ok (.iaload, 1) := by decide +kernel
theorem dX7_goMinute_97 : decode cX7_goMinute 97 = .ok (.iconst 1, 1) := by decide +kernel
theorem dX7_goMinute_98 : decode cX7_goMinute 98 = .ok (.iadd, 1) := by decide +kernel
theorem dX7_goMinute_99 : decode cX7_goMinute 99 = .ok (.iastore, 1) := by decide +kernel
theorem dX7_goMinute_100 : decode cX7_goMinute 100 = .ok (.aload_n 1, 1) := by decide +kernel
theorem dX7_goMinute_101 : decode cX7_goMinute 101 = .ok (.iconst 5, 1) := by decide +kernel
theorem dX7_goMinute_102 : decode cX7_goMinute 102 = .ok (.iload_n 3, 1) := by decide +kernel
theorem dX7_goMinute_103 : decode cX7_goMinute 103 = .ok (.iadd, 1) := by decide +kernel
theorem dX7_goMinute_104 : decode cX7_goMinute 104 = .ok (.dup2, 1) := by decide +kernel
theorem dX7_goMinute_105 : decode cX7_goMinute 105 = .ok (.iaload, 1) := by decide +kernel
theorem dX7_goMinute_106 : decode cX7_goMinute 106 = .ok (.iconst 1, 1) := by decide +kernel
theorem dX7_goMinute_107 : decode cX7_goMinute 107 = .ok (.iadd, 1) := by decide +kernel
theorem dX7_goMinute_108 : decode cX7_goMinute 108 = .ok (.iastore, 1) := by decide +kernel
theorem dX7_goMinute_109 : decode cX7_goMinute 109 = .ok (.aload_n 1, 1) := by decide +kernel
theorem dX7_goMinute_110 : decode cX7_goMinute 110 = .ok (.iconst 0, 1) := by decide +kernel
theorem dX7_goMinute_111 : decode cX7_goMinute 111 = .ok (.iload_n 3, 1) := by decide +kernel
theorem dX7_goMinute_112 : decode cX7_goMinute 112 = .ok (.iadd, 1) := by decide +kernel
theorem dX7_goMinute_113 : decode cX7_goMinute 113 = .ok (.dup2, 1) := by decide +kernel
theorem dX7_goMinute_114 : decode cX7_goMinute 114 = .ok (.iaload, 1) := by decide +kernel
theorem dX7_goMinute_115 : decode cX7_goMinute 115 = .ok (.aload_n 1, 1) := by decide +kernel
theorem dX7_goMinute_116 : decode cX7_goMinute 116 = .ok (.iconst 0, 1) := by decide +kernel
theorem dX7_goMinute_117 : decode cX7_goMinute 117 = .ok (.iload_n 3, 1) := by decide +kernel
theorem dX7_goMinute_118 : decode cX7_goMinute 118 = .ok (.iadd, 1) := by decide +kernel
theorem dX7_goMinute_119 : decode cX7_goMinute 119 = .ok (.iaload, 1) := by decide +kernel
theorem dX7_goMinute_120 : decode cX7_goMinute 120 = .ok (.ifCond .le 7, 3) := by decide +kernel
theorem dX7_goMinute_123 : decode cX7_goMinute 123 = .ok (.iconst 1, 1) := by decide +kernel
theorem dX7_goMinute_124 : decode cX7_goMinute 124 = .ok (.goto 4, 3) := by decide +kernel
theorem dX7_goMinute_127 : decode cX7_goMinute 127 = .ok (.iconst 0, 1) := by decide +kernel
theorem dX7_goMinute_128 : decode cX7_goMinute 128 = .ok (.isub, 1) := by decide +kernel
theorem dX7_goMinute_129 : decode cX7_goMinute 129 = .ok (.iastore, 1) := by decide +kernel
theorem dX7_goMinute_130 : decode cX7_goMinute 130 = .ok (.goto 90, 3) := by decide +kernel
theorem dX7_goMinute_133 : decode cX7_goMinute 133 = .ok (.aload_n 1, 1) := by decide +kernel
theorem dX7_goMinute_134 : decode cX7_goMinute 134 = .ok (.bipush 30, 2) := by decide +kernel
theorem dX7_goMinute_136 : decode cX7_goMinute 136 = .ok (.iaload, 1) := by decide +kernel
theorem dX7_goMinute_137 : decode cX7_goMinute 137 = .ok (.ifCond .eq 83, 3) := by decide +kernel
theorem dX7_goMinute_140 : decode cX7_goMinute 140 = .ok (.aload_n 0, 1) := by decide +kernel
theorem dX7_goMinute_141 : decode cX7_goMinute 141 = .ok (.getfield 96, 3) := by decide +kernel
theorem dX7_goMinute_144 : decode cX7_goMinute 144 = .ok (.iload_n 3, 1) := by decide +kernel
theorem dX7_goMinute_145 : decode cX7_goMinute 145 = .ok (.invokestatic 99, 3) := by decide +kernel
theorem dX7_goMinute_148 : decode cX7_goMinute 148 = .ok (.ifCond .eq 72, 3) := by decide +kernel
theorem dX7_goMinute_151 : decode cX7_goMinute 151 = .ok (.aload_n 1, 1) := by decide +kernel
theorem dX7_goMinute_152 : decode cX7_goMinute 152 = .ok (.iconst 0, 1) := by decide +kernel
theorem dX7_goMinute_153 : decode cX7_goMinute 153 = .ok (.iload_n 3, 1) := by decide +kernel
theorem dX7_goMinute_154 : decode cX7_goMinute 154 = .ok (.iadd, 1) := by decide +kernel
theorem dX7_goMinute_155 : decode cX7_goMinute 155 = .ok (.dup2, 1) := by decide +kernel
theorem dX7_goMinute_156 : decode cX7_goMinute 156 = .ok (.iaload, 1) := by decide +kernel
theorem dX7_goMinute_157 : decode cX7_goMinute 157 = .ok (.aload_n 1, 1) := by decide +kernel
theorem dX7_goMinute_158 : decode cX7_goMinute 158 = .ok (.iconst 0, 1) := by decide +kernel
theorem dX7_goMinute_159 : decode cX7_goMinute 159 = .ok (.iload_n 3, 1) := by decide +kernel
theorem dX7_goMinute_160 : decode cX7_goMinute 160 = .ok (.iadd, 1) := by decide +kernel
theorem dX7_goMinute_161 : decode cX7_goMinute 161 = .ok (.iaload, 1) := by decide +kernel
theorem dX7_goMinute_162 : decode cX7_goMinute 162 = .ok (.bipush 9, 2) := by decide +kernel
theorem dX7_goMinute_164 : decode cX7_goMinute 164 = .ok (.if_icmp .ge 7, 3) := by decide +kernel
theorem dX7_goMinute_167 : decode cX7_goMinute 167 = .ok (.iconst 1, 1) := by decide +kernel
theorem dX7_goMinute_168 : decode cX7_goMinute 168 = .ok (.goto 4, 3) := by decide +kernel
theorem dX7_goMinute_171 : decode cX7_goMinute 171 = .ok (.iconst 0, 1) := by decide +kernel
theorem dX7_goMinute_172 : decode cX7_goMinute 172 = .ok (.iadd, 1) := by decide +kernel
theorem dX7_goMinute_173 : decode cX7_goMinute 173 = .ok (.iastore, 1) := by decide +kernel
theorem dX7_goMinute_174 : decode cX7_goMinute 174 = .ok (.aload_n 1, 1) := by decide +kernel
theorem dX7_goMinute_175 : decode cX7_goMinute 175 = .ok (.bipush 15, 2) := by decide +kernel
theorem dX7_goMinute_177 : decode cX7_goMinute 177 = .ok (.iload_n 3, 1) := by decide +kernel
theorem dX7_goMinute_178 : decode cX7_goMinute 178 = .ok (.iadd, 1) := by decide +kernel
theorem dX7_goMinute_179 : decode cX7_goMinute 179 = .ok (.dup2, 1) := by decide +kernel
theorem dX7_goMinute_180 : decode cX7_goMinute 180 = .ok (.iaload, 1) := by decide +kernel
theorem dX7_goMinute_181 : decode cX7_goMinute 181 = .ok (.aload_n 1, 1) := by decide +kernel
theorem dX7_goMinute_182 : decode cX7_goMinute 182 = .ok (.iconst 0, 1) := by decide +kernel
theorem dX7_goMinute_183 : decode cX7_goMinute 183 = .ok (.iload_n 3, 1) := by decide +kernel
theorem dX7_goMinute_184 : decode cX7_goMinute 184 = .ok (.iadd, 1) := by decide +kernel
theorem dX7_goMinute_185 : decode cX7_goMinute 185 = .ok (.iaload, 1) := by decide +kernel
theorem dX7_goMinute_186 : decode cX7_goMinute 186 = .ok (.iconst 5, 1) := by decide +kernel
theorem dX7_goMinute_187 : decode cX7_goMinute 187 = .ok (.if_icmp .lt 7, 3) := by decide +kernel
theorem dX7_goMinute_190 : decode cX7_goMinute 190 = .ok (.iconst 1, 1) := by decide +kernel
theorem dX7_goMinute_191 : decode cX7_goMinute 191 = .ok (.goto 4, 3) := by decide +kernel
theorem dX7_goMinute_194 : decode cX7_goMinute 194 = .ok (.iconst 0, 1) := by decide +kernel
theorem dX7_goMinute_195 : decode cX7_goMinute 195 = .ok (.iadd, 1) := by decide +kernel
theorem dX7_goMinute_196 : decode cX7_goMinute 196 = .ok (.iastore, 1) := by decide +kernel
theorem dX7_goMinute_197 : decode cX7_goMinute 197 = .ok (.aload_n 1, 1) := by decide +kernel
theorem dX7_goMinute_198 : decode cX7_goMinute 198 = .ok (.bipush 20, 2) := by decide +kernel
theorem dX7_goMinute_200 : decode cX7_goMinute 200 = .ok (.iload_n 3, 1) := by decide +kernel
theorem dX7_goMinute_201 : decode cX7_goMinute 201 = .ok (.iadd, 1) := by decide +kernel
theorem dX7_goMinute_202 : decode cX7_goMinute 202 = .ok (.dup2, 1) := by decide +kernel
theorem dX7_goMinute_203 : decode cX7_goMinute 203 = .ok (.iaload, 1) := by decide +kernel
theorem dX7_goMinute_204 : decode cX7_goMinute 204 = .ok (.aload_n 1, 1) := by decide +kernel
theorem dX7_goMinute_205 : decode cX7_goMinute 205 = .ok (.iconst 0, 1) := by decide +kernel
theorem dX7_goMinute_206 : decode cX7_goMinute 206 = .ok (.iload_n 3, 1) := by decide +kernel
theorem dX7_goMinute_207 : decode cX7_goMinute 207 = .ok (.iadd, 1) := by decide +kernel
theorem dX7_goMinute_208 : decode cX7_goMinute 208 = .ok (.iaload, 1) := by decide +kernel
theorem dX7_goMinute_209 : decode cX7_goMinute 209 = .ok (.iconst 5, 1) := by decide +kernel
theorem dX7_goMinute_210 : decode cX7_goMinute 210 = .ok (.if_icmp .lt 7, 3) := by decide +kernel
theorem dX7_goMinute_213 : decode cX7_goMinute 213 = .ok (.iconst 1, 1) := by decide +kernel
theorem dX7_goMinute_214 : decode cX7_goMinute 214 = .ok (.goto 4, 3) := by decide +kernel
theorem dX7_goMinute_217 : decode cX7_goMinute 217 = .ok (.iconst 0, 1) := by decide +kernel
theorem dX7_goMinute_218 : decode cX7_goMinute 218 = .ok (.iadd, 1) := by decide +kernel
theorem dX7_goMinute_219 : decode cX7_goMinute 219 = .ok (.iastore, 1) := by decide +kernel
theorem dX7_goMinute_220 : decode cX7_goMinute 220 = .ok (.iinc 3 1, 3) := by decide +kernel
theorem dX7_goMinute_223 : decode cX7_goMinute 223 = .ok (.goto (-152), 3) := by decide +kernel
theorem dX7_goMinute_226 : decode cX7_goMinute 226 = .ok (.aload_n 1, 1) := by decide +kernel
theorem dX7_goMinute_227 : decode cX7_goMinute 227 = .ok (.bipush 35, 2) := by decide +kernel
theorem dX7_goMinute_229 : decode cX7_goMinute 229 = .ok (.dup2, 1) := by decide +kernel
theorem dX7_goMinute_230 : decode cX7_goMinute 230 = .ok (.iaload, 1) := by decide +kernel
theorem dX7_goMinute_231 : decode cX7_goMinute 231 = .ok (.iconst 1, 1) := by decide +kernel
theorem dX7_goMinute_232 : decode cX7_goMinute 232 = .ok (.iadd, 1) := by decide +kernel
theorem dX7_goMinute_233 : decode cX7_goMinute 233 = .ok (.iastore, 1) := by decide +kernel
theorem dX7_goMinute_234 : decode cX7_goMinute 234 = .ok (.return_, 1) := by decide +kernel
theorem dX7_all_0 : decode cX7_all 0 = .ok (.iconst 1, 1) := by decide +kernel
theorem dX7_all_1 : decode cX7_all 1 = .ok (.aload_n 0, 1) := by decide +kernel
theorem dX7_all_2 : decode cX7_all 2 = .ok (.getfield 54, 3) := by decide +kernel
theorem dX7_all_5 : decode cX7_all 5 = .ok (.ishl, 1) := by decide +kernel
theorem dX7_all_6 : decode cX7_all 6 = .ok (.iconst 1, 1) := by decide +kernel
theorem dX7_all_7 : decode cX7_all 7 = .ok (.isub, 1) := by decide +kernel
theorem dX7_all_8 : decode cX7_all 8 = .ok (.ireturn, 1) := by decide +kernel
theorem dX7_sumOf_0 : decode cX7_sumOf 0 = .ok (.iconst 0, 1) := by decide +kernel
theorem dX7_sumOf_1 : decode cX7_sumOf 1 = .ok (.istore_n 3, 1) := by decide +kernel
theorem dX7_sumOf_2 : decode cX7_sumOf 2 = .ok (.iconst 0, 1) := by decide +kernel
theorem dX7_sumOf_3 : decode cX7_sumOf 3 = .ok (.istore 4, 2) := by decide +kernel
theorem dX7_sumOf_5 : decode cX7_sumOf 5 = .ok (.iload 4, 2) := by decide +kernel
theorem dX7_sumOf_7 : decode cX7_sumOf 7 = .ok (.aload_n 0, 1) := by decide +kernel
theorem dX7_sumOf_8 : decode cX7_sumOf 8 = .ok (.getfield 54, 3) := by decide +kernel
theorem dX7_sumOf_11 : decode cX7_sumOf 11 = .ok (.if_icmp .ge 18, 3) := by decide +kernel
theorem dX7_sumOf_14 : decode cX7_sumOf 14 = .ok (.iload_n 3, 1) := by decide +kernel
theorem dX7_sumOf_15 : decode cX7_sumOf 15 = .ok (.aload_n 1, 1) := by decide +kernel
theorem dX7_sumOf_16 : decode cX7_sumOf 16 = .ok (.iload_n 2, 1) := by decide +kernel
theorem dX7_sumOf_17 : decode cX7_sumOf 17 = .ok (.iload 4, 2) := by decide +kernel
theorem dX7_sumOf_19 : decode cX7_sumOf 19 = .ok (.iadd, 1) := by decide +kernel
theorem dX7_sumOf_20 : decode cX7_sumOf 20 = .ok (.iaload, 1) := by decide +kernel
theorem dX7_sumOf_21 : decode cX7_sumOf 21 = .ok (.iadd, 1) := by decide +kernel
theorem dX7_sumOf_22 : decode cX7_sumOf 22 = .ok (.istore_n 3, 1) := by decide +kernel
theorem dX7_sumOf_23 : decode cX7_sumOf 23 = .ok (.iinc 4 1, 3) := by decide +kernel
theorem dX7_sumOf_26 : decode cX7_sumOf 26 = .ok (.goto (-21), 3) := by decide +kernel
theorem dX7_sumOf_29 : decode cX7_sumOf 29 = .ok (.iload_n 3, 1) := by decide +kernel
theorem dX7_sumOf_30 : decode cX7_sumOf 30 = .ok (.ireturn, 1) := by decide +kernel
theorem dX7_about_0 : decode cX7_about 0 = .ok (.aload_n 0, 1) := by decide +kernel
theorem dX7_about_1 : decode cX7_about 1 = .ok (.iconst 0, 1) := by decide +kernel
theorem dX7_about_2 : decode cX7_about 2 = .ok (.putfield 51, 3) := by decide +kernel
theorem dX7_about_5 : decode cX7_about 5 = .ok (.aload_n 0, 1) := by decide +kernel
theorem dX7_about_6 : decode cX7_about 6 = .ok (.aload_n 0, 1) := by decide +kernel
theorem dX7_about_7 : decode cX7_about 7 = .ok (.invokevirtual 134, 3) := by decide +kernel
theorem dX7_about_10 : decode cX7_about 10 = .ok (.putfield 96, 3) := by decide +kernel
theorem dX7_about_13 : decode cX7_about 13 = .ok (.iload_n 1, 1) := by decide +kernel
theorem dX7_about_14 : decode cX7_about 14 = .ok (.tableswitch 161 0 12 #[66, 71, 79, 87, 95, 103, 112, 121, 130, 138, 146, 151, 156], 66) := by decide +kernel
theorem dX7_about_80 : decode cX7_about 80 = .ok (.aload_n 0, 1) := by decide +kernel
theorem dX7_about_81 : decode cX7_about 81 = .ok (.getfield 54, 3) := by decide +kernel
theorem dX7_about_84 : decode cX7_about 84 = .ok (.ireturn, 1) := by decide +kernel
theorem dX7_about_85 : decode cX7_about 85 = .ok (.aload_n 0, 1) := by decide +kernel
theorem dX7_about_86 : decode cX7_about 86 = .ok (.getfield 26, 3) := by decide +kernel
theorem dX7_about_89 : decode cX7_about 89 = .ok (.bipush 32, 2) := by decide +kernel
theorem dX7_about_91 : decode cX7_about 91 = .ok (.iaload, 1) := by decide +kernel
theorem dX7_about_92 : decode cX7_about 92 = .ok (.ireturn, 1) := by decide +kernel
theorem dX7_about_93 : decode cX7_about 93 = .ok (.aload_n 0, 1) := by decide +kernel
theorem dX7_about_94 : decode cX7_about 94 = .ok (.getfield 26, 3) := by decide +kernel
theorem dX7_about_97 : decode cX7_about 97 = .ok (.bipush 33, 2) := by decide +kernel
theorem dX7_about_99 : decode cX7_about 99 = .ok (.iaload, 1) := by decide +kernel
theorem dX7_about_100 : decode cX7_about 100 = .ok (.ireturn, 1) := by decide +kernel
theorem dX7_about_101 : decode cX7_about 101 = .ok (.aload_n 0, 1) := by decide +kernel
theorem dX7_about_102 : decode cX7_about 102 = .ok (.getfield 26, 3) := by decide +kernel
theorem dX7_about_105 : decode cX7_about 105 = .ok (.bipush 34, 2) := by decide +kernel
theorem dX7_about_107 : decode cX7_about 107 = .ok (.iaload, 1) := by decide +kernel
theorem dX7_about_108 : decode cX7_about 108 = .ok (.ireturn, 1) := by decide +kernel
theorem dX7_about_109 : decode cX7_about 109 = .ok (.aload_n 0, 1) := by decide +kernel
theorem dX7_about_110 : decode cX7_about 110 = .ok (.getfield 26, 3) := by decide +kernel
theorem dX7_about_113 : decode cX7_about 113 = .ok (.bipush 30, 2) := by decide +kernel
theorem dX7_about_115 : decode cX7_about 115 = .ok (.iaload, 1) := by decide +kernel
theorem dX7_about_116 : decode cX7_about 116 = .ok (.ireturn, 1) := by decide +kernel
theorem dX7_about_117 : decode cX7_about 117 = .ok (.aload_n 0, 1) := by decide +kernel
theorem dX7_about_118 : decode cX7_about 118 = .ok (.aload_n 0, 1) := by decide +kernel
theorem dX7_about_119 : decode cX7_about 119 = .ok (.getfield 26, 3) := by decide +kernel
theorem dX7_about_122 : decode cX7_about 122 = .ok (.invokevirtual 103, 3) := by decide +kernel
theorem dX7_about_125 : decode cX7_about 125 = .ok (.ireturn, 1) := by decide +kernel
theorem dX7_about_126 : decode cX7_about 126 = .ok (.aload_n 0, 1) := by decide +kernel
theorem dX7_about_127 : decode cX7_about 127 = .ok (.aload_n 0, 1) := by decide +kernel
theorem dX7_about_128 : decode cX7_about 128 = .ok (.getfield 26, 3) := by decide +kernel
theorem dX7_about_131 : decode cX7_about 131 = .ok (.invokevirtual 111, 3) := by decide +kernel
theorem dX7_about_134 : decode cX7_about 134 = .ok (.ireturn, 1) := by decide +kernel
theorem dX7_about_135 : decode cX7_about 135 = .ok (.aload_n 0, 1) := by decide +kernel
theorem dX7_about_136 : decode cX7_about 136 = .ok (.aload_n 0, 1) := by decide +kernel
theorem dX7_about_137 : decode cX7_about 137 = .ok (.getfield 26, 3) := by decide +kernel
theorem dX7_about_140 : decode cX7_about 140 = .ok (.invokevirtual 118, 3) := by decide +kernel
theorem dX7_about_143 : decode cX7_about 143 = .ok (.ireturn, 1) := by decide +kernel
theorem dX7_about_144 : decode cX7_about 144 = .ok (.aload_n 0, 1) := by decide +kernel
theorem dX7_about_145 : decode cX7_about 145 = .ok (.getfield 26, 3) := by decide +kernel
theorem dX7_about_148 : decode cX7_about 148 = .ok (.bipush 31, 2) := by decide +kernel
theorem dX7_about_150 : decode cX7_about 150 = .ok (.iaload, 1) := by decide +kernel
theorem dX7_about_151 : decode cX7_about 151 = .ok (.ireturn, 1) := by decide +kernel
theorem dX7_about_152 : decode cX7_about 152 = .ok (.aload_n 0, 1) := by decide +kernel
theorem dX7_about_153 : decode cX7_about 153 = .ok (.getfield 26, 3) := by decide +kernel
theorem dX7_about_156 : decode cX7_about 156 = .ok (.bipush 35, 2) := by decide +kernel
theorem dX7_about_158 : decode cX7_about 158 = .ok (.iaload, 1) := by decide +kernel
theorem dX7_about_159 : decode cX7_about 159 = .ok (.ireturn, 1) := by decide +kernel
theorem dX7_about_160 : decode cX7_about 160 = .ok (.aload_n 0, 1) := by decide +kernel
theorem dX7_about_161 : decode cX7_about 161 = .ok (.getfield 93, 3) := by decide +kernel
theorem dX7_about_164 : decode cX7_about 164 = .ok (.ireturn, 1) := by decide +kernel
theorem dX7_about_165 : decode cX7_about 165 = .ok (.aload_n 0, 1) := by decide +kernel
theorem dX7_about_166 : decode cX7_about 166 = .ok (.getfield 137, 3) := by decide +kernel
theorem dX7_about_169 : decode cX7_about 169 = .ok (.ireturn, 1) := by decide +kernel
theorem dX7_about_170 : decode cX7_about 170 = .ok (.aload_n 0, 1) := by decide +kernel
theorem dX7_about_171 : decode cX7_about 171 = .ok (.getfield 63, 3) := by decide +kernel
theorem dX7_about_174 : decode cX7_about 174 = .ok (.ireturn, 1) := by decide +kernel
theorem dX7_about_175 : decode cX7_about 175 = .ok (.bipush (-2), 2) := by decide +kernel
theorem dX7_about_177 : decode cX7_about 177 = .ok (.ireturn, 1) := by decide +kernel
theorem dX7_child_0 : decode cX7_child 0 = .ok (.aload_n 0, 1) := by decide +kernel
theorem dX7_child_1 : decode cX7_child 1 = .ok (.iconst 0, 1) := by decide +kernel
theorem dX7_child_2 : decode cX7_child 2 = .ok (.putfield 51, 3) := by decide +kernel
theorem dX7_child_5 : decode cX7_child 5 = .ok (.aload_n 0, 1) := by decide +kernel
theorem dX7_child_6 : decode cX7_child 6 = .ok (.iload_n 1, 1) := by decide +kernel
theorem dX7_child_7 : decode cX7_child 7 = .ok (.invokevirtual 140, 3) := by decide +kernel
theorem dX7_child_10 : decode cX7_child 10 = .ok (.ifCond .eq 5, 3) := by decide +kernel
theorem dX7_child_13 : decode cX7_child 13 = .ok (.iconst (-1), 1) := by decide +kernel
theorem dX7_child_14 : decode cX7_child 14 = .ok (.ireturn, 1) := by decide +kernel
theorem dX7_child_15 : decode cX7_child 15 = .ok (.iload_n 2, 1) := by decide +kernel
theorem dX7_child_16 : decode cX7_child 16 = .ok (.tableswitch 130 0 8 #[52, 61, 68, 75, 81, 90, 100, 110, 120], 52) := by decide +kernel
theorem dX7_child_68 : decode cX7_child 68 = .ok (.aload_n 0, 1) := by decide +kernel
theorem dX7_child_69 : decode cX7_child 69 = .ok (.getfield 26, 3) := by decide +kernel
theorem dX7_child_72 : decode cX7_child 72 = .ok (.iconst 0, 1) := by decide +kernel
theorem dX7_child_73 : decode cX7_child 73 = .ok (.iload_n 1, 1) := by decide +kernel
theorem dX7_child_74 : decode cX7_child 74 = .ok (.iadd, 1) := by decide +kernel
theorem dX7_child_75 : decode cX7_child 75 = .ok (.iaload, 1) := by decide +kernel
theorem dX7_child_76 : decode cX7_child 76 = .ok (.ireturn, 1) := by decide +kernel
theorem dX7_child_77 : decode cX7_child 77 = .ok (.aload_n 0, 1) := by decide +kernel
theorem dX7_child_78 : decode cX7_child 78 = .ok (.getfield 13, 3) := by decide +kernel
theorem dX7_child_81 : decode cX7_child 81 = .ok (.iload_n 1, 1) := by decide +kernel
theorem dX7_child_82 : decode cX7_child 82 = .ok (.iaload, 1) := by decide +kernel
theorem dX7_child_83 : decode cX7_child 83 = .ok (.ireturn, 1) := by decide +kernel
theorem dX7_child_84 : decode cX7_child 84 = .ok (.aload_n 0, 1) := by decide +kernel
theorem dX7_child_85 : decode cX7_child 85 = .ok (.getfield 16, 3) := by decide +kernel
theorem dX7_child_88 : decode cX7_child 88 = .ok (.iload_n 1, 1) := by decide +kernel
theorem dX7_child_89 : decode cX7_child 89 = .ok (.iaload, 1) := by decide +kernel
theorem dX7_child_90 : decode cX7_child 90 = .ok (.ireturn, 1) := by decide +kernel
theorem dX7_child_91 : decode cX7_child 91 = .ok (.aload_n 0, 1) := by decide +kernel
theorem dX7_child_92 : decode cX7_child 92 = .ok (.iload_n 1, 1) := by decide +kernel
theorem dX7_child_93 : decode cX7_child 93 = .ok (.invokevirtual 107, 3) := by decide +kernel
theorem dX7_child_96 : decode cX7_child 96 = .ok (.ireturn, 1) := by decide +kernel
theorem dX7_child_97 : decode cX7_child 97 = .ok (.aload_n 0, 1) := by decide +kernel
theorem dX7_child_98 : decode cX7_child 98 = .ok (.getfield 26, 3) := by decide +kernel
theorem dX7_child_101 : decode cX7_child 101 = .ok (.iconst 5, 1) := by decide +kernel
theorem dX7_child_102 : decode cX7_child 102 = .ok (.iload_n 1, 1) := by decide +kernel
theorem dX7_child_103 : decode cX7_child 103 = .ok (.iadd, 1) := by decide +kernel
theorem dX7_child_104 : decode cX7_child 104 = .ok (.iaload, 1) := by decide +kernel
theorem dX7_child_105 : decode cX7_child 105 = .ok (.ireturn, 1) := by decide +kernel
theorem dX7_child_106 : decode cX7_child 106 = .ok (.aload_n 0, 1) := by decide +kernel
theorem dX7_child_107 : decode cX7_child 107 = .ok (.getfield 26, 3) := by decide +kernel
theorem dX7_child_110 : decode cX7_child 110 = .ok (.bipush 10, 2) := by decide +kernel
theorem dX7_child_112 : decode cX7_child 112 = .ok (.iload_n 1, 1) := by decide +kernel
theorem dX7_child_113 : decode cX7_child 113 = .ok (.iadd, 1) := by decide +kernel
theorem dX7_child_114 : decode cX7_child 114 = .ok (.iaload, 1) := by decide +kernel
theorem dX7_child_115 : decode cX7_child 115 = .ok (.ireturn, 1) := by decide +kernel
theorem dX7_child_116 : decode cX7_child 116 = .ok (.aload_n 0, 1) := by decide +kernel
theorem dX7_child_117 : decode cX7_child 117 = .ok (.getfield 26, 3) := by decide +kernel
theorem dX7_child_120 : decode cX7_child 120 = .ok (.bipush 15, 2) := by decide +kernel
theorem dX7_child_122 : decode cX7_child 122 = .ok (.iload_n 1, 1) := by decide +kernel
theorem dX7_child_123 : decode cX7_child 123 = .ok (.iadd, 1) := by decide +kernel
theorem dX7_child_124 : decode cX7_child 124 = .ok (.iaload, 1) := by decide +kernel
theorem dX7_child_125 : decode cX7_child 125 = .ok (.ireturn, 1) := by decide +kernel
theorem dX7_child_126 : decode cX7_child 126 = .ok (.aload_n 0, 1) := by decide +kernel
theorem dX7_child_127 : decode cX7_child 127 = .ok (.getfield 26, 3) := by decide +kernel
theorem dX7_child_130 : decode cX7_child 130 = .ok (.bipush 20, 2) := by decide +kernel
theorem dX7_child_132 : decode cX7_child 132 = .ok (.iload_n 1, 1) := by decide +kernel
theorem dX7_child_133 : decode cX7_child 133 = .ok (.iadd, 1) := by decide +kernel
theorem dX7_child_134 : decode cX7_child 134 = .ok (.iaload, 1) := by decide +kernel
theorem dX7_child_135 : decode cX7_child 135 = .ok (.ireturn, 1) := by decide +kernel
theorem dX7_child_136 : decode cX7_child 136 = .ok (.aload_n 0, 1) := by decide +kernel
theorem dX7_child_137 : decode cX7_child 137 = .ok (.getfield 26, 3) := by decide +kernel
theorem dX7_child_140 : decode cX7_child 140 = .ok (.bipush 25, 2) := by decide +kernel
theorem dX7_child_142 : decode cX7_child 142 = .ok (.iload_n 1, 1) := by decide +kernel
theorem dX7_child_143 : decode cX7_child 143 = .ok (.iadd, 1) := by decide +kernel
theorem dX7_child_144 : decode cX7_child 144 = .ok (.iaload, 1) := by decide +kernel
theorem dX7_child_145 : decode cX7_child 145 = .ok (.ireturn, 1) := by decide +kernel
theorem dX7_child_146 : decode cX7_child 146 = .ok (.bipush (-2), 2) := by decide +kernel
theorem dX7_child_148 : decode cX7_child 148 = .ok (.ireturn, 1) := by decide +kernel
theorem dX7_note_0 : decode cX7_note 0 = .ok (.aload_n 0, 1) := by decide +kernel
theorem dX7_note_1 : decode cX7_note 1 = .ok (.getfield 93, 3) := by decide +kernel
theorem dX7_note_4 : decode cX7_note 4 = .ok (.bipush 14, 2) := by decide +kernel
theorem dX7_note_6 : decode cX7_note 6 = .ok (.if_icmp .ne 43, 3) := by decide +kernel
theorem dX7_note_9 : decode cX7_note 9 = .ok (.iconst 0, 1) := by decide +kernel
theorem dX7_note_10 : decode cX7_note 10 = .ok (.istore_n 1, 1) := by decide +kernel
theorem dX7_note_11 : decode cX7_note 11 = .ok (.iload_n 1, 1) := by decide +kernel
theorem dX7_note_12 : decode cX7_note 12 = .ok (.sipush 468, 3) := by decide +kernel
theorem dX7_note_15 : decode cX7_note 15 = .ok (.if_icmp .ge 24, 3) := by decide +kernel
theorem dX7_note_18 : decode cX7_note 18 = .ok (.aload_n 0, 1) := by decide +kernel
theorem dX7_note_19 : decode cX7_note 19 = .ok (.getfield 32, 3) := by decide +kernel
theorem dX7_note_22 : decode cX7_note 22 = .ok (.iload_n 1, 1) := by decide +kernel
theorem dX7_note_23 : decode cX7_note 23 = .ok (.aload_n 0, 1) := by decide +kernel
theorem dX7_note_24 : decode cX7_note 24 = .ok (.getfield 32, 3) := by decide +kernel
theorem dX7_note_27 : decode cX7_note 27 = .ok (.iload_n 1, 1) := by decide +kernel
theorem dX7_note_28 : decode cX7_note 28 = .ok (.bipush 36, 2) := by decide +kernel
theorem dX7_note_30 : decode cX7_note 30 = .ok (.iadd, 1) := by decide +kernel
theorem dX7_note_31 : decode cX7_note 31 = .ok (.iaload, 1) := by decide +kernel
theorem dX7_note_32 : decode cX7_note 32 = .ok (.iastore, 1) := by decide +kernel
theorem dX7_note_33 : decode cX7_note 33 = .ok (.iinc 1 1, 3) := by decide +kernel
theorem dX7_note_36 : decode cX7_note 36 = .ok (.goto (-25), 3) := by decide +kernel
theorem dX7_note_39 : decode cX7_note 39 = .ok (.aload_n 0, 1) := by decide +kernel
theorem dX7_note_40 : decode cX7_note 40 = .ok (.dup, 1) := by decide +kernel
theorem dX7_note_41 : decode cX7_note 41 = .ok (.getfield 93, 3) := by decide +kernel
theorem dX7_note_44 : decode cX7_note 44 = .ok (.iconst 1, 1) := by decide +kernel
theorem dX7_note_45 : decode cX7_note 45 = .ok (.isub, 1) := by decide +kernel
theorem dX7_note_46 : decode cX7_note 46 = .ok (.putfield 93, 3) := by decide +kernel
theorem dX7_note_49 : decode cX7_note 49 = .ok (.iconst 0, 1) := by decide +kernel
theorem dX7_note_50 : decode cX7_note 50 = .ok (.istore_n 1, 1) := by decide +kernel
theorem dX7_note_51 : decode cX7_note 51 = .ok (.iload_n 1, 1) := by decide +kernel
theorem dX7_note_52 : decode cX7_note 52 = .ok (.bipush 36, 2) := by decide +kernel
theorem dX7_note_54 : decode cX7_note 54 = .ok (.if_icmp .ge 29, 3) := by decide +kernel
theorem dX7_note_57 : decode cX7_note 57 = .ok (.aload_n 0, 1) := by decide +kernel
theorem dX7_note_58 : decode cX7_note 58 = .ok (.getfield 32, 3) := by decide +kernel
theorem dX7_note_61 : decode cX7_note 61 = .ok (.bipush 36, 2) := by decide +kernel
theorem dX7_note_63 : decode cX7_note 63 = .ok (.aload_n 0, 1) := by decide +kernel
theorem dX7_note_64 : decode cX7_note 64 = .ok (.getfield 93, 3) := by decide +kernel
theorem dX7_note_67 : decode cX7_note 67 = .ok (.imul, 1) := by decide +kernel
theorem dX7_note_68 : decode cX7_note 68 = .ok (.iload_n 1, 1) := by decide +kernel
theorem dX7_note_69 : decode cX7_note 69 = .ok (.iadd, 1) := by decide +kernel
theorem dX7_note_70 : decode cX7_note 70 = .ok (.aload_n 0, 1) := by decide +kernel
theorem dX7_note_71 : decode cX7_note 71 = .ok (.getfield 26, 3) := by decide +kernel
theorem dX7_note_74 : decode cX7_note 74 = .ok (.iload_n 1, 1) := by decide +kernel
theorem dX7_note_75 : decode cX7_note 75 = .ok (.iaload, 1) := by decide +kernel
theorem dX7_note_76 : decode cX7_note 76 = .ok (.iastore, 1) := by decide +kernel
theorem dX7_note_77 : decode cX7_note 77 = .ok (.iinc 1 1, 3) := by decide +kernel
theorem dX7_note_80 : decode cX7_note 80 = .ok (.goto (-29), 3) := by decide +kernel
theorem dX7_note_83 : decode cX7_note 83 = .ok (.aload_n 0, 1) := by decide +kernel
theorem dX7_note_84 : decode cX7_note 84 = .ok (.dup, 1) := by decide +kernel
theorem dX7_note_85 : decode cX7_note 85 = .ok (.getfield 93, 3) := by decide +kernel
theorem dX7_note_88 : decode cX7_note 88 = .ok (.iconst 1, 1) := by decide +kernel
theorem dX7_note_89 : decode cX7_note 89 = .ok (.iadd, 1) := by decide +kernel
theorem dX7_note_90 : decode cX7_note 90 = .ok (.putfield 93, 3) := by decide +kernel
theorem dX7_note_93 : decode cX7_note 93 = .ok (.return_, 1) := by decide +kernel
theorem dX7_minute_0 : decode cX7_minute 0 = .ok (.aload_n 0, 1) := by decide +kernel
theorem dX7_minute_1 : decode cX7_minute 1 = .ok (.iconst 0, 1) := by decide +kernel
theorem dX7_minute_2 : decode cX7_minute 2 = .ok (.putfield 51, 3) := by decide +kernel
theorem dX7_minute_5 : decode cX7_minute 5 = .ok (.aload_n 0, 1) := by decide +kernel
theorem dX7_minute_6 : decode cX7_minute 6 = .ok (.aload_n 0, 1) := by decide +kernel
theorem dX7_minute_7 : decode cX7_minute 7 = .ok (.invokevirtual 134, 3) := by decide +kernel
theorem dX7_minute_10 : decode cX7_minute 10 = .ok (.putfield 96, 3) := by decide +kernel
theorem dX7_minute_13 : decode cX7_minute 13 = .ok (.aload_n 0, 1) := by decide +kernel
theorem dX7_minute_14 : decode cX7_minute 14 = .ok (.invokevirtual 144, 3) := by decide +kernel
theorem dX7_minute_17 : decode cX7_minute 17 = .ok (.aload_n 0, 1) := by decide +kernel
theorem dX7_minute_18 : decode cX7_minute 18 = .ok (.aload_n 0, 1) := by decide +kernel
theorem dX7_minute_19 : decode cX7_minute 19 = .ok (.getfield 26, 3) := by decide +kernel
theorem dX7_minute_22 : decode cX7_minute 22 = .ok (.invokevirtual 147, 3) := by decide +kernel
theorem dX7_minute_25 : decode cX7_minute 25 = .ok (.aload_n 0, 1) := by decide +kernel
theorem dX7_minute_26 : decode cX7_minute 26 = .ok (.getfield 26, 3) := by decide +kernel
theorem dX7_minute_29 : decode cX7_minute 29 = .ok (.bipush 30, 2) := by decide +kernel
theorem dX7_minute_31 : decode cX7_minute 31 = .ok (.iaload, 1) := by decide +kernel
theorem dX7_minute_32 : decode cX7_minute 32 = .ok (.ireturn, 1) := by decide +kernel
theorem dX7_give_0 : decode cX7_give 0 = .ok (.aload_n 0, 1) := by decide +kernel
theorem dX7_give_1 : decode cX7_give 1 = .ok (.iconst 0, 1) := by decide +kernel
theorem dX7_give_2 : decode cX7_give 2 = .ok (.putfield 51, 3) := by decide +kernel
theorem dX7_give_5 : decode cX7_give 5 = .ok (.aload_n 0, 1) := by decide +kernel
theorem dX7_give_6 : decode cX7_give 6 = .ok (.iload_n 1, 1) := by decide +kernel
theorem dX7_give_7 : decode cX7_give 7 = .ok (.invokevirtual 140, 3) := by decide +kernel
theorem dX7_give_10 : decode cX7_give 10 = .ok (.ifCond .ne 11, 3) := by decide +kernel
theorem dX7_give_13 : decode cX7_give 13 = .ok (.aload_n 0, 1) := by decide +kernel
theorem dX7_give_14 : decode cX7_give 14 = .ok (.iload_n 2, 1) := by decide +kernel
theorem dX7_give_15 : decode cX7_give 15 = .ok (.invokevirtual 140, 3) := by decide +kernel
theorem dX7_give_18 : decode cX7_give 18 = .ok (.ifCond .eq 5, 3) := by decide +kernel
theorem dX7_give_21 : decode cX7_give 21 = .ok (.iconst (-1), 1) := by decide +kernel
theorem dX7_give_22 : decode cX7_give 22 = .ok (.ireturn, 1) := by decide +kernel
theorem dX7_give_23 : decode cX7_give 23 = .ok (.iload_n 1, 1) := by decide +kernel
theorem dX7_give_24 : decode cX7_give 24 = .ok (.iload_n 2, 1) := by decide +kernel
theorem dX7_give_25 : decode cX7_give 25 = .ok (.if_icmp .ne 6, 3) := by decide +kernel
theorem dX7_give_28 : decode cX7_give 28 = .ok (.bipush (-2), 2) := by decide +kernel
theorem dX7_give_30 : decode cX7_give 30 = .ok (.ireturn, 1) := by decide +kernel
theorem dX7_give_31 : decode cX7_give 31 = .ok (.aload_n 0, 1) := by decide +kernel
theorem dX7_give_32 : decode cX7_give 32 = .ok (.getfield 26, 3) := by decide +kernel
theorem dX7_give_35 : decode cX7_give 35 = .ok (.bipush 30, 2) := by decide +kernel
theorem dX7_give_37 : decode cX7_give 37 = .ok (.iaload, 1) := by decide +kernel
theorem dX7_give_38 : decode cX7_give 38 = .ok (.iload_n 1, 1) := by decide +kernel
theorem dX7_give_39 : decode cX7_give 39 = .ok (.invokestatic 99, 3) := by decide +kernel
theorem dX7_give_42 : decode cX7_give 42 = .ok (.ifCond .eq 17, 3) := by decide +kernel
theorem dX7_give_45 : decode cX7_give 45 = .ok (.aload_n 0, 1) := by decide +kernel
theorem dX7_give_46 : decode cX7_give 46 = .ok (.getfield 26, 3) := by decide +kernel
theorem dX7_give_49 : decode cX7_give 49 = .ok (.bipush 30, 2) := by decide +kernel
theorem dX7_give_51 : decode cX7_give 51 = .ok (.iaload, 1) := by decide +kernel
theorem dX7_give_52 : decode cX7_give 52 = .ok (.iload_n 2, 1) := by decide +kernel
theorem dX7_give_53 : decode cX7_give 53 = .ok (.invokestatic 99, 3) := by decide +kernel
theorem dX7_give_56 : decode cX7_give 56 = .ok (.ifCond .eq 6, 3) := by decide +kernel
theorem dX7_give_59 : decode cX7_give 59 = .ok (.bipush (-3), 2) := by decide +kernel
theorem dX7_give_61 : decode cX7_give 61 = .ok (.ireturn, 1) := by decide +kernel
theorem dX7_give_62 : decode cX7_give 62 = .ok (.aload_n 0, 1) := by decide +kernel
theorem dX7_give_63 : decode cX7_give 63 = .ok (.invokevirtual 144, 3) := by decide +kernel
theorem dX7_give_66 : decode cX7_give 66 = .ok (.aload_n 0, 1) := by decide +kernel
theorem dX7_give_67 : decode cX7_give 67 = .ok (.getfield 26, 3) := by decide +kernel
theorem dX7_give_70 : decode cX7_give 70 = .ok (.iconst 5, 1) := by decide +kernel
theorem dX7_give_71 : decode cX7_give 71 = .ok (.iload_n 1, 1) := by decide +kernel
theorem dX7_give_72 : decode cX7_give 72 = .ok (.iadd, 1) := by decide +kernel
theorem dX7_give_73 : decode cX7_give 73 = .ok (.iaload, 1) := by decide +kernel
theorem dX7_give_74 : decode cX7_give 74 = .ok (.istore_n 3, 1) := by decide +kernel
theorem dX7_give_75 : decode cX7_give 75 = .ok (.aload_n 0, 1) := by decide +kernel
theorem dX7_give_76 : decode cX7_give 76 = .ok (.getfield 26, 3) := by decide +kernel
theorem dX7_give_79 : decode cX7_give 79 = .ok (.iload_n 1, 1) := by decide +kernel
theorem dX7_give_80 : decode cX7_give 80 = .ok (.invokestatic 121, 3) := by decide +kernel
theorem dX7_give_83 : decode cX7_give 83 = .ok (.aload_n 0, 1) := by decide +kernel
theorem dX7_give_84 : decode cX7_give 84 = .ok (.getfield 26, 3) := by decide +kernel
theorem dX7_give_87 : decode cX7_give 87 = .ok (.iload_n 2, 1) := by decide +kernel
theorem dX7_give_88 : decode cX7_give 88 = .ok (.invokestatic 131, 3) := by decide +kernel
theorem dX7_give_91 : decode cX7_give 91 = .ok (.iload_n 3, 1) := by decide +kernel
theorem dX7_give_92 : decode cX7_give 92 = .ok (.ireturn, 1) := by decide +kernel
theorem dX7_push_0 : decode cX7_push 0 = .ok (.aload_n 0, 1) := by decide +kernel
theorem dX7_push_1 : decode cX7_push 1 = .ok (.iconst 0, 1) := by decide +kernel
theorem dX7_push_2 : decode cX7_push 2 = .ok (.putfield 51, 3) := by decide +kernel
theorem dX7_push_5 : decode cX7_push 5 = .ok (.aload_n 0, 1) := by decide +kernel
theorem dX7_push_6 : decode cX7_push 6 = .ok (.iload_n 1, 1) := by decide +kernel
theorem dX7_push_7 : decode cX7_push 7 = .ok (.invokevirtual 140, 3) := by decide +kernel
theorem dX7_push_10 : decode cX7_push 10 = .ok (.ifCond .eq 5, 3) := by decide +kernel
theorem dX7_push_13 : decode cX7_push 13 = .ok (.iconst (-1), 1) := by decide +kernel
theorem dX7_push_14 : decode cX7_push 14 = .ok (.ireturn, 1) := by decide +kernel
theorem dX7_push_15 : decode cX7_push 15 = .ok (.aload_n 0, 1) := by decide +kernel
theorem dX7_push_16 : decode cX7_push 16 = .ok (.getfield 26, 3) := by decide +kernel
theorem dX7_push_19 : decode cX7_push 19 = .ok (.bipush 30, 2) := by decide +kernel
theorem dX7_push_21 : decode cX7_push 21 = .ok (.iaload, 1) := by decide +kernel
theorem dX7_push_22 : decode cX7_push 22 = .ok (.iload_n 1, 1) := by decide +kernel
theorem dX7_push_23 : decode cX7_push 23 = .ok (.invokestatic 99, 3) := by decide +kernel
theorem dX7_push_26 : decode cX7_push 26 = .ok (.ifCond .ne 6, 3) := by decide +kernel
theorem dX7_push_29 : decode cX7_push 29 = .ok (.bipush (-3), 2) := by decide +kernel
theorem dX7_push_31 : decode cX7_push 31 = .ok (.ireturn, 1) := by decide +kernel
theorem dX7_push_32 : decode cX7_push 32 = .ok (.aload_n 0, 1) := by decide +kernel
theorem dX7_push_33 : decode cX7_push 33 = .ok (.invokevirtual 144, 3) := by decide +kernel
theorem dX7_push_36 : decode cX7_push 36 = .ok (.aload_n 0, 1) := by decide +kernel
theorem dX7_push_37 : decode cX7_push 37 = .ok (.getfield 26, 3) := by decide +kernel
theorem dX7_push_40 : decode cX7_push 40 = .ok (.iload_n 1, 1) := by decide +kernel
theorem dX7_push_41 : decode cX7_push 41 = .ok (.invokestatic 121, 3) := by decide +kernel
theorem dX7_push_44 : decode cX7_push 44 = .ok (.aload_n 0, 1) := by decide +kernel
theorem dX7_push_45 : decode cX7_push 45 = .ok (.getfield 26, 3) := by decide +kernel
theorem dX7_push_48 : decode cX7_push 48 = .ok (.bipush 25, 2) := by decide +kernel
theorem dX7_push_50 : decode cX7_push 50 = .ok (.iload_n 1, 1) := by decide +kernel
theorem dX7_push_51 : decode cX7_push 51 = .ok (.iadd, 1) := by decide +kernel
theorem dX7_push_52 : decode cX7_push 52 = .ok (.dup2, 1) := by decide +kernel
theorem dX7_push_53 : decode cX7_push 53 = .ok (.iaload, 1) := by decide +kernel
theorem dX7_push_54 : decode cX7_push 54 = .ok (.iconst 1, 1) := by decide +kernel
theorem dX7_push_55 : decode cX7_push 55 = .ok (.iadd, 1) := by decide +kernel
theorem dX7_push_56 : decode cX7_push 56 = .ok (.iastore, 1) := by decide +kernel
theorem dX7_push_57 : decode cX7_push 57 = .ok (.aload_n 0, 1) := by decide +kernel
theorem dX7_push_58 : decode cX7_push 58 = .ok (.getfield 26, 3) := by decide +kernel
theorem dX7_push_61 : decode cX7_push 61 = .ok (.bipush 25, 2) := by decide +kernel
theorem dX7_push_63 : decode cX7_push 63 = .ok (.iload_n 1, 1) := by decide +kernel
theorem dX7_push_64 : decode cX7_push 64 = .ok (.iadd, 1) := by decide +kernel
theorem dX7_push_65 : decode cX7_push 65 = .ok (.iaload, 1) := by decide +kernel
theorem dX7_push_66 : decode cX7_push 66 = .ok (.ireturn, 1) := by decide +kernel
theorem dX7_call_0 : decode cX7_call 0 = .ok (.aload_n 0, 1) := by decide +kernel
theorem dX7_call_1 : decode cX7_call 1 = .ok (.iconst 0, 1) := by decide +kernel
theorem dX7_call_2 : decode cX7_call 2 = .ok (.putfield 51, 3) := by decide +kernel
theorem dX7_call_5 : decode cX7_call 5 = .ok (.aload_n 0, 1) := by decide +kernel
theorem dX7_call_6 : decode cX7_call 6 = .ok (.iload_n 1, 1) := by decide +kernel
theorem dX7_call_7 : decode cX7_call 7 = .ok (.invokevirtual 140, 3) := by decide +kernel
theorem dX7_call_10 : decode cX7_call 10 = .ok (.ifCond .eq 5, 3) := by decide +kernel
theorem dX7_call_13 : decode cX7_call 13 = .ok (.iconst (-1), 1) := by decide +kernel
theorem dX7_call_14 : decode cX7_call 14 = .ok (.ireturn, 1) := by decide +kernel
theorem dX7_call_15 : decode cX7_call 15 = .ok (.aload_n 0, 1) := by decide +kernel
theorem dX7_call_16 : decode cX7_call 16 = .ok (.getfield 26, 3) := by decide +kernel
theorem dX7_call_19 : decode cX7_call 19 = .ok (.iconst 0, 1) := by decide +kernel
theorem dX7_call_20 : decode cX7_call 20 = .ok (.iload_n 1, 1) := by decide +kernel
theorem dX7_call_21 : decode cX7_call 21 = .ok (.iadd, 1) := by decide +kernel
theorem dX7_call_22 : decode cX7_call 22 = .ok (.iaload, 1) := by decide +kernel
theorem dX7_call_23 : decode cX7_call 23 = .ok (.istore_n 2, 1) := by decide +kernel
theorem dX7_call_24 : decode cX7_call 24 = .ok (.aload_n 0, 1) := by decide +kernel
theorem dX7_call_25 : decode cX7_call 25 = .ok (.getfield 26, 3) := by decide +kernel
theorem dX7_call_28 : decode cX7_call 28 = .ok (.bipush 30, 2) := by decide +kernel
theorem dX7_call_30 : decode cX7_call 30 = .ok (.iaload, 1) := by decide +kernel
theorem dX7_call_31 : decode cX7_call 31 = .ok (.iload_n 1, 1) := by decide +kernel
theorem dX7_call_32 : decode cX7_call 32 = .ok (.invokestatic 99, 3) := by decide +kernel
theorem dX7_call_35 : decode cX7_call 35 = .ok (.ifCond .ne 7, 3) := by decide +kernel
theorem dX7_call_38 : decode cX7_call 38 = .ok (.iload_n 2, 1) := by decide +kernel
theorem dX7_call_39 : decode cX7_call 39 = .ok (.ifCond .ne 6, 3) := by decide +kernel
theorem dX7_call_42 : decode cX7_call 42 = .ok (.bipush (-3), 2) := by decide +kernel
theorem dX7_call_44 : decode cX7_call 44 = .ok (.ireturn, 1) := by decide +kernel
theorem dX7_call_45 : decode cX7_call 45 = .ok (.aload_n 0, 1) := by decide +kernel
theorem dX7_call_46 : decode cX7_call 46 = .ok (.invokevirtual 144, 3) := by decide +kernel
theorem dX7_call_49 : decode cX7_call 49 = .ok (.aload_n 0, 1) := by decide +kernel
theorem dX7_call_50 : decode cX7_call 50 = .ok (.getfield 26, 3) := by decide +kernel
theorem dX7_call_53 : decode cX7_call 53 = .ok (.iconst 0, 1) := by decide +kernel
theorem dX7_call_54 : decode cX7_call 54 = .ok (.iload_n 1, 1) := by decide +kernel
theorem dX7_call_55 : decode cX7_call 55 = .ok (.iadd, 1) := by decide +kernel
theorem dX7_call_56 : decode cX7_call 56 = .ok (.iconst 0, 1) := by decide +kernel
theorem dX7_call_57 : decode cX7_call 57 = .ok (.iastore, 1) := by decide +kernel
theorem dX7_call_58 : decode cX7_call 58 = .ok (.iload_n 2, 1) := by decide +kernel
theorem dX7_call_59 : decode cX7_call 59 = .ok (.ireturn, 1) := by decide +kernel
theorem dX7_rule_0 : decode cX7_rule 0 = .ok (.aload_n 0, 1) := by decide +kernel
theorem dX7_rule_1 : decode cX7_rule 1 = .ok (.iconst 0, 1) := by decide +kernel
theorem dX7_rule_2 : decode cX7_rule 2 = .ok (.putfield 51, 3) := by decide +kernel
theorem dX7_rule_5 : decode cX7_rule 5 = .ok (.iload_n 1, 1) := by decide +kernel
theorem dX7_rule_6 : decode cX7_rule 6 = .ok (.i2l, 1) := by decide +kernel
theorem dX7_rule_7 : decode cX7_rule 7 = .ok (.lconst 0, 1) := by decide +kernel
theorem dX7_rule_8 : decode cX7_rule 8 = .ok (.ldc2_w 151, 3) := by decide +kernel
theorem dX7_rule_11 : decode cX7_rule 11 = .ok (.invokestatic 57, 3) := by decide +kernel
theorem dX7_rule_14 : decode cX7_rule 14 = .ok (.ifCond .eq 15, 3) := by decide +kernel
theorem dX7_rule_17 : decode cX7_rule 17 = .ok (.iload_n 2, 1) := by decide +kernel
theorem dX7_rule_18 : decode cX7_rule 18 = .ok (.i2l, 1) := by decide +kernel
theorem dX7_rule_19 : decode cX7_rule 19 = .ok (.lconst 1, 1) := by decide +kernel
theorem dX7_rule_20 : decode cX7_rule 20 = .ok (.ldc2_w 153, 3) := by decide +kernel
theorem dX7_rule_23 : decode cX7_rule 23 = .ok (.invokestatic 57, 3) := by decide +kernel
theorem dX7_rule_26 : decode cX7_rule 26 = .ok (.ifCond .ne 6, 3) := by decide +kernel
theorem dX7_rule_29 : decode cX7_rule 29 = .ok (.bipush (-2), 2) := by decide +kernel
theorem dX7_rule_31 : decode cX7_rule 31 = .ok (.ireturn, 1) := by decide +kernel
theorem dX7_rule_32 : decode cX7_rule 32 = .ok (.aload_n 0, 1) := by decide +kernel
theorem dX7_rule_33 : decode cX7_rule 33 = .ok (.getfield 26, 3) := by decide +kernel
theorem dX7_rule_36 : decode cX7_rule 36 = .ok (.bipush 32, 2) := by decide +kernel
theorem dX7_rule_38 : decode cX7_rule 38 = .ok (.iaload, 1) := by decide +kernel
theorem dX7_rule_39 : decode cX7_rule 39 = .ok (.istore_n 3, 1) := by decide +kernel
theorem dX7_rule_40 : decode cX7_rule 40 = .ok (.iload_n 3, 1) := by decide +kernel
theorem dX7_rule_41 : decode cX7_rule 41 = .ok (.iload_n 1, 1) := by decide +kernel
theorem dX7_rule_42 : decode cX7_rule 42 = .ok (.if_icmp .ne 17, 3) := by decide +kernel
theorem dX7_rule_45 : decode cX7_rule 45 = .ok (.aload_n 0, 1) := by decide +kernel
theorem dX7_rule_46 : decode cX7_rule 46 = .ok (.getfield 26, 3) := by decide +kernel
theorem dX7_rule_49 : decode cX7_rule 49 = .ok (.bipush 33, 2) := by decide +kernel
theorem dX7_rule_51 : decode cX7_rule 51 = .ok (.iaload, 1) := by decide +kernel
theorem dX7_rule_52 : decode cX7_rule 52 = .ok (.iload_n 2, 1) := by decide +kernel
theorem dX7_rule_53 : decode cX7_rule 53 = .ok (.if_icmp .ne 6, 3) := by decide +kernel
theorem dX7_rule_56 : decode cX7_rule 56 = .ok (.bipush (-3), 2) := by decide +kernel
theorem dX7_rule_58 : decode cX7_rule 58 = .ok (.ireturn, 1) := by decide +kernel
theorem dX7_rule_59 : decode cX7_rule 59 = .ok (.aload_n 0, 1) := by decide +kernel
theorem dX7_rule_60 : decode cX7_rule 60 = .ok (.invokevirtual 144, 3) := by decide +kernel
theorem dX7_rule_63 : decode cX7_rule 63 = .ok (.aload_n 0, 1) := by decide +kernel
theorem dX7_rule_64 : decode cX7_rule 64 = .ok (.getfield 26, 3) := by decide +kernel
theorem dX7_rule_67 : decode cX7_rule 67 = .ok (.bipush 32, 2) := by decide +kernel
theorem dX7_rule_69 : decode cX7_rule 69 = .ok (.iload_n 1, 1) := by decide +kernel
theorem dX7_rule_70 : decode cX7_rule 70 = .ok (.iastore, 1) := by decide +kernel
theorem dX7_rule_71 : decode cX7_rule 71 = .ok (.aload_n 0, 1) := by decide +kernel
theorem dX7_rule_72 : decode cX7_rule 72 = .ok (.getfield 26, 3) := by decide +kernel
theorem dX7_rule_75 : decode cX7_rule 75 = .ok (.bipush 33, 2) := by decide +kernel
theorem dX7_rule_77 : decode cX7_rule 77 = .ok (.iload_n 2, 1) := by decide +kernel
theorem dX7_rule_78 : decode cX7_rule 78 = .ok (.iastore, 1) := by decide +kernel
theorem dX7_rule_79 : decode cX7_rule 79 = .ok (.iload_n 3, 1) := by decide +kernel
theorem dX7_rule_80 : decode cX7_rule 80 = .ok (.ireturn, 1) := by decide +kernel
theorem dX7_put_0 : decode cX7_put 0 = .ok (.aload_n 0, 1) := by decide +kernel
theorem dX7_put_1 : decode cX7_put 1 = .ok (.iconst 0, 1) := by decide +kernel
theorem dX7_put_2 : decode cX7_put 2 = .ok (.putfield 51, 3) := by decide +kernel
theorem dX7_put_5 : decode cX7_put 5 = .ok (.aload_n 0, 1) := by decide +kernel
theorem dX7_put_6 : decode cX7_put 6 = .ok (.invokevirtual 144, 3) := by decide +kernel
theorem dX7_put_9 : decode cX7_put 9 = .ok (.aload_n 0, 1) := by decide +kernel
theorem dX7_put_10 : decode cX7_put 10 = .ok (.getfield 26, 3) := by decide +kernel
theorem dX7_put_13 : decode cX7_put 13 = .ok (.bipush 34, 2) := by decide +kernel
theorem dX7_put_15 : decode cX7_put 15 = .ok (.iconst 3, 1) := by decide +kernel
theorem dX7_put_16 : decode cX7_put 16 = .ok (.aload_n 0, 1) := by decide +kernel
theorem dX7_put_17 : decode cX7_put 17 = .ok (.getfield 26, 3) := by decide +kernel
theorem dX7_put_20 : decode cX7_put 20 = .ok (.bipush 34, 2) := by decide +kernel
theorem dX7_put_22 : decode cX7_put 22 = .ok (.iaload, 1) := by decide +kernel
theorem dX7_put_23 : decode cX7_put 23 = .ok (.isub, 1) := by decide +kernel
theorem dX7_put_24 : decode cX7_put 24 = .ok (.iastore, 1) := by decide +kernel
theorem dX7_put_25 : decode cX7_put 25 = .ok (.iconst 4, 1) := by decide +kernel
theorem dX7_put_26 : decode cX7_put 26 = .ok (.istore_n 1, 1) := by decide +kernel
theorem dX7_put_27 : decode cX7_put 27 = .ok (.iload_n 1, 1) := by decide +kernel
theorem dX7_put_28 : decode cX7_put 28 = .ok (.ifCond .lt 51, 3) := by decide +kernel
theorem dX7_put_31 : decode cX7_put 31 = .ok (.aload_n 0, 1) := by decide +kernel
theorem dX7_put_32 : decode cX7_put 32 = .ok (.getfield 26, 3) := by decide +kernel
theorem dX7_put_35 : decode cX7_put 35 = .ok (.bipush 30, 2) := by decide +kernel
theorem dX7_put_37 : decode cX7_put 37 = .ok (.iaload, 1) := by decide +kernel
theorem dX7_put_38 : decode cX7_put 38 = .ok (.iload_n 1, 1) := by decide +kernel
theorem dX7_put_39 : decode cX7_put 39 = .ok (.invokestatic 99, 3) := by decide +kernel
theorem dX7_put_42 : decode cX7_put 42 = .ok (.ifCond .eq 31, 3) := by decide +kernel
theorem dX7_put_45 : decode cX7_put 45 = .ok (.aload_n 0, 1) := by decide +kernel
theorem dX7_put_46 : decode cX7_put 46 = .ok (.getfield 26, 3) := by decide +kernel
theorem dX7_put_49 : decode cX7_put 49 = .ok (.bipush 30, 2) := by decide +kernel
theorem dX7_put_51 : decode cX7_put 51 = .ok (.iaload, 1) := by decide +kernel
theorem dX7_put_52 : decode cX7_put 52 = .ok (.invokestatic 128, 3) := by decide +kernel
theorem dX7_put_55 : decode cX7_put 55 = .ok (.aload_n 0, 1) := by decide +kernel
theorem dX7_put_56 : decode cX7_put 56 = .ok (.getfield 26, 3) := by decide +kernel
theorem dX7_put_59 : decode cX7_put 59 = .ok (.bipush 34, 2) := by decide +kernel
theorem dX7_put_61 : decode cX7_put 61 = .ok (.iaload, 1) := by decide +kernel
theorem dX7_put_62 : decode cX7_put 62 = .ok (.if_icmp .le 11, 3) := by decide +kernel
theorem dX7_put_65 : decode cX7_put 65 = .ok (.aload_n 0, 1) := by decide +kernel
theorem dX7_put_66 : decode cX7_put 66 = .ok (.getfield 26, 3) := by decide +kernel
theorem dX7_put_69 : decode cX7_put 69 = .ok (.iload_n 1, 1) := by decide +kernel
theorem dX7_put_70 : decode cX7_put 70 = .ok (.invokestatic 121, 3) := by decide +kernel
theorem dX7_put_73 : decode cX7_put 73 = .ok (.iinc 1 (-1), 3) := by decide +kernel
theorem dX7_put_76 : decode cX7_put 76 = .ok (.goto (-49), 3) := by decide +kernel
theorem dX7_put_79 : decode cX7_put 79 = .ok (.aload_n 0, 1) := by decide +kernel
theorem dX7_put_80 : decode cX7_put 80 = .ok (.getfield 26, 3) := by decide +kernel
theorem dX7_put_83 : decode cX7_put 83 = .ok (.bipush 34, 2) := by decide +kernel
theorem dX7_put_85 : decode cX7_put 85 = .ok (.iaload, 1) := by decide +kernel
theorem dX7_put_86 : decode cX7_put 86 = .ok (.ireturn, 1) := by decide +kernel
theorem dX7_undo_0 : decode cX7_undo 0 = .ok (.aload_n 0, 1) := by decide +kernel
theorem dX7_undo_1 : decode cX7_undo 1 = .ok (.iconst 0, 1) := by decide +kernel
theorem dX7_undo_2 : decode cX7_undo 2 = .ok (.putfield 51, 3) := by decide +kernel
theorem dX7_undo_5 : decode cX7_undo 5 = .ok (.aload_n 0, 1) := by decide +kernel
theorem dX7_undo_6 : decode cX7_undo 6 = .ok (.getfield 93, 3) := by decide +kernel
theorem dX7_undo_9 : decode cX7_undo 9 = .ok (.ifCond .ne 6, 3) := by decide +kernel
theorem dX7_undo_12 : decode cX7_undo 12 = .ok (.bipush (-3), 2) := by decide +kernel
theorem dX7_undo_14 : decode cX7_undo 14 = .ok (.ireturn, 1) := by decide +kernel
theorem dX7_undo_15 : decode cX7_undo 15 = .ok (.aload_n 0, 1) := by decide +kernel
theorem dX7_undo_16 : decode cX7_undo 16 = .ok (.dup, 1) := by decide +kernel
theorem dX7_undo_17 : decode cX7_undo 17 = .ok (.getfield 93, 3) := by decide +kernel
theorem dX7_undo_20 : decode cX7_undo 20 = .ok (.iconst 1, 1) := by decide +kernel
theorem dX7_undo_21 : decode cX7_undo 21 = .ok (.isub, 1) := by decide +kernel
theorem dX7_undo_22 : decode cX7_undo 22 = .ok (.putfield 93, 3) := by decide +kernel
theorem dX7_undo_25 : decode cX7_undo 25 = .ok (.iconst 0, 1) := by decide +kernel
theorem dX7_undo_26 : decode cX7_undo 26 = .ok (.istore_n 1, 1) := by decide +kernel
theorem dX7_undo_27 : decode cX7_undo 27 = .ok (.iload_n 1, 1) := by decide +kernel
theorem dX7_undo_28 : decode cX7_undo 28 = .ok (.bipush 36, 2) := by decide +kernel
theorem dX7_undo_30 : decode cX7_undo 30 = .ok (.if_icmp .ge 29, 3) := by decide +kernel
theorem dX7_undo_33 : decode cX7_undo 33 = .ok (.aload_n 0, 1) := by decide +kernel
theorem dX7_undo_34 : decode cX7_undo 34 = .ok (.getfield 26, 3) := by decide +kernel
theorem dX7_undo_37 : decode cX7_undo 37 = .ok (.iload_n 1, 1) := by decide +kernel
theorem dX7_undo_38 : decode cX7_undo 38 = .ok (.aload_n 0, 1) := by decide +kernel
theorem dX7_undo_39 : decode cX7_undo 39 = .ok (.getfield 32, 3) := by decide +kernel
theorem dX7_undo_42 : decode cX7_undo 42 = .ok (.bipush 36, 2) := by decide +kernel
theorem dX7_undo_44 : decode cX7_undo 44 = .ok (.aload_n 0, 1) := by decide +kernel
theorem dX7_undo_45 : decode cX7_undo 45 = .ok (.getfield 93, 3) := by decide +kernel
theorem dX7_undo_48 : decode cX7_undo 48 = .ok (.imul, 1) := by decide +kernel
theorem dX7_undo_49 : decode cX7_undo 49 = .ok (.iload_n 1, 1) := by decide +kernel
theorem dX7_undo_50 : decode cX7_undo 50 = .ok (.iadd, 1) := by decide +kernel
theorem dX7_undo_51 : decode cX7_undo 51 = .ok (.iaload, 1) := by decide +kernel
theorem dX7_undo_52 : decode cX7_undo 52 = .ok (.iastore, 1) := by decide +kernel
theorem dX7_undo_53 : decode cX7_undo 53 = .ok (.iinc 1 1, 3) := by decide +kernel
theorem dX7_undo_56 : decode cX7_undo 56 = .ok (.goto (-29), 3) := by decide +kernel
theorem dX7_undo_59 : decode cX7_undo 59 = .ok (.aload_n 0, 1) := by decide +kernel
theorem dX7_undo_60 : decode cX7_undo 60 = .ok (.getfield 93, 3) := by decide +kernel
theorem dX7_undo_63 : decode cX7_undo 63 = .ok (.ireturn, 1) := by decide +kernel
theorem dX7_begin_0 : decode cX7_begin 0 = .ok (.aload_n 0, 1) := by decide +kernel
theorem dX7_begin_1 : decode cX7_begin 1 = .ok (.aload_n 0, 1) := by decide +kernel
theorem dX7_begin_2 : decode cX7_begin 2 = .ok (.invokevirtual 134, 3) := by decide +kernel
theorem dX7_begin_5 : decode cX7_begin 5 = .ok (.putfield 96, 3) := by decide +kernel
theorem dX7_begin_8 : decode cX7_begin 8 = .ok (.iconst 0, 1) := by decide +kernel
theorem dX7_begin_9 : decode cX7_begin 9 = .ok (.istore_n 1, 1) := by decide +kernel
theorem dX7_begin_10 : decode cX7_begin 10 = .ok (.iload_n 1, 1) := by decide +kernel
theorem dX7_begin_11 : decode cX7_begin 11 = .ok (.bipush 36, 2) := by decide +kernel
theorem dX7_begin_13 : decode cX7_begin 13 = .ok (.if_icmp .ge 21, 3) := by decide +kernel
theorem dX7_begin_16 : decode cX7_begin 16 = .ok (.aload_n 0, 1) := by decide +kernel
theorem dX7_begin_17 : decode cX7_begin 17 = .ok (.getfield 29, 3) := by decide +kernel
theorem dX7_begin_20 : decode cX7_begin 20 = .ok (.iload_n 1, 1) := by decide +kernel
theorem dX7_begin_21 : decode cX7_begin 21 = .ok (.aload_n 0, 1) := by decide +kernel
theorem dX7_begin_22 : decode cX7_begin 22 = .ok (.getfield 26, 3) := by decide +kernel
theorem dX7_begin_25 : decode cX7_begin 25 = .ok (.iload_n 1, 1) := by decide +kernel
theorem dX7_begin_26 : decode cX7_begin 26 = .ok (.iaload, 1) := by decide +kernel
theorem dX7_begin_27 : decode cX7_begin 27 = .ok (.iastore, 1) := by decide +kernel
theorem dX7_begin_28 : decode cX7_begin 28 = .ok (.iinc 1 1, 3) := by decide +kernel
theorem dX7_begin_31 : decode cX7_begin 31 = .ok (.goto (-21), 3) := by decide +kernel
theorem dX7_begin_34 : decode cX7_begin 34 = .ok (.return_, 1) := by decide +kernel
theorem dX7_go_0 : decode cX7_go 0 = .ok (.aload_n 0, 1) := by decide +kernel
theorem dX7_go_1 : decode cX7_go 1 = .ok (.invokevirtual 155, 3) := by decide +kernel
theorem dX7_go_4 : decode cX7_go 4 = .ok (.aload_n 0, 1) := by decide +kernel
theorem dX7_go_5 : decode cX7_go 5 = .ok (.getfield 29, 3) := by decide +kernel
theorem dX7_go_8 : decode cX7_go 8 = .ok (.bipush 32, 2) := by decide +kernel
theorem dX7_go_10 : decode cX7_go 10 = .ok (.iload_n 1, 1) := by decide +kernel
theorem dX7_go_11 : decode cX7_go 11 = .ok (.iastore, 1) := by decide +kernel
theorem dX7_go_12 : decode cX7_go 12 = .ok (.aload_n 0, 1) := by decide +kernel
theorem dX7_go_13 : decode cX7_go 13 = .ok (.getfield 29, 3) := by decide +kernel
theorem dX7_go_16 : decode cX7_go 16 = .ok (.bipush 33, 2) := by decide +kernel
theorem dX7_go_18 : decode cX7_go 18 = .ok (.iload_n 2, 1) := by decide +kernel
theorem dX7_go_19 : decode cX7_go 19 = .ok (.iastore, 1) := by decide +kernel
theorem dX7_go_20 : decode cX7_go 20 = .ok (.iconst 0, 1) := by decide +kernel
theorem dX7_go_21 : decode cX7_go 21 = .ok (.istore 4, 2) := by decide +kernel
theorem dX7_go_23 : decode cX7_go 23 = .ok (.iload 4, 2) := by decide +kernel
theorem dX7_go_25 : decode cX7_go 25 = .ok (.iload_n 3, 1) := by decide +kernel
theorem dX7_go_26 : decode cX7_go 26 = .ok (.if_icmp .ge 17, 3) := by decide +kernel
theorem dX7_go_29 : decode cX7_go 29 = .ok (.aload_n 0, 1) := by decide +kernel
theorem dX7_go_30 : decode cX7_go 30 = .ok (.aload_n 0, 1) := by decide +kernel
theorem dX7_go_31 : decode cX7_go 31 = .ok (.getfield 29, 3) := by decide +kernel
theorem dX7_go_34 : decode cX7_go 34 = .ok (.invokevirtual 147, 3) := by decide +kernel
theorem dX7_go_37 : decode cX7_go 37 = .ok (.iinc 4 1, 3) := by decide +kernel
theorem dX7_go_40 : decode cX7_go 40 = .ok (.goto (-17), 3) := by decide +kernel
theorem dX7_go_43 : decode cX7_go 43 = .ok (.return_, 1) := by decide +kernel
theorem dX7_gapOf_0 : decode cX7_gapOf 0 = .ok (.iconst 0, 1) := by decide +kernel
theorem dX7_gapOf_1 : decode cX7_gapOf 1 = .ok (.istore_n 2, 1) := by decide +kernel
theorem dX7_gapOf_2 : decode cX7_gapOf 2 = .ok (.aload_n 0, 1) := by decide +kernel
theorem dX7_gapOf_3 : decode cX7_gapOf 3 = .ok (.getfield 54, 3) := by decide +kernel
theorem dX7_gapOf_6 : decode cX7_gapOf 6 = .ok (.ifCond .ne 7, 3) := by decide +kernel
theorem dX7_gapOf_9 : decode cX7_gapOf 9 = .ok (.iconst 0, 1) := by decide +kernel
theorem dX7_gapOf_10 : decode cX7_gapOf 10 = .ok (.goto 7, 3) := by decide +kernel
theorem dX7_gapOf_13 : decode cX7_gapOf 13 = .ok (.aload_n 1, 1) := by decide +kernel
theorem dX7_gapOf_14 : decode cX7_gapOf 14 = .ok (.bipush 10, 2) := by decide +kernel
theorem dX7_gapOf_16 : decode cX7_gapOf 16 = .ok (.iaload, 1) := by decide +kernel
theorem dX7_gapOf_17 : decode cX7_gapOf 17 = .ok (.istore_n 3, 1) := by decide +kernel
theorem dX7_gapOf_18 : decode cX7_gapOf 18 = .ok (.iconst 0, 1) := by decide +kernel
theorem dX7_gapOf_19 : decode cX7_gapOf 19 = .ok (.istore 4, 2) := by decide +kernel
theorem dX7_gapOf_21 : decode cX7_gapOf 21 = .ok (.iload 4, 2) := by decide +kernel
theorem dX7_gapOf_23 : decode cX7_gapOf 23 = .ok (.aload_n 0, 1) := by decide +kernel
theorem dX7_gapOf_24 : decode cX7_gapOf 24 = .ok (.getfield 54, 3) := by decide +kernel
theorem dX7_gapOf_27 : decode cX7_gapOf 27 = .ok (.if_icmp .ge 55, 3) := by decide +kernel
theorem dX7_gapOf_30 : decode cX7_gapOf 30 = .ok (.aload_n 1, 1) := by decide +kernel
theorem dX7_gapOf_31 : decode cX7_gapOf 31 = .ok (.bipush 10, 2) := by decide +kernel
theorem dX7_gapOf_33 : decode cX7_gapOf 33 = .ok (.iload 4, 2) := by decide +kernel
theorem dX7_gapOf_35 : decode cX7_gapOf 35 = .ok (.iadd, 1) := by decide +kernel
theorem dX7_gapOf_36 : decode cX7_gapOf 36 = .ok (.iaload, 1) := by decide +kernel
theorem dX7_gapOf_37 : decode cX7_gapOf 37 = .ok (.iload_n 2, 1) := by decide +kernel
theorem dX7_gapOf_38 : decode cX7_gapOf 38 = .ok (.if_icmp .le 13, 3) := by decide +kernel
theorem dX7_gapOf_41 : decode cX7_gapOf 41 = .ok (.aload_n 1, 1) := by decide +kernel
theorem dX7_gapOf_42 : decode cX7_gapOf 42 = .ok (.bipush 10, 2) := by decide +kernel
theorem dX7_gapOf_44 : decode cX7_gapOf 44 = .ok (.iload 4, 2) := by decide +kernel
theorem dX7_gapOf_46 : decode cX7_gapOf 46 = .ok (.iadd, 1) := by decide +kernel
theorem dX7_gapOf_47 : decode cX7_gapOf 47 = .ok (.iaload, 1) := by decide +kernel
theorem dX7_gapOf_48 : decode cX7_gapOf 48 = .ok (.goto 4, 3) := by decide +kernel
theorem dX7_gapOf_51 : decode cX7_gapOf 51 = .ok (.iload_n 2, 1) := by decide +kernel
theorem dX7_gapOf_52 : decode cX7_gapOf 52 = .ok (.istore_n 2, 1) := by decide +kernel
theorem dX7_gapOf_53 : decode cX7_gapOf 53 = .ok (.aload_n 1, 1) := by decide +kernel
theorem dX7_gapOf_54 : decode cX7_gapOf 54 = .ok (.bipush 10, 2) := by decide +kernel
theorem dX7_gapOf_56 : decode cX7_gapOf 56 = .ok (.iload 4, 2) := by decide +kernel
theorem dX7_gapOf_58 : decode cX7_gapOf 58 = .ok (.iadd, 1) := by decide +kernel
theorem dX7_gapOf_59 : decode cX7_gapOf 59 = .ok (.iaload, 1) := by decide +kernel
theorem dX7_gapOf_60 : decode cX7_gapOf 60 = .ok (.iload_n 3, 1) := by decide +kernel
theorem dX7_gapOf_61 : decode cX7_gapOf 61 = .ok (.if_icmp .ge 13, 3) := by decide +kernel
theorem dX7_gapOf_64 : decode cX7_gapOf 64 = .ok (.aload_n 1, 1) := by decide +kernel
theorem dX7_gapOf_65 : decode cX7_gapOf 65 = .ok (.bipush 10, 2) := by decide +kernel
theorem dX7_gapOf_67 : decode cX7_gapOf 67 = .ok (.iload 4, 2) := by decide +kernel
theorem dX7_gapOf_69 : decode cX7_gapOf 69 = .ok (.iadd, 1) := by decide +kernel
theorem dX7_gapOf_70 : decode cX7_gapOf 70 = .ok (.iaload, 1) := by decide +kernel
theorem dX7_gapOf_71 : decode cX7_gapOf 71 = .ok (.goto 4, 3) := by decide +kernel
theorem dX7_gapOf_74 : decode cX7_gapOf 74 = .ok (.iload_n 3, 1) := by decide +kernel
theorem dX7_gapOf_75 : decode cX7_gapOf 75 = .ok (.istore_n 3, 1) := by decide +kernel
theorem dX7_gapOf_76 : decode cX7_gapOf 76 = .ok (.iinc 4 1, 3) := by decide +kernel
theorem dX7_gapOf_79 : decode cX7_gapOf 79 = .ok (.goto (-58), 3) := by decide +kernel
theorem dX7_gapOf_82 : decode cX7_gapOf 82 = .ok (.iload_n 2, 1) := by decide +kernel
theorem dX7_gapOf_83 : decode cX7_gapOf 83 = .ok (.iload_n 3, 1) := by decide +kernel
theorem dX7_gapOf_84 : decode cX7_gapOf 84 = .ok (.isub, 1) := by decide +kernel
theorem dX7_gapOf_85 : decode cX7_gapOf 85 = .ok (.ireturn, 1) := by decide +kernel
theorem dX7_toldOf_0 : decode cX7_toldOf 0 = .ok (.iload_n 2, 1) := by decide +kernel
theorem dX7_toldOf_1 : decode cX7_toldOf 1 = .ok (.iconst 2, 1) := by decide +kernel
theorem dX7_toldOf_2 : decode cX7_toldOf 2 = .ok (.if_icmp .ge 22, 3) := by decide +kernel
theorem dX7_toldOf_5 : decode cX7_toldOf 5 = .ok (.iload_n 2, 1) := by decide +kernel
theorem dX7_toldOf_6 : decode cX7_toldOf 6 = .ok (.ifCond .ne 10, 3) := by decide +kernel
theorem dX7_toldOf_9 : decode cX7_toldOf 9 = .ok (.aload_n 1, 1) := by decide +kernel
theorem dX7_toldOf_10 : decode cX7_toldOf 10 = .ok (.bipush 30, 2) := by decide +kernel
theorem dX7_toldOf_12 : decode cX7_toldOf 12 = .ok (.iaload, 1) := by decide +kernel
theorem dX7_toldOf_13 : decode cX7_toldOf 13 = .ok (.goto 10, 3) := by decide +kernel
theorem dX7_toldOf_16 : decode cX7_toldOf 16 = .ok (.aload_n 0, 1) := by decide +kernel
theorem dX7_toldOf_17 : decode cX7_toldOf 17 = .ok (.aload_n 1, 1) := by decide +kernel
theorem dX7_toldOf_18 : decode cX7_toldOf 18 = .ok (.bipush 15, 2) := by decide +kernel
theorem dX7_toldOf_20 : decode cX7_toldOf 20 = .ok (.invokevirtual 158, 3) := by decide +kernel
theorem dX7_toldOf_23 : decode cX7_toldOf 23 = .ok (.ireturn, 1) := by decide +kernel
theorem dX7_toldOf_24 : decode cX7_toldOf 24 = .ok (.iload_n 2, 1) := by decide +kernel
theorem dX7_toldOf_25 : decode cX7_toldOf 25 = .ok (.iconst 2, 1) := by decide +kernel
theorem dX7_toldOf_26 : decode cX7_toldOf 26 = .ok (.if_icmp .ne 9, 3) := by decide +kernel
theorem dX7_toldOf_29 : decode cX7_toldOf 29 = .ok (.aload_n 0, 1) := by decide +kernel
theorem dX7_toldOf_30 : decode cX7_toldOf 30 = .ok (.aload_n 1, 1) := by decide +kernel
theorem dX7_toldOf_31 : decode cX7_toldOf 31 = .ok (.invokevirtual 161, 3) := by decide +kernel
theorem dX7_toldOf_34 : decode cX7_toldOf 34 = .ok (.ireturn, 1) := by decide +kernel
theorem dX7_toldOf_35 : decode cX7_toldOf 35 = .ok (.iconst 0, 1) := by decide +kernel
theorem dX7_toldOf_36 : decode cX7_toldOf 36 = .ok (.istore_n 3, 1) := by decide +kernel
theorem dX7_toldOf_37 : decode cX7_toldOf 37 = .ok (.iconst 0, 1) := by decide +kernel
theorem dX7_toldOf_38 : decode cX7_toldOf 38 = .ok (.istore 4, 2) := by decide +kernel
theorem dX7_toldOf_40 : decode cX7_toldOf 40 = .ok (.iload 4, 2) := by decide +kernel
theorem dX7_toldOf_42 : decode cX7_toldOf 42 = .ok (.aload_n 0, 1) := by decide +kernel
theorem dX7_toldOf_43 : decode cX7_toldOf 43 = .ok (.getfield 54, 3) := by decide +kernel
theorem dX7_toldOf_46 : decode cX7_toldOf 46 = .ok (.if_icmp .ge 30, 3) := by decide +kernel
theorem dX7_toldOf_49 : decode cX7_toldOf 49 = .ok (.iload_n 3, 1) := by decide +kernel
theorem dX7_toldOf_50 : decode cX7_toldOf 50 = .ok (.aload_n 1, 1) := by decide +kernel
theorem dX7_toldOf_51 : decode cX7_toldOf 51 = .ok (.bipush 10, 2) := by decide +kernel
theorem dX7_toldOf_53 : decode cX7_toldOf 53 = .ok (.iload 4, 2) := by decide +kernel
theorem dX7_toldOf_55 : decode cX7_toldOf 55 = .ok (.iadd, 1) := by decide +kernel
theorem dX7_toldOf_56 : decode cX7_toldOf 56 = .ok (.iaload, 1) := by decide +kernel
theorem dX7_toldOf_57 : decode cX7_toldOf 57 = .ok (.ifCond .ne 10, 3) := by decide +kernel
theorem dX7_toldOf_60 : decode cX7_toldOf 60 = .ok (.iconst 1, 1) := by decide +kernel
theorem dX7_toldOf_61 : decode cX7_toldOf 61 = .ok (.iload 4, 2) := by decide +kernel
theorem dX7_toldOf_63 : decode cX7_toldOf 63 = .ok (.ishl, 1) := by decide +kernel
theorem dX7_toldOf_64 : decode cX7_toldOf 64 = .ok (.goto 4, 3) := by decide +kernel
theorem dX7_toldOf_67 : decode cX7_toldOf 67 = .ok (.iconst 0, 1) := by decide +kernel
theorem dX7_toldOf_68 : decode cX7_toldOf 68 = .ok (.ior, 1) := by decide +kernel
theorem dX7_toldOf_69 : decode cX7_toldOf 69 = .ok (.istore_n 3, 1) := by decide +kernel
theorem dX7_toldOf_70 : decode cX7_toldOf 70 = .ok (.iinc 4 1, 3) := by decide +kernel
theorem dX7_toldOf_73 : decode cX7_toldOf 73 = .ok (.goto (-33), 3) := by decide +kernel
theorem dX7_toldOf_76 : decode cX7_toldOf 76 = .ok (.iload_n 3, 1) := by decide +kernel
theorem dX7_toldOf_77 : decode cX7_toldOf 77 = .ok (.ireturn, 1) := by decide +kernel
theorem dX7_ahead_0 : decode cX7_ahead 0 = .ok (.aload_n 0, 1) := by decide +kernel
theorem dX7_ahead_1 : decode cX7_ahead 1 = .ok (.iconst 0, 1) := by decide +kernel
theorem dX7_ahead_2 : decode cX7_ahead 2 = .ok (.putfield 51, 3) := by decide +kernel
theorem dX7_ahead_5 : decode cX7_ahead 5 = .ok (.iload_n 1, 1) := by decide +kernel
theorem dX7_ahead_6 : decode cX7_ahead 6 = .ok (.i2l, 1) := by decide +kernel
theorem dX7_ahead_7 : decode cX7_ahead 7 = .ok (.lconst 0, 1) := by decide +kernel
theorem dX7_ahead_8 : decode cX7_ahead 8 = .ok (.ldc2_w 164, 3) := by decide +kernel
theorem dX7_ahead_11 : decode cX7_ahead 11 = .ok (.invokestatic 57, 3) := by decide +kernel
theorem dX7_ahead_14 : decode cX7_ahead 14 = .ok (.ifCond .eq 15, 3) := by decide +kernel
theorem dX7_ahead_17 : decode cX7_ahead 17 = .ok (.iload_n 2, 1) := by decide +kernel
theorem dX7_ahead_18 : decode cX7_ahead 18 = .ok (.i2l, 1) := by decide +kernel
theorem dX7_ahead_19 : decode cX7_ahead 19 = .ok (.lconst 0, 1) := by decide +kernel
theorem dX7_ahead_20 : decode cX7_ahead 20 = .ok (.ldc2_w 151, 3) := by decide +kernel
theorem dX7_ahead_23 : decode cX7_ahead 23 = .ok (.invokestatic 57, 3) := by decide +kernel
theorem dX7_ahead_26 : decode cX7_ahead 26 = .ok (.ifCond .ne 6, 3) := by decide +kernel
theorem dX7_ahead_29 : decode cX7_ahead 29 = .ok (.bipush (-2), 2) := by decide +kernel
theorem dX7_ahead_31 : decode cX7_ahead 31 = .ok (.ireturn, 1) := by decide +kernel
theorem dX7_ahead_32 : decode cX7_ahead 32 = .ok (.aload_n 0, 1) := by decide +kernel
theorem dX7_ahead_33 : decode cX7_ahead 33 = .ok (.aload_n 0, 1) := by decide +kernel
theorem dX7_ahead_34 : decode cX7_ahead 34 = .ok (.getfield 26, 3) := by decide +kernel
theorem dX7_ahead_37 : decode cX7_ahead 37 = .ok (.bipush 32, 2) := by decide +kernel
theorem dX7_ahead_39 : decode cX7_ahead 39 = .ok (.iaload, 1) := by decide +kernel
theorem dX7_ahead_40 : decode cX7_ahead 40 = .ok (.aload_n 0, 1) := by decide +kernel
theorem dX7_ahead_41 : decode cX7_ahead 41 = .ok (.getfield 26, 3) := by decide +kernel
theorem dX7_ahead_44 : decode cX7_ahead 44 = .ok (.bipush 33, 2) := by decide +kernel
theorem dX7_ahead_46 : decode cX7_ahead 46 = .ok (.iaload, 1) := by decide +kernel
theorem dX7_ahead_47 : decode cX7_ahead 47 = .ok (.iload_n 1, 1) := by decide +kernel
theorem dX7_ahead_48 : decode cX7_ahead 48 = .ok (.invokevirtual 166, 3) := by decide +kernel
theorem dX7_ahead_51 : decode cX7_ahead 51 = .ok (.aload_n 0, 1) := by decide +kernel
theorem dX7_ahead_52 : decode cX7_ahead 52 = .ok (.aload_n 0, 1) := by decide +kernel
theorem dX7_ahead_53 : decode cX7_ahead 53 = .ok (.getfield 29, 3) := by decide +kernel
theorem dX7_ahead_56 : decode cX7_ahead 56 = .ok (.iload_n 2, 1) := by decide +kernel
theorem dX7_ahead_57 : decode cX7_ahead 57 = .ok (.invokevirtual 170, 3) := by decide +kernel
theorem dX7_ahead_60 : decode cX7_ahead 60 = .ok (.ireturn, 1) := by decide +kernel
theorem dX7_by_0 : decode cX7_by 0 = .ok (.aload_n 0, 1) := by decide +kernel
theorem dX7_by_1 : decode cX7_by 1 = .ok (.iconst 0, 1) := by decide +kernel
theorem dX7_by_2 : decode cX7_by 2 = .ok (.putfield 51, 3) := by decide +kernel
theorem dX7_by_5 : decode cX7_by 5 = .ok (.iload_n 1, 1) := by decide +kernel
theorem dX7_by_6 : decode cX7_by 6 = .ok (.i2l, 1) := by decide +kernel
theorem dX7_by_7 : decode cX7_by 7 = .ok (.lconst 0, 1) := by decide +kernel
theorem dX7_by_8 : decode cX7_by 8 = .ok (.ldc2_w 151, 3) := by decide +kernel
theorem dX7_by_11 : decode cX7_by 11 = .ok (.invokestatic 57, 3) := by decide +kernel
theorem dX7_by_14 : decode cX7_by 14 = .ok (.ifCond .eq 40, 3) := by decide +kernel
theorem dX7_by_17 : decode cX7_by 17 = .ok (.iload_n 2, 1) := by decide +kernel
theorem dX7_by_18 : decode cX7_by 18 = .ok (.i2l, 1) := by decide +kernel
theorem dX7_by_19 : decode cX7_by 19 = .ok (.lconst 1, 1) := by decide +kernel
theorem dX7_by_20 : decode cX7_by 20 = .ok (.ldc2_w 153, 3) := by decide +kernel
theorem dX7_by_23 : decode cX7_by 23 = .ok (.invokestatic 57, 3) := by decide +kernel
theorem dX7_by_26 : decode cX7_by 26 = .ok (.ifCond .eq 28, 3) := by decide +kernel
theorem dX7_by_29 : decode cX7_by 29 = .ok (.iload_n 3, 1) := by decide +kernel
theorem dX7_by_30 : decode cX7_by 30 = .ok (.i2l, 1) := by decide +kernel
theorem dX7_by_31 : decode cX7_by 31 = .ok (.lconst 0, 1) := by decide +kernel
theorem dX7_by_32 : decode cX7_by 32 = .ok (.ldc2_w 164, 3) := by decide +kernel
theorem dX7_by_35 : decode cX7_by 35 = .ok (.invokestatic 57, 3) := by decide +kernel
theorem dX7_by_38 : decode cX7_by 38 = .ok (.ifCond .eq 16, 3) := by decide +kernel
theorem dX7_by_41 : decode cX7_by 41 = .ok (.iload 4, 2) := by decide +kernel
theorem dX7_by_43 : decode cX7_by 43 = .ok (.i2l, 1) := by decide +kernel
theorem dX7_by_44 : decode cX7_by 44 = .ok (.lconst 0, 1) := by decide +kernel
theorem dX7_by_45 : decode cX7_by 45 = .ok (.ldc2_w 151, 3) := by decide +kernel
theorem dX7_by_48 : decode cX7_by 48 = .ok (.invokestatic 57, 3) := by decide +kernel
theorem dX7_by_51 : decode cX7_by 51 = .ok (.ifCond .ne 6, 3) := by decide +kernel
theorem dX7_by_54 : decode cX7_by 54 = .ok (.bipush (-2), 2) := by decide +kernel
theorem dX7_by_56 : decode cX7_by 56 = .ok (.ireturn, 1) := by decide +kernel
theorem dX7_by_57 : decode cX7_by 57 = .ok (.aload_n 0, 1) := by decide +kernel
theorem dX7_by_58 : decode cX7_by 58 = .ok (.iload_n 1, 1) := by decide +kernel
theorem dX7_by_59 : decode cX7_by 59 = .ok (.iload_n 2, 1) := by decide +kernel
theorem dX7_by_60 : decode cX7_by 60 = .ok (.iload_n 3, 1) := by decide +kernel
theorem dX7_by_61 : decode cX7_by 61 = .ok (.invokevirtual 166, 3) := by decide +kernel
theorem dX7_by_64 : decode cX7_by 64 = .ok (.aload_n 0, 1) := by decide +kernel
theorem dX7_by_65 : decode cX7_by 65 = .ok (.aload_n 0, 1) := by decide +kernel
theorem dX7_by_66 : decode cX7_by 66 = .ok (.getfield 29, 3) := by decide +kernel
theorem dX7_by_69 : decode cX7_by 69 = .ok (.iload 4, 2) := by decide +kernel
theorem dX7_by_71 : decode cX7_by 71 = .ok (.invokevirtual 170, 3) := by decide +kernel
theorem dX7_by_74 : decode cX7_by 74 = .ok (.ireturn, 1) := by decide +kernel
theorem dX7_bestLength_0 : decode cX7_bestLength 0 = .ok (.aload_n 0, 1) := by decide +kernel
theorem dX7_bestLength_1 : decode cX7_bestLength 1 = .ok (.iconst 0, 1) := by decide +kernel
theorem dX7_bestLength_2 : decode cX7_bestLength 2 = .ok (.putfield 51, 3) := by decide +kernel
theorem dX7_bestLength_5 : decode cX7_bestLength 5 = .ok (.iload_n 1, 1) := by decide +kernel
theorem dX7_bestLength_6 : decode cX7_bestLength 6 = .ok (.i2l, 1) := by decide +kernel
theorem dX7_bestLength_7 : decode cX7_bestLength 7 = .ok (.lconst 0, 1) := by decide +kernel
theorem dX7_bestLength_8 : decode cX7_bestLength 8 = .ok (.ldc2_w 151, 3) := by decide +kernel
theorem dX7_bestLength_11 : decode cX7_bestLength 11 = .ok (.invokestatic 57, 3) := by decide +kernel
theorem dX7_bestLength_14 : decode cX7_bestLength 14 = .ok (.ifCond .eq 15, 3) := by decide +kernel
theorem dX7_bestLength_17 : decode cX7_bestLength 17 = .ok (.iload_n 2, 1) := by decide +kernel
theorem dX7_bestLength_18 : decode cX7_bestLength 18 = .ok (.i2l, 1) := by decide +kernel
theorem dX7_bestLength_19 : decode cX7_bestLength 19 = .ok (.lconst 1, 1) := by decide +kernel
theorem dX7_bestLength_20 : decode cX7_bestLength 20 = .ok (.ldc2_w 173, 3) := by decide +kernel
theorem dX7_bestLength_23 : decode cX7_bestLength 23 = .ok (.invokestatic 57, 3) := by decide +kernel
theorem dX7_bestLength_26 : decode cX7_bestLength 26 = .ok (.ifCond .ne 6, 3) := by decide +kernel
theorem dX7_bestLength_29 : decode cX7_bestLength 29 = .ok (.bipush (-2), 2) := by decide +kernel
theorem dX7_bestLength_31 : decode cX7_bestLength 31 = .ok (.ireturn, 1) := by decide +kernel
theorem dX7_bestLength_32 : decode cX7_bestLength 32 = .ok (.bipush (-9), 2) := by decide +kernel
theorem dX7_bestLength_34 : decode cX7_bestLength 34 = .ok (.istore_n 3, 1) := by decide +kernel
theorem dX7_bestLength_35 : decode cX7_bestLength 35 = .ok (.bipush (-9), 2) := by decide +kernel
theorem dX7_bestLength_37 : decode cX7_bestLength 37 = .ok (.istore 4, 2) := by decide +kernel
theorem dX7_bestLength_39 : decode cX7_bestLength 39 = .ok (.iconst 1, 1) := by decide +kernel
theorem dX7_bestLength_40 : decode cX7_bestLength 40 = .ok (.istore 5, 2) := by decide +kernel
theorem dX7_bestLength_42 : decode cX7_bestLength 42 = .ok (.iload 5, 2) := by decide +kernel
theorem dX7_bestLength_44 : decode cX7_bestLength 44 = .ok (.bipush 10, 2) := by decide +kernel
theorem dX7_bestLength_46 : decode cX7_bestLength 46 = .ok (.if_icmp .ge 62, 3) := by decide +kernel
theorem dX7_bestLength_49 : decode cX7_bestLength 49 = .ok (.aload_n 0, 1) := by decide +kernel
theorem dX7_bestLength_50 : decode cX7_bestLength 50 = .ok (.iload_n 1, 1) := by decide +kernel
theorem dX7_bestLength_51 : decode cX7_bestLength 51 = .ok (.iload 5, 2) := by decide +kernel
theorem dX7_bestLength_53 : decode cX7_bestLength 53 = .ok (.iload_n 2, 1) := by decide +kernel
theorem dX7_bestLength_54 : decode cX7_bestLength 54 = .ok (.invokevirtual 166, 3) := by decide +kernel
theorem dX7_bestLength_57 : decode cX7_bestLength 57 = .ok (.aload_n 0, 1) := by decide +kernel
theorem dX7_bestLength_58 : decode cX7_bestLength 58 = .ok (.aload_n 0, 1) := by decide +kernel
theorem dX7_bestLength_59 : decode cX7_bestLength 59 = .ok (.getfield 29, 3) := by decide +kernel
theorem dX7_bestLength_62 : decode cX7_bestLength 62 = .ok (.invokevirtual 161, 3) := by decide +kernel
theorem dX7_bestLength_65 : decode cX7_bestLength 65 = .ok (.istore 6, 2) := by decide +kernel
theorem dX7_bestLength_67 : decode cX7_bestLength 67 = .ok (.iload_n 3, 1) := by decide +kernel
theorem dX7_bestLength_68 : decode cX7_bestLength 68 = .ok (.bipush (-9), 2) := by decide +kernel
theorem dX7_bestLength_70 : decode cX7_bestLength 70 = .ok (.if_icmp .eq 10, 3) := by decide +kernel
theorem dX7_bestLength_73 : decode cX7_bestLength 73 = .ok (.iload 6, 2) := by decide +kernel
theorem dX7_bestLength_75 : decode cX7_bestLength 75 = .ok (.iload 4, 2) := by decide +kernel
theorem dX7_bestLength_77 : decode cX7_bestLength 77 = .ok (.if_icmp .ge 8, 3) := by decide +kernel
theorem dX7_bestLength_80 : decode cX7_bestLength 80 = .ok (.iload 5, 2) := by decide +kernel
theorem dX7_bestLength_82 : decode cX7_bestLength 82 = .ok (.goto 4, 3) := by decide +kernel
theorem dX7_bestLength_85 : decode cX7_bestLength 85 = .ok (.iload_n 3, 1) := by decide +kernel
theorem dX7_bestLength_86 : decode cX7_bestLength 86 = .ok (.istore_n 3, 1) := by decide +kernel
theorem dX7_bestLength_87 : decode cX7_bestLength 87 = .ok (.iload_n 3, 1) := by decide +kernel
theorem dX7_bestLength_88 : decode cX7_bestLength 88 = .ok (.iload 5, 2) := by decide +kernel
theorem dX7_bestLength_90 : decode cX7_bestLength 90 = .ok (.if_icmp .ne 8, 3) := by decide +kernel
theorem dX7_bestLength_93 : decode cX7_bestLength 93 = .ok (.iload 6, 2) := by decide +kernel
theorem dX7_bestLength_95 : decode cX7_bestLength 95 = .ok (.goto 5, 3) := by decide +kernel
theorem dX7_bestLength_98 : decode cX7_bestLength 98 = .ok (.iload 4, 2) := by decide +kernel
theorem dX7_bestLength_100 : decode cX7_bestLength 100 = .ok (.istore 4, 2) := by decide +kernel
theorem dX7_bestLength_102 : decode cX7_bestLength 102 = .ok (.iinc 5 1, 3) := by decide +kernel
theorem dX7_bestLength_105 : decode cX7_bestLength 105 = .ok (.goto (-63), 3) := by decide +kernel
theorem dX7_bestLength_108 : decode cX7_bestLength 108 = .ok (.iload_n 3, 1) := by decide +kernel
theorem dX7_bestLength_109 : decode cX7_bestLength 109 = .ok (.ireturn, 1) := by decide +kernel
theorem dX7_bestRule_0 : decode cX7_bestRule 0 = .ok (.aload_n 0, 1) := by decide +kernel
theorem dX7_bestRule_1 : decode cX7_bestRule 1 = .ok (.iconst 0, 1) := by decide +kernel
theorem dX7_bestRule_2 : decode cX7_bestRule 2 = .ok (.putfield 51, 3) := by decide +kernel
theorem dX7_bestRule_5 : decode cX7_bestRule 5 = .ok (.iload_n 1, 1) := by decide +kernel
theorem dX7_bestRule_6 : decode cX7_bestRule 6 = .ok (.i2l, 1) := by decide +kernel
theorem dX7_bestRule_7 : decode cX7_bestRule 7 = .ok (.lconst 1, 1) := by decide +kernel
theorem dX7_bestRule_8 : decode cX7_bestRule 8 = .ok (.ldc2_w 173, 3) := by decide +kernel
theorem dX7_bestRule_11 : decode cX7_bestRule 11 = .ok (.invokestatic 57, 3) := by decide +kernel
theorem dX7_bestRule_14 : decode cX7_bestRule 14 = .ok (.ifCond .ne 6, 3) := by decide +kernel
theorem dX7_bestRule_17 : decode cX7_bestRule 17 = .ok (.bipush (-2), 2) := by decide +kernel
theorem dX7_bestRule_19 : decode cX7_bestRule 19 = .ok (.ireturn, 1) := by decide +kernel
theorem dX7_bestRule_20 : decode cX7_bestRule 20 = .ok (.bipush (-9), 2) := by decide +kernel
theorem dX7_bestRule_22 : decode cX7_bestRule 22 = .ok (.istore_n 2, 1) := by decide +kernel
theorem dX7_bestRule_23 : decode cX7_bestRule 23 = .ok (.bipush (-9), 2) := by decide +kernel
theorem dX7_bestRule_25 : decode cX7_bestRule 25 = .ok (.istore_n 3, 1) := by decide +kernel
theorem dX7_bestRule_26 : decode cX7_bestRule 26 = .ok (.iconst 0, 1) := by decide +kernel
theorem dX7_bestRule_27 : decode cX7_bestRule 27 = .ok (.istore 4, 2) := by decide +kernel
theorem dX7_bestRule_29 : decode cX7_bestRule 29 = .ok (.iload 4, 2) := by decide +kernel
theorem dX7_bestRule_31 : decode cX7_bestRule 31 = .ok (.iconst 4, 1) := by decide +kernel
theorem dX7_bestRule_32 : decode cX7_bestRule 32 = .ok (.if_icmp .ge 67, 3) := by decide +kernel
theorem dX7_bestRule_35 : decode cX7_bestRule 35 = .ok (.aload_n 0, 1) := by decide +kernel
theorem dX7_bestRule_36 : decode cX7_bestRule 36 = .ok (.iload 4, 2) := by decide +kernel
theorem dX7_bestRule_38 : decode cX7_bestRule 38 = .ok (.aload_n 0, 1) := by decide +kernel
theorem dX7_bestRule_39 : decode cX7_bestRule 39 = .ok (.getfield 26, 3) := by decide +kernel
theorem dX7_bestRule_42 : decode cX7_bestRule 42 = .ok (.bipush 33, 2) := by decide +kernel
theorem dX7_bestRule_44 : decode cX7_bestRule 44 = .ok (.iaload, 1) := by decide +kernel
theorem dX7_bestRule_45 : decode cX7_bestRule 45 = .ok (.iload_n 1, 1) := by decide +kernel
theorem dX7_bestRule_46 : decode cX7_bestRule 46 = .ok (.invokevirtual 166, 3) := by decide +kernel
theorem dX7_bestRule_49 : decode cX7_bestRule 49 = .ok (.aload_n 0, 1) := by decide +kernel
theorem dX7_bestRule_50 : decode cX7_bestRule 50 = .ok (.aload_n 0, 1) := by decide +kernel
theorem dX7_bestRule_51 : decode cX7_bestRule 51 = .ok (.getfield 29, 3) := by decide +kernel
theorem dX7_bestRule_54 : decode cX7_bestRule 54 = .ok (.bipush 15, 2) := by decide +kernel
theorem dX7_bestRule_56 : decode cX7_bestRule 56 = .ok (.invokevirtual 158, 3) := by decide +kernel
theorem dX7_bestRule_59 : decode cX7_bestRule 59 = .ok (.istore 5, 2) := by decide +kernel
theorem dX7_bestRule_61 : decode cX7_bestRule 61 = .ok (.iload_n 2, 1) := by decide +kernel
theorem dX7_bestRule_62 : decode cX7_bestRule 62 = .ok (.bipush (-9), 2) := by decide +kernel
theorem dX7_bestRule_64 : decode cX7_bestRule 64 = .ok (.if_icmp .eq 9, 3) := by decide +kernel
theorem dX7_bestRule_67 : decode cX7_bestRule 67 = .ok (.iload 5, 2) := by decide +kernel
theorem dX7_bestRule_69 : decode cX7_bestRule 69 = .ok (.iload_n 3, 1) := by decide +kernel
theorem dX7_bestRule_70 : decode cX7_bestRule 70 = .ok (.if_icmp .ge 8, 3) := by decide +kernel
theorem dX7_bestRule_73 : decode cX7_bestRule 73 = .ok (.iload 4, 2) := by decide +kernel
theorem dX7_bestRule_75 : decode cX7_bestRule 75 = .ok (.goto 4, 3) := by decide +kernel
theorem dX7_bestRule_78 : decode cX7_bestRule 78 = .ok (.iload_n 2, 1) := by decide +kernel
theorem dX7_bestRule_79 : decode cX7_bestRule 79 = .ok (.istore_n 2, 1) := by decide +kernel
theorem dX7_bestRule_80 : decode cX7_bestRule 80 = .ok (.iload_n 2, 1) := by decide +kernel
theorem dX7_bestRule_81 : decode cX7_bestRule 81 = .ok (.iload 4, 2) := by decide +kernel
theorem dX7_bestRule_83 : decode cX7_bestRule 83 = .ok (.if_icmp .ne 8, 3) := by decide +kernel
theorem dX7_bestRule_86 : decode cX7_bestRule 86 = .ok (.iload 5, 2) := by decide +kernel
theorem dX7_bestRule_88 : decode cX7_bestRule 88 = .ok (.goto 4, 3) := by decide +kernel
theorem dX7_bestRule_91 : decode cX7_bestRule 91 = .ok (.iload_n 3, 1) := by decide +kernel
theorem dX7_bestRule_92 : decode cX7_bestRule 92 = .ok (.istore_n 3, 1) := by decide +kernel
theorem dX7_bestRule_93 : decode cX7_bestRule 93 = .ok (.iinc 4 1, 3) := by decide +kernel
theorem dX7_bestRule_96 : decode cX7_bestRule 96 = .ok (.goto (-67), 3) := by decide +kernel
theorem dX7_bestRule_99 : decode cX7_bestRule 99 = .ok (.iload_n 2, 1) := by decide +kernel
theorem dX7_bestRule_100 : decode cX7_bestRule 100 = .ok (.ireturn, 1) := by decide +kernel
theorem dX7_first_0 : decode cX7_first 0 = .ok (.aload_n 0, 1) := by decide +kernel
theorem dX7_first_1 : decode cX7_first 1 = .ok (.iconst 0, 1) := by decide +kernel
theorem dX7_first_2 : decode cX7_first 2 = .ok (.putfield 51, 3) := by decide +kernel
theorem dX7_first_5 : decode cX7_first 5 = .ok (.aload_n 0, 1) := by decide +kernel
theorem dX7_first_6 : decode cX7_first 6 = .ok (.iload_n 1, 1) := by decide +kernel
theorem dX7_first_7 : decode cX7_first 7 = .ok (.invokevirtual 140, 3) := by decide +kernel
theorem dX7_first_10 : decode cX7_first 10 = .ok (.ifCond .eq 5, 3) := by decide +kernel
theorem dX7_first_13 : decode cX7_first 13 = .ok (.iconst (-1), 1) := by decide +kernel
theorem dX7_first_14 : decode cX7_first 14 = .ok (.ireturn, 1) := by decide +kernel
theorem dX7_first_15 : decode cX7_first 15 = .ok (.aload_n 0, 1) := by decide +kernel
theorem dX7_first_16 : decode cX7_first 16 = .ok (.invokevirtual 155, 3) := by decide +kernel
theorem dX7_first_19 : decode cX7_first 19 = .ok (.iconst 0, 1) := by decide +kernel
theorem dX7_first_20 : decode cX7_first 20 = .ok (.istore_n 2, 1) := by decide +kernel
theorem dX7_first_21 : decode cX7_first 21 = .ok (.iload_n 2, 1) := by decide +kernel
theorem dX7_first_22 : decode cX7_first 22 = .ok (.bipush 60, 2) := by decide +kernel
theorem dX7_first_24 : decode cX7_first 24 = .ok (.if_icmp .gt 33, 3) := by decide +kernel
theorem dX7_first_27 : decode cX7_first 27 = .ok (.aload_n 0, 1) := by decide +kernel
theorem dX7_first_28 : decode cX7_first 28 = .ok (.getfield 29, 3) := by decide +kernel
theorem dX7_first_31 : decode cX7_first 31 = .ok (.bipush 30, 2) := by decide +kernel
theorem dX7_first_33 : decode cX7_first 33 = .ok (.iaload, 1) := by decide +kernel
theorem dX7_first_34 : decode cX7_first 34 = .ok (.iload_n 1, 1) := by decide +kernel
theorem dX7_first_35 : decode cX7_first 35 = .ok (.invokestatic 99, 3) := by decide +kernel
theorem dX7_first_38 : decode cX7_first 38 = .ok (.ifCond .eq 5, 3) := by decide +kernel
theorem dX7_first_41 : decode cX7_first 41 = .ok (.iload_n 2, 1) := by decide +kernel
theorem dX7_first_42 : decode cX7_first 42 = .ok (.ireturn, 1) := by decide +kernel
theorem dX7_first_43 : decode cX7_first 43 = .ok (.aload_n 0, 1) := by decide +kernel
theorem dX7_first_44 : decode cX7_first 44 = .ok (.aload_n 0, 1) := by decide +kernel
theorem dX7_first_45 : decode cX7_first 45 = .ok (.getfield 29, 3) := by decide +kernel
theorem dX7_first_48 : decode cX7_first 48 = .ok (.invokevirtual 147, 3) := by decide +kernel
theorem dX7_first_51 : decode cX7_first 51 = .ok (.iinc 2 1, 3) := by decide +kernel
theorem dX7_first_54 : decode cX7_first 54 = .ok (.goto (-33), 3) := by decide +kernel
theorem dX7_first_57 : decode cX7_first 57 = .ok (.bipush (-9), 2) := by decide +kernel
theorem dX7_first_59 : decode cX7_first 59 = .ok (.ireturn, 1) := by decide +kernel
theorem dX7_second_0 : decode cX7_second 0 = .ok (.aload_n 0, 1) := by decide +kernel
theorem dX7_second_1 : decode cX7_second 1 = .ok (.iconst 0, 1) := by decide +kernel
theorem dX7_second_2 : decode cX7_second 2 = .ok (.putfield 51, 3) := by decide +kernel
theorem dX7_second_5 : decode cX7_second 5 = .ok (.iload_n 1, 1) := by decide +kernel
theorem dX7_second_6 : decode cX7_second 6 = .ok (.i2l, 1) := by decide +kernel
theorem dX7_second_7 : decode cX7_second 7 = .ok (.lconst 1, 1) := by decide +kernel
theorem dX7_second_8 : decode cX7_second 8 = .ok (.ldc2_w 173, 3) := by decide +kernel
theorem dX7_second_11 : decode cX7_second 11 = .ok (.invokestatic 57, 3) := by decide +kernel
theorem dX7_second_14 : decode cX7_second 14 = .ok (.ifCond .ne 6, 3) := by decide +kernel
theorem dX7_second_17 : decode cX7_second 17 = .ok (.bipush (-2), 2) := by decide +kernel
theorem dX7_second_19 : decode cX7_second 19 = .ok (.ireturn, 1) := by decide +kernel
theorem dX7_second_20 : decode cX7_second 20 = .ok (.aload_n 0, 1) := by decide +kernel
theorem dX7_second_21 : decode cX7_second 21 = .ok (.aload_n 0, 1) := by decide +kernel
theorem dX7_second_22 : decode cX7_second 22 = .ok (.getfield 26, 3) := by decide +kernel
theorem dX7_second_25 : decode cX7_second 25 = .ok (.bipush 32, 2) := by decide +kernel
theorem dX7_second_27 : decode cX7_second 27 = .ok (.iaload, 1) := by decide +kernel
theorem dX7_second_28 : decode cX7_second 28 = .ok (.aload_n 0, 1) := by decide +kernel
theorem dX7_second_29 : decode cX7_second 29 = .ok (.getfield 26, 3) := by decide +kernel
theorem dX7_second_32 : decode cX7_second 32 = .ok (.bipush 33, 2) := by decide +kernel
theorem dX7_second_34 : decode cX7_second 34 = .ok (.iaload, 1) := by decide +kernel
theorem dX7_second_35 : decode cX7_second 35 = .ok (.iload_n 1, 1) := by decide +kernel
theorem dX7_second_36 : decode cX7_second 36 = .ok (.invokevirtual 166, 3) := by decide +kernel
theorem dX7_second_39 : decode cX7_second 39 = .ok (.aload_n 0, 1) := by decide +kernel
theorem dX7_second_40 : decode cX7_second 40 = .ok (.aload_n 0, 1) := by decide +kernel
theorem dX7_second_41 : decode cX7_second 41 = .ok (.getfield 29, 3) := by decide +kernel
theorem dX7_second_44 : decode cX7_second 44 = .ok (.bipush 15, 2) := by decide +kernel
theorem dX7_second_46 : decode cX7_second 46 = .ok (.invokevirtual 158, 3) := by decide +kernel
theorem dX7_second_49 : decode cX7_second 49 = .ok (.istore_n 2, 1) := by decide +kernel
theorem dX7_second_50 : decode cX7_second 50 = .ok (.aload_n 0, 1) := by decide +kernel
theorem dX7_second_51 : decode cX7_second 51 = .ok (.invokevirtual 155, 3) := by decide +kernel
theorem dX7_second_54 : decode cX7_second 54 = .ok (.aload_n 0, 1) := by decide +kernel
theorem dX7_second_55 : decode cX7_second 55 = .ok (.getfield 29, 3) := by decide +kernel
theorem dX7_second_58 : decode cX7_second 58 = .ok (.bipush 34, 2) := by decide +kernel
theorem dX7_second_60 : decode cX7_second 60 = .ok (.iconst 2, 1) := by decide +kernel
theorem dX7_second_61 : decode cX7_second 61 = .ok (.iastore, 1) := by decide +kernel
theorem dX7_second_62 : decode cX7_second 62 = .ok (.iconst 0, 1) := by decide +kernel
theorem dX7_second_63 : decode cX7_second 63 = .ok (.istore_n 3, 1) := by decide +kernel
theorem dX7_second_64 : decode cX7_second 64 = .ok (.iload_n 3, 1) := by decide +kernel
theorem dX7_second_65 : decode cX7_second 65 = .ok (.iload_n 1, 1) := by decide +kernel
theorem dX7_second_66 : decode cX7_second 66 = .ok (.if_icmp .ge 17, 3) := by decide +kernel
theorem dX7_second_69 : decode cX7_second 69 = .ok (.aload_n 0, 1) := by decide +kernel
theorem dX7_second_70 : decode cX7_second 70 = .ok (.aload_n 0, 1) := by decide +kernel
theorem dX7_second_71 : decode cX7_second 71 = .ok (.getfield 29, 3) := by decide +kernel
theorem dX7_second_74 : decode cX7_second 74 = .ok (.invokevirtual 147, 3) := by decide +kernel
theorem dX7_second_77 : decode cX7_second 77 = .ok (.iinc 3 1, 3) := by decide +kernel
theorem dX7_second_80 : decode cX7_second 80 = .ok (.goto (-16), 3) := by decide +kernel
theorem dX7_second_83 : decode cX7_second 83 = .ok (.iload_n 2, 1) := by decide +kernel
theorem dX7_second_84 : decode cX7_second 84 = .ok (.aload_n 0, 1) := by decide +kernel
theorem dX7_second_85 : decode cX7_second 85 = .ok (.aload_n 0, 1) := by decide +kernel
theorem dX7_second_86 : decode cX7_second 86 = .ok (.getfield 29, 3) := by decide +kernel
theorem dX7_second_89 : decode cX7_second 89 = .ok (.bipush 15, 2) := by decide +kernel
theorem dX7_second_91 : decode cX7_second 91 = .ok (.invokevirtual 158, 3) := by decide +kernel
theorem dX7_second_94 : decode cX7_second 94 = .ok (.isub, 1) := by decide +kernel
theorem dX7_second_95 : decode cX7_second 95 = .ok (.ireturn, 1) := by decide +kernel
theorem dX7_power_0 : decode cX7_power 0 = .ok (.iconst 1, 1) := by decide +kernel
theorem dX7_power_1 : decode cX7_power 1 = .ok (.istore_n 2, 1) := by decide +kernel
theorem dX7_power_2 : decode cX7_power 2 = .ok (.iconst 0, 1) := by decide +kernel
theorem dX7_power_3 : decode cX7_power 3 = .ok (.istore_n 3, 1) := by decide +kernel
theorem dX7_power_4 : decode cX7_power 4 = .ok (.iload_n 3, 1) := by decide +kernel
theorem dX7_power_5 : decode cX7_power 5 = .ok (.iload_n 1, 1) := by decide +kernel
theorem dX7_power_6 : decode cX7_power 6 = .ok (.if_icmp .ge 13, 3) := by decide +kernel
theorem dX7_power_9 : decode cX7_power 9 = .ok (.iload_n 2, 1) := by decide +kernel
theorem dX7_power_10 : decode cX7_power 10 = .ok (.iload_n 0, 1) := by decide +kernel
theorem dX7_power_11 : decode cX7_power 11 = .ok (.imul, 1) := by decide +kernel
theorem dX7_power_12 : decode cX7_power 12 = .ok (.istore_n 2, 1) := by decide +kernel
theorem dX7_power_13 : decode cX7_power 13 = .ok (.iinc 3 1, 3) := by decide +kernel
theorem dX7_power_16 : decode cX7_power 16 = .ok (.goto (-12), 3) := by decide +kernel
theorem dX7_power_19 : decode cX7_power 19 = .ok (.iload_n 2, 1) := by decide +kernel
theorem dX7_power_20 : decode cX7_power 20 = .ok (.ireturn, 1) := by decide +kernel
theorem dX7_does_0 : decode cX7_does 0 = .ok (.iload_n 1, 1) := by decide +kernel
theorem dX7_does_1 : decode cX7_does 1 = .ok (.bipush 10, 2) := by decide +kernel
theorem dX7_does_3 : decode cX7_does 3 = .ok (.idiv, 1) := by decide +kernel
theorem dX7_does_4 : decode cX7_does 4 = .ok (.istore_n 2, 1) := by decide +kernel
theorem dX7_does_5 : decode cX7_does 5 = .ok (.iload_n 1, 1) := by decide +kernel
theorem dX7_does_6 : decode cX7_does 6 = .ok (.bipush 10, 2) := by decide +kernel
theorem dX7_does_8 : decode cX7_does 8 = .ok (.irem, 1) := by decide +kernel
theorem dX7_does_9 : decode cX7_does 9 = .ok (.istore_n 3, 1) := by decide +kernel
theorem dX7_does_10 : decode cX7_does 10 = .ok (.iload_n 1, 1) := by decide +kernel
theorem dX7_does_11 : decode cX7_does 11 = .ok (.ifCond .ne 13, 3) := by decide +kernel
theorem dX7_does_14 : decode cX7_does 14 = .ok (.aload_n 0, 1) := by decide +kernel
theorem dX7_does_15 : decode cX7_does 15 = .ok (.aload_n 0, 1) := by decide +kernel
theorem dX7_does_16 : decode cX7_does 16 = .ok (.getfield 29, 3) := by decide +kernel
theorem dX7_does_19 : decode cX7_does 19 = .ok (.invokevirtual 147, 3) := by decide +kernel
theorem dX7_does_22 : decode cX7_does 22 = .ok (.iconst 1, 1) := by decide +kernel
theorem dX7_does_23 : decode cX7_does 23 = .ok (.ireturn, 1) := by decide +kernel
theorem dX7_does_24 : decode cX7_does 24 = .ok (.iload_n 2, 1) := by decide +kernel
theorem dX7_does_25 : decode cX7_does 25 = .ok (.iconst 3, 1) := by decide +kernel
theorem dX7_does_26 : decode cX7_does 26 = .ok (.if_icmp .ne 52, 3) := by decide +kernel
theorem dX7_does_29 : decode cX7_does 29 = .ok (.iload_n 3, 1) := by decide +kernel
theorem dX7_does_30 : decode cX7_does 30 = .ok (.iconst 4, 1) := by decide +kernel
theorem dX7_does_31 : decode cX7_does 31 = .ok (.if_icmp .ge 18, 3) := by decide +kernel
theorem dX7_does_34 : decode cX7_does 34 = .ok (.aload_n 0, 1) := by decide +kernel
theorem dX7_does_35 : decode cX7_does 35 = .ok (.getfield 29, 3) := by decide +kernel
theorem dX7_does_38 : decode cX7_does 38 = .ok (.bipush 32, 2) := by decide +kernel
theorem dX7_does_40 : decode cX7_does 40 = .ok (.iaload, 1) := by decide +kernel
theorem dX7_does_41 : decode cX7_does 41 = .ok (.iload_n 3, 1) := by decide +kernel
theorem dX7_does_42 : decode cX7_does 42 = .ok (.if_icmp .eq 7, 3) := by decide +kernel
theorem dX7_does_45 : decode cX7_does 45 = .ok (.iconst 1, 1) := by decide +kernel
theorem dX7_does_46 : decode cX7_does 46 = .ok (.goto 4, 3) := by decide +kernel
theorem dX7_does_49 : decode cX7_does 49 = .ok (.iconst 0, 1) := by decide +kernel
theorem dX7_does_50 : decode cX7_does 50 = .ok (.istore 4, 2) := by decide +kernel
theorem dX7_does_52 : decode cX7_does 52 = .ok (.aload_n 0, 1) := by decide +kernel
theorem dX7_does_53 : decode cX7_does 53 = .ok (.getfield 29, 3) := by decide +kernel
theorem dX7_does_56 : decode cX7_does 56 = .ok (.bipush 32, 2) := by decide +kernel
theorem dX7_does_58 : decode cX7_does 58 = .ok (.iload 4, 2) := by decide +kernel
theorem dX7_does_60 : decode cX7_does 60 = .ok (.ifCond .eq 7, 3) := by decide +kernel
theorem dX7_does_63 : decode cX7_does 63 = .ok (.iload_n 3, 1) := by decide +kernel
theorem dX7_does_64 : decode cX7_does 64 = .ok (.goto 10, 3) := by decide +kernel
theorem dX7_does_67 : decode cX7_does 67 = .ok (.aload_n 0, 1) := by decide +kernel
theorem dX7_does_68 : decode cX7_does 68 = .ok (.getfield 29, 3) := by decide +kernel
theorem dX7_does_71 : decode cX7_does 71 = .ok (.bipush 32, 2) := by decide +kernel
theorem dX7_does_73 : decode cX7_does 73 = .ok (.iaload, 1) := by decide +kernel
theorem dX7_does_74 : decode cX7_does 74 = .ok (.iastore, 1) := by decide +kernel
theorem dX7_does_75 : decode cX7_does 75 = .ok (.iload 4, 2) := by decide +kernel
theorem dX7_does_77 : decode cX7_does 77 = .ok (.ireturn, 1) := by decide +kernel
theorem dX7_does_78 : decode cX7_does 78 = .ok (.aload_n 0, 1) := by decide +kernel
theorem dX7_does_79 : decode cX7_does 79 = .ok (.iload_n 3, 1) := by decide +kernel
theorem dX7_does_80 : decode cX7_does 80 = .ok (.invokevirtual 140, 3) := by decide +kernel
theorem dX7_does_83 : decode cX7_does 83 = .ok (.ifCond .eq 5, 3) := by decide +kernel
theorem dX7_does_86 : decode cX7_does 86 = .ok (.iconst 0, 1) := by decide +kernel
theorem dX7_does_87 : decode cX7_does 87 = .ok (.ireturn, 1) := by decide +kernel
theorem dX7_does_88 : decode cX7_does 88 = .ok (.iload_n 2, 1) := by decide +kernel
theorem dX7_does_89 : decode cX7_does 89 = .ok (.iconst 1, 1) := by decide +kernel
theorem dX7_does_90 : decode cX7_does 90 = .ok (.if_icmp .ne 40, 3) := by decide +kernel
theorem dX7_does_93 : decode cX7_does 93 = .ok (.aload_n 0, 1) := by decide +kernel
theorem dX7_does_94 : decode cX7_does 94 = .ok (.getfield 29, 3) := by decide +kernel
theorem dX7_does_97 : decode cX7_does 97 = .ok (.bipush 30, 2) := by decide +kernel
theorem dX7_does_99 : decode cX7_does 99 = .ok (.iaload, 1) := by decide +kernel
theorem dX7_does_100 : decode cX7_does 100 = .ok (.iload_n 3, 1) := by decide +kernel
theorem dX7_does_101 : decode cX7_does 101 = .ok (.invokestatic 99, 3) := by decide +kernel
theorem dX7_does_104 : decode cX7_does 104 = .ok (.ifCond .eq 26, 3) := by decide +kernel
theorem dX7_does_107 : decode cX7_does 107 = .ok (.aload_n 0, 1) := by decide +kernel
theorem dX7_does_108 : decode cX7_does 108 = .ok (.getfield 29, 3) := by decide +kernel
theorem dX7_does_111 : decode cX7_does 111 = .ok (.iload_n 3, 1) := by decide +kernel
theorem dX7_does_112 : decode cX7_does 112 = .ok (.invokestatic 121, 3) := by decide +kernel
theorem dX7_does_115 : decode cX7_does 115 = .ok (.aload_n 0, 1) := by decide +kernel
theorem dX7_does_116 : decode cX7_does 116 = .ok (.getfield 29, 3) := by decide +kernel
theorem dX7_does_119 : decode cX7_does 119 = .ok (.bipush 25, 2) := by decide +kernel
theorem dX7_does_121 : decode cX7_does 121 = .ok (.iload_n 3, 1) := by decide +kernel
theorem dX7_does_122 : decode cX7_does 122 = .ok (.iadd, 1) := by decide +kernel
theorem dX7_does_123 : decode cX7_does 123 = .ok (.dup2, 1) := by decide +kernel
theorem dX7_does_124 : decode cX7_does 124 = .ok (.iaload, 1) := by decide +kernel
theorem dX7_does_125 : decode cX7_does 125 = .ok (.iconst 1, 1) := by decide +kernel
theorem dX7_does_126 : decode cX7_does 126 = .ok (.iadd, 1) := by decide +kernel
theorem dX7_does_127 : decode cX7_does 127 = .ok (.iastore, 1) := by decide +kernel
theorem dX7_does_128 : decode cX7_does 128 = .ok (.iconst 1, 1) := by decide +kernel
theorem dX7_does_129 : decode cX7_does 129 = .ok (.ireturn, 1) := by decide +kernel
theorem dX7_does_130 : decode cX7_does 130 = .ok (.iload_n 2, 1) := by decide +kernel
theorem dX7_does_131 : decode cX7_does 131 = .ok (.iconst 2, 1) := by decide +kernel
theorem dX7_does_132 : decode cX7_does 132 = .ok (.if_icmp .ne 32, 3) := by decide +kernel
theorem dX7_does_135 : decode cX7_does 135 = .ok (.aload_n 0, 1) := by decide +kernel
theorem dX7_does_136 : decode cX7_does 136 = .ok (.getfield 29, 3) := by decide +kernel
theorem dX7_does_139 : decode cX7_does 139 = .ok (.bipush 30, 2) := by decide +kernel
theorem dX7_does_141 : decode cX7_does 141 = .ok (.iaload, 1) := by decide +kernel
theorem dX7_does_142 : decode cX7_does 142 = .ok (.iload_n 3, 1) := by decide +kernel
theorem dX7_does_143 : decode cX7_does 143 = .ok (.invokestatic 99, 3) := by decide +kernel
theorem dX7_does_146 : decode cX7_does 146 = .ok (.ifCond .ne 18, 3) := by decide +kernel
theorem dX7_does_149 : decode cX7_does 149 = .ok (.aload_n 0, 1) := by decide +kernel
theorem dX7_does_150 : decode cX7_does 150 = .ok (.getfield 29, 3) := by decide +kernel
theorem dX7_does_153 : decode cX7_does 153 = .ok (.iconst 0, 1) := by decide +kernel
theorem dX7_does_154 : decode cX7_does 154 = .ok (.iload_n 3, 1) := by decide +kernel
theorem dX7_does_155 : decode cX7_does 155 = .ok (.iadd, 1) := by decide +kernel
theorem dX7_does_156 : decode cX7_does 156 = .ok (.iaload, 1) := by decide +kernel
theorem dX7_does_157 : decode cX7_does 157 = .ok (.ifCond .le 7, 3) := by decide +kernel
theorem dX7_does_160 : decode cX7_does 160 = .ok (.iconst 1, 1) := by decide +kernel
theorem dX7_does_161 : decode cX7_does 161 = .ok (.goto 4, 3) := by decide +kernel
theorem dX7_does_164 : decode cX7_does 164 = .ok (.iconst 0, 1) := by decide +kernel
theorem dX7_does_165 : decode cX7_does 165 = .ok (.istore 4, 2) := by decide +kernel
theorem dX7_does_167 : decode cX7_does 167 = .ok (.aload_n 0, 1) := by decide +kernel
theorem dX7_does_168 : decode cX7_does 168 = .ok (.getfield 29, 3) := by decide +kernel
theorem dX7_does_171 : decode cX7_does 171 = .ok (.iconst 0, 1) := by decide +kernel
theorem dX7_does_172 : decode cX7_does 172 = .ok (.iload_n 3, 1) := by decide +kernel
theorem dX7_does_173 : decode cX7_does 173 = .ok (.iadd, 1) := by decide +kernel
theorem dX7_does_174 : decode cX7_does 174 = .ok (.iload 4, 2) := by decide +kernel
theorem dX7_does_176 : decode cX7_does 176 = .ok (.ifCond .eq 7, 3) := by decide +kernel
theorem dX7_does_179 : decode cX7_does 179 = .ok (.iconst 0, 1) := by decide +kernel
theorem dX7_does_180 : decode cX7_does 180 = .ok (.goto 11, 3) := by decide +kernel
theorem dX7_does_183 : decode cX7_does 183 = .ok (.aload_n 0, 1) := by decide +kernel
theorem dX7_does_184 : decode cX7_does 184 = .ok (.getfield 29, 3) := by decide +kernel
theorem dX7_does_187 : decode cX7_does 187 = .ok (.iconst 0, 1) := by decide +kernel
theorem dX7_does_188 : decode cX7_does 188 = .ok (.iload_n 3, 1) := by decide +kernel
theorem dX7_does_189 : decode cX7_does 189 = .ok (.iadd, 1) := by decide +kernel
theorem dX7_does_190 : decode cX7_does 190 = .ok (.iaload, 1) := by decide +kernel
theorem dX7_does_191 : decode cX7_does 191 = .ok (.iastore, 1) := by decide +kernel
theorem dX7_does_192 : decode cX7_does 192 = .ok (.iload 4, 2) := by decide +kernel
theorem dX7_does_194 : decode cX7_does 194 = .ok (.ireturn, 1) := by decide +kernel
theorem dX7_judge_0 : decode cX7_judge 0 = .ok (.aload_n 0, 1) := by decide +kernel
theorem dX7_judge_1 : decode cX7_judge 1 = .ok (.iconst 0, 1) := by decide +kernel
theorem dX7_judge_2 : decode cX7_judge 2 = .ok (.putfield 51, 3) := by decide +kernel
theorem dX7_judge_5 : decode cX7_judge 5 = .ok (.iload_n 1, 1) := by decide +kernel
theorem dX7_judge_6 : decode cX7_judge 6 = .ok (.i2l, 1) := by decide +kernel
theorem dX7_judge_7 : decode cX7_judge 7 = .ok (.lconst 1, 1) := by decide +kernel
theorem dX7_judge_8 : decode cX7_judge 8 = .ok (.ldc2_w 175, 3) := by decide +kernel
theorem dX7_judge_11 : decode cX7_judge 11 = .ok (.invokestatic 57, 3) := by decide +kernel
theorem dX7_judge_14 : decode cX7_judge 14 = .ok (.ifCond .eq 21, 3) := by decide +kernel
theorem dX7_judge_17 : decode cX7_judge 17 = .ok (.iload_n 2, 1) := by decide +kernel
theorem dX7_judge_18 : decode cX7_judge 18 = .ok (.i2l, 1) := by decide +kernel
theorem dX7_judge_19 : decode cX7_judge 19 = .ok (.lconst 0, 1) := by decide +kernel
theorem dX7_judge_20 : decode cX7_judge 20 = .ok (.bipush 100, 2) := by decide +kernel
theorem dX7_judge_22 : decode cX7_judge 22 = .ok (.iload_n 1, 1) := by decide +kernel
theorem dX7_judge_23 : decode cX7_judge 23 = .ok (.invokestatic 177, 3) := by decide +kernel
theorem dX7_judge_26 : decode cX7_judge 26 = .ok (.iconst 1, 1) := by decide +kernel
theorem dX7_judge_27 : decode cX7_judge 27 = .ok (.isub, 1) := by decide +kernel
theorem dX7_judge_28 : decode cX7_judge 28 = .ok (.i2l, 1) := by decide +kernel
theorem dX7_judge_29 : decode cX7_judge 29 = .ok (.invokestatic 57, 3) := by decide +kernel
theorem dX7_judge_32 : decode cX7_judge 32 = .ok (.ifCond .ne 6, 3) := by decide +kernel
theorem dX7_judge_35 : decode cX7_judge 35 = .ok (.bipush (-2), 2) := by decide +kernel
theorem dX7_judge_37 : decode cX7_judge 37 = .ok (.ireturn, 1) := by decide +kernel
theorem dX7_judge_38 : decode cX7_judge 38 = .ok (.aload_n 0, 1) := by decide +kernel
theorem dX7_judge_39 : decode cX7_judge 39 = .ok (.invokevirtual 155, 3) := by decide +kernel
theorem dX7_judge_42 : decode cX7_judge 42 = .ok (.iconst 0, 1) := by decide +kernel
theorem dX7_judge_43 : decode cX7_judge 43 = .ok (.istore_n 3, 1) := by decide +kernel
theorem dX7_judge_44 : decode cX7_judge 44 = .ok (.iload_n 3, 1) := by decide +kernel
theorem dX7_judge_45 : decode cX7_judge 45 = .ok (.iload_n 1, 1) := by decide +kernel
theorem dX7_judge_46 : decode cX7_judge 46 = .ok (.if_icmp .ge 33, 3) := by decide +kernel
theorem dX7_judge_49 : decode cX7_judge 49 = .ok (.aload_n 0, 1) := by decide +kernel
theorem dX7_judge_50 : decode cX7_judge 50 = .ok (.iload_n 2, 1) := by decide +kernel
theorem dX7_judge_51 : decode cX7_judge 51 = .ok (.bipush 100, 2) := by decide +kernel
theorem dX7_judge_53 : decode cX7_judge 53 = .ok (.iload_n 1, 1) := by decide +kernel
theorem dX7_judge_54 : decode cX7_judge 54 = .ok (.iconst 1, 1) := by decide +kernel
theorem dX7_judge_55 : decode cX7_judge 55 = .ok (.isub, 1) := by decide +kernel
theorem dX7_judge_56 : decode cX7_judge 56 = .ok (.iload_n 3, 1) := by decide +kernel
theorem dX7_judge_57 : decode cX7_judge 57 = .ok (.isub, 1) := by decide +kernel
theorem dX7_judge_58 : decode cX7_judge 58 = .ok (.invokestatic 177, 3) := by decide +kernel
theorem dX7_judge_61 : decode cX7_judge 61 = .ok (.idiv, 1) := by decide +kernel
theorem dX7_judge_62 : decode cX7_judge 62 = .ok (.bipush 100, 2) := by decide +kernel
theorem dX7_judge_64 : decode cX7_judge 64 = .ok (.irem, 1) := by decide +kernel
theorem dX7_judge_65 : decode cX7_judge 65 = .ok (.invokevirtual 180, 3) := by decide +kernel
theorem dX7_judge_68 : decode cX7_judge 68 = .ok (.ifCond .ne 5, 3) := by decide +kernel
theorem dX7_judge_71 : decode cX7_judge 71 = .ok (.iload_n 3, 1) := by decide +kernel
theorem dX7_judge_72 : decode cX7_judge 72 = .ok (.ireturn, 1) := by decide +kernel
theorem dX7_judge_73 : decode cX7_judge 73 = .ok (.iinc 3 1, 3) := by decide +kernel
theorem dX7_judge_76 : decode cX7_judge 76 = .ok (.goto (-32), 3) := by decide +kernel
theorem dX7_judge_79 : decode cX7_judge 79 = .ok (.bipush (-9), 2) := by decide +kernel
theorem dX7_judge_81 : decode cX7_judge 81 = .ok (.ireturn, 1) := by decide +kernel
theorem dX7_ways_0 : decode cX7_ways 0 = .ok (.iconst 1, 1) := by decide +kernel
theorem dX7_ways_1 : decode cX7_ways 1 = .ok (.istore_n 1, 1) := by decide +kernel
theorem dX7_ways_2 : decode cX7_ways 2 = .ok (.iconst 2, 1) := by decide +kernel
theorem dX7_ways_3 : decode cX7_ways 3 = .ok (.istore_n 2, 1) := by decide +kernel
theorem dX7_ways_4 : decode cX7_ways 4 = .ok (.iload_n 2, 1) := by decide +kernel
theorem dX7_ways_5 : decode cX7_ways 5 = .ok (.iload_n 0, 1) := by decide +kernel
theorem dX7_ways_6 : decode cX7_ways 6 = .ok (.if_icmp .gt 13, 3) := by decide +kernel
theorem dX7_ways_9 : decode cX7_ways 9 = .ok (.iload_n 1, 1) := by decide +kernel
theorem dX7_ways_10 : decode cX7_ways 10 = .ok (.iload_n 2, 1) := by decide +kernel
theorem dX7_ways_11 : decode cX7_ways 11 = .ok (.imul, 1) := by decide +kernel
theorem dX7_ways_12 : decode cX7_ways 12 = .ok (.istore_n 1, 1) := by decide +kernel
theorem dX7_ways_13 : decode cX7_ways 13 = .ok (.iinc 2 1, 3) := by decide +kernel
theorem dX7_ways_16 : decode cX7_ways 16 = .ok (.goto (-12), 3) := by decide +kernel
theorem dX7_ways_19 : decode cX7_ways 19 = .ok (.iload_n 1, 1) := by decide +kernel
theorem dX7_ways_20 : decode cX7_ways 20 = .ok (.ireturn, 1) := by decide +kernel
theorem dX7_divisor_0 : decode cX7_divisor 0 = .ok (.iload_n 0, 1) := by decide +kernel
theorem dX7_divisor_1 : decode cX7_divisor 1 = .ok (.ifCond .ge 8, 3) := by decide +kernel
theorem dX7_divisor_4 : decode cX7_divisor 4 = .ok (.iload_n 0, 1) := by decide +kernel
theorem dX7_divisor_5 : decode cX7_divisor 5 = .ok (.ineg, 1) := by decide +kernel
theorem dX7_divisor_6 : decode cX7_divisor 6 = .ok (.goto 4, 3) := by decide +kernel
theorem dX7_divisor_9 : decode cX7_divisor 9 = .ok (.iload_n 0, 1) := by decide +kernel
theorem dX7_divisor_10 : decode cX7_divisor 10 = .ok (.istore_n 2, 1) := by decide +kernel
theorem dX7_divisor_11 : decode cX7_divisor 11 = .ok (.iload_n 1, 1) := by decide +kernel
theorem dX7_divisor_12 : decode cX7_divisor 12 = .ok (.istore_n 3, 1) := by decide +kernel
theorem dX7_divisor_13 : decode cX7_divisor 13 = .ok (.iload_n 3, 1) := by decide +kernel
theorem dX7_divisor_14 : decode cX7_divisor 14 = .ok (.ifCond .eq 16, 3) := by decide +kernel
theorem dX7_divisor_17 : decode cX7_divisor 17 = .ok (.iload_n 2, 1) := by decide +kernel
theorem dX7_divisor_18 : decode cX7_divisor 18 = .ok (.iload_n 3, 1) := by decide +kernel
theorem dX7_divisor_19 : decode cX7_divisor 19 = .ok (.irem, 1) := by decide +kernel
theorem dX7_divisor_20 : decode cX7_divisor 20 = .ok (.istore 4, 2) := by decide +kernel
theorem dX7_divisor_22 : decode cX7_divisor 22 = .ok (.iload_n 3, 1) := by decide +kernel
theorem dX7_divisor_23 : decode cX7_divisor 23 = .ok (.istore_n 2, 1) := by decide +kernel
theorem dX7_divisor_24 : decode cX7_divisor 24 = .ok (.iload 4, 2) := by decide +kernel
theorem dX7_divisor_26 : decode cX7_divisor 26 = .ok (.istore_n 3, 1) := by decide +kernel
theorem dX7_divisor_27 : decode cX7_divisor 27 = .ok (.goto (-14), 3) := by decide +kernel
theorem dX7_divisor_30 : decode cX7_divisor 30 = .ok (.iload_n 2, 1) := by decide +kernel
theorem dX7_divisor_31 : decode cX7_divisor 31 = .ok (.ireturn, 1) := by decide +kernel
theorem dX7_fraction_0 : decode cX7_fraction 0 = .ok (.iload_n 0, 1) := by decide +kernel
theorem dX7_fraction_1 : decode cX7_fraction 1 = .ok (.iload_n 1, 1) := by decide +kernel
theorem dX7_fraction_2 : decode cX7_fraction 2 = .ok (.invokestatic 183, 3) := by decide +kernel
theorem dX7_fraction_5 : decode cX7_fraction 5 = .ok (.istore_n 3, 1) := by decide +kernel
theorem dX7_fraction_6 : decode cX7_fraction 6 = .ok (.iload_n 2, 1) := by decide +kernel
theorem dX7_fraction_7 : decode cX7_fraction 7 = .ok (.ifCond .eq 9, 3) := by decide +kernel
theorem dX7_fraction_10 : decode cX7_fraction 10 = .ok (.iload_n 0, 1) := by decide +kernel
theorem dX7_fraction_11 : decode cX7_fraction 11 = .ok (.iload_n 3, 1) := by decide +kernel
theorem dX7_fraction_12 : decode cX7_fraction 12 = .ok (.idiv, 1) := by decide +kernel
theorem dX7_fraction_13 : decode cX7_fraction 13 = .ok (.goto 6, 3) := by decide +kernel
theorem dX7_fraction_16 : decode cX7_fraction 16 = .ok (.iload_n 1, 1) := by decide +kernel
theorem dX7_fraction_17 : decode cX7_fraction 17 = .ok (.iload_n 3, 1) := by decide +kernel
theorem dX7_fraction_18 : decode cX7_fraction 18 = .ok (.idiv, 1) := by decide +kernel
theorem dX7_fraction_19 : decode cX7_fraction 19 = .ok (.ireturn, 1) := by decide +kernel
theorem dX7_share_0 : decode cX7_share 0 = .ok (.aload_n 0, 1) := by decide +kernel
theorem dX7_share_1 : decode cX7_share 1 = .ok (.iconst 0, 1) := by decide +kernel
theorem dX7_share_2 : decode cX7_share 2 = .ok (.putfield 51, 3) := by decide +kernel
theorem dX7_share_5 : decode cX7_share 5 = .ok (.aload_n 0, 1) := by decide +kernel
theorem dX7_share_6 : decode cX7_share 6 = .ok (.iload_n 1, 1) := by decide +kernel
theorem dX7_share_7 : decode cX7_share 7 = .ok (.invokevirtual 140, 3) := by decide +kernel
theorem dX7_share_10 : decode cX7_share 10 = .ok (.ifCond .eq 5, 3) := by decide +kernel
theorem dX7_share_13 : decode cX7_share 13 = .ok (.iconst (-1), 1) := by decide +kernel
theorem dX7_share_14 : decode cX7_share 14 = .ok (.ireturn, 1) := by decide +kernel
theorem dX7_share_15 : decode cX7_share 15 = .ok (.iconst 0, 1) := by decide +kernel
theorem dX7_share_16 : decode cX7_share 16 = .ok (.istore_n 3, 1) := by decide +kernel
theorem dX7_share_17 : decode cX7_share 17 = .ok (.iload_n 3, 1) := by decide +kernel
theorem dX7_share_18 : decode cX7_share 18 = .ok (.iconst 1, 1) := by decide +kernel
theorem dX7_share_19 : decode cX7_share 19 = .ok (.aload_n 0, 1) := by decide +kernel
theorem dX7_share_20 : decode cX7_share 20 = .ok (.getfield 54, 3) := by decide +kernel
theorem dX7_share_23 : decode cX7_share 23 = .ok (.ishl, 1) := by decide +kernel
theorem dX7_share_24 : decode cX7_share 24 = .ok (.if_icmp .ge 80, 3) := by decide +kernel
theorem dX7_share_27 : decode cX7_share 27 = .ok (.aload_n 0, 1) := by decide +kernel
theorem dX7_share_28 : decode cX7_share 28 = .ok (.invokevirtual 155, 3) := by decide +kernel
theorem dX7_share_31 : decode cX7_share 31 = .ok (.aload_n 0, 1) := by decide +kernel
theorem dX7_share_32 : decode cX7_share 32 = .ok (.iload_n 3, 1) := by decide +kernel
theorem dX7_share_33 : decode cX7_share 33 = .ok (.putfield 96, 3) := by decide +kernel
theorem dX7_share_36 : decode cX7_share 36 = .ok (.aload_n 0, 1) := by decide +kernel
theorem dX7_share_37 : decode cX7_share 37 = .ok (.getfield 29, 3) := by decide +kernel
theorem dX7_share_40 : decode cX7_share 40 = .ok (.bipush 30, 2) := by decide +kernel
theorem dX7_share_42 : decode cX7_share 42 = .ok (.dup2, 1) := by decide +kernel
theorem dX7_share_43 : decode cX7_share 43 = .ok (.iaload, 1) := by decide +kernel
theorem dX7_share_44 : decode cX7_share 44 = .ok (.iload_n 3, 1) := by decide +kernel
theorem dX7_share_45 : decode cX7_share 45 = .ok (.iand, 1) := by decide +kernel
theorem dX7_share_46 : decode cX7_share 46 = .ok (.iastore, 1) := by decide +kernel
theorem dX7_share_47 : decode cX7_share 47 = .ok (.iconst 0, 1) := by decide +kernel
theorem dX7_share_48 : decode cX7_share 48 = .ok (.istore 4, 2) := by decide +kernel
theorem dX7_share_50 : decode cX7_share 50 = .ok (.iload 4, 2) := by decide +kernel
theorem dX7_share_52 : decode cX7_share 52 = .ok (.bipush 6, 2) := by decide +kernel
theorem dX7_share_54 : decode cX7_share 54 = .ok (.if_icmp .ge 17, 3) := by decide +kernel
theorem dX7_share_57 : decode cX7_share 57 = .ok (.aload_n 0, 1) := by decide +kernel
theorem dX7_share_58 : decode cX7_share 58 = .ok (.aload_n 0, 1) := by decide +kernel
theorem dX7_share_59 : decode cX7_share 59 = .ok (.getfield 29, 3) := by decide +kernel
theorem dX7_share_62 : decode cX7_share 62 = .ok (.invokevirtual 147, 3) := by decide +kernel
theorem dX7_share_65 : decode cX7_share 65 = .ok (.iinc 4 1, 3) := by decide +kernel
theorem dX7_share_68 : decode cX7_share 68 = .ok (.goto (-18), 3) := by decide +kernel
theorem dX7_share_71 : decode cX7_share 71 = .ok (.aload_n 0, 1) := by decide +kernel
theorem dX7_share_72 : decode cX7_share 72 = .ok (.getfield 48, 3) := by decide +kernel
theorem dX7_share_75 : decode cX7_share 75 = .ok (.iload_n 3, 1) := by decide +kernel
theorem dX7_share_76 : decode cX7_share 76 = .ok (.aload_n 0, 1) := by decide +kernel
theorem dX7_share_77 : decode cX7_share 77 = .ok (.aload_n 0, 1) := by decide +kernel
theorem dX7_share_78 : decode cX7_share 78 = .ok (.getfield 29, 3) := by decide +kernel
theorem dX7_share_81 : decode cX7_share 81 = .ok (.bipush 10, 2) := by decide +kernel
theorem dX7_share_83 : decode cX7_share 83 = .ok (.invokevirtual 158, 3) := by decide +kernel
theorem dX7_share_86 : decode cX7_share 86 = .ok (.aload_n 0, 1) := by decide +kernel
theorem dX7_share_87 : decode cX7_share 87 = .ok (.aload_n 0, 1) := by decide +kernel
theorem dX7_share_88 : decode cX7_share 88 = .ok (.getfield 26, 3) := by decide +kernel
theorem dX7_share_91 : decode cX7_share 91 = .ok (.bipush 10, 2) := by decide +kernel
theorem dX7_share_93 : decode cX7_share 93 = .ok (.invokevirtual 158, 3) := by decide +kernel
theorem dX7_share_96 : decode cX7_share 96 = .ok (.isub, 1) := by decide +kernel
theorem dX7_share_97 : decode cX7_share 97 = .ok (.iastore, 1) := by decide +kernel
theorem dX7_share_98 : decode cX7_share 98 = .ok (.iinc 3 1, 3) := by decide +kernel
theorem dX7_share_101 : decode cX7_share 101 = .ok (.goto (-84), 3) := by decide +kernel
theorem dX7_share_104 : decode cX7_share 104 = .ok (.iconst 0, 1) := by decide +kernel
theorem dX7_share_105 : decode cX7_share 105 = .ok (.istore_n 3, 1) := by decide +kernel
theorem dX7_share_106 : decode cX7_share 106 = .ok (.iconst 0, 1) := by decide +kernel
theorem dX7_share_107 : decode cX7_share 107 = .ok (.istore 4, 2) := by decide +kernel
theorem dX7_share_109 : decode cX7_share 109 = .ok (.iload 4, 2) := by decide +kernel
theorem dX7_share_111 : decode cX7_share 111 = .ok (.iconst 1, 1) := by decide +kernel
theorem dX7_share_112 : decode cX7_share 112 = .ok (.aload_n 0, 1) := by decide +kernel
theorem dX7_share_113 : decode cX7_share 113 = .ok (.getfield 54, 3) := by decide +kernel
theorem dX7_share_116 : decode cX7_share 116 = .ok (.ishl, 1) := by decide +kernel
theorem dX7_share_117 : decode cX7_share 117 = .ok (.if_icmp .ge 66, 3) := by decide +kernel
theorem dX7_share_120 : decode cX7_share 120 = .ok (.iload 4, 2) := by decide +kernel
theorem dX7_share_122 : decode cX7_share 122 = .ok (.iload_n 1, 1) := by decide +kernel
theorem dX7_share_123 : decode cX7_share 123 = .ok (.invokestatic 99, 3) := by decide +kernel
theorem dX7_share_126 : decode cX7_share 126 = .ok (.ifCond .ne 51, 3) := by decide +kernel
theorem dX7_share_129 : decode cX7_share 129 = .ok (.iload 4, 2) := by decide +kernel
theorem dX7_share_131 : decode cX7_share 131 = .ok (.invokestatic 128, 3) := by decide +kernel
theorem dX7_share_134 : decode cX7_share 134 = .ok (.istore 5, 2) := by decide +kernel
theorem dX7_share_136 : decode cX7_share 136 = .ok (.iload_n 3, 1) := by decide +kernel
theorem dX7_share_137 : decode cX7_share 137 = .ok (.iload 5, 2) := by decide +kernel
theorem dX7_share_139 : decode cX7_share 139 = .ok (.invokestatic 186, 3) := by decide +kernel
theorem dX7_share_142 : decode cX7_share 142 = .ok (.aload_n 0, 1) := by decide +kernel
theorem dX7_share_143 : decode cX7_share 143 = .ok (.getfield 54, 3) := by decide +kernel
theorem dX7_share_146 : decode cX7_share 146 = .ok (.iconst 1, 1) := by decide +kernel
theorem dX7_share_147 : decode cX7_share 147 = .ok (.isub, 1) := by decide +kernel
theorem dX7_share_148 : decode cX7_share 148 = .ok (.iload 5, 2) := by decide +kernel
theorem dX7_share_150 : decode cX7_share 150 = .ok (.isub, 1) := by decide +kernel
theorem dX7_share_151 : decode cX7_share 151 = .ok (.invokestatic 186, 3) := by decide +kernel
theorem dX7_share_154 : decode cX7_share 154 = .ok (.imul, 1) := by decide +kernel
theorem dX7_share_155 : decode cX7_share 155 = .ok (.aload_n 0, 1) := by decide +kernel
theorem dX7_share_156 : decode cX7_share 156 = .ok (.getfield 48, 3) := by decide +kernel
theorem dX7_share_159 : decode cX7_share 159 = .ok (.iload 4, 2) := by decide +kernel
theorem dX7_share_161 : decode cX7_share 161 = .ok (.iconst 1, 1) := by decide +kernel
theorem dX7_share_162 : decode cX7_share 162 = .ok (.iload_n 1, 1) := by decide +kernel
theorem dX7_share_163 : decode cX7_share 163 = .ok (.ishl, 1) := by decide +kernel
theorem dX7_share_164 : decode cX7_share 164 = .ok (.ior, 1) := by decide +kernel
theorem dX7_share_165 : decode cX7_share 165 = .ok (.iaload, 1) := by decide +kernel
theorem dX7_share_166 : decode cX7_share 166 = .ok (.aload_n 0, 1) := by decide +kernel
theorem dX7_share_167 : decode cX7_share 167 = .ok (.getfield 48, 3) := by decide +kernel
theorem dX7_share_170 : decode cX7_share 170 = .ok (.iload 4, 2) := by decide +kernel
theorem dX7_share_172 : decode cX7_share 172 = .ok (.iaload, 1) := by decide +kernel
theorem dX7_share_173 : decode cX7_share 173 = .ok (.isub, 1) := by decide +kernel
theorem dX7_share_174 : decode cX7_share 174 = .ok (.imul, 1) := by decide +kernel
theorem dX7_share_175 : decode cX7_share 175 = .ok (.iadd, 1) := by decide +kernel
theorem dX7_share_176 : decode cX7_share 176 = .ok (.istore_n 3, 1) := by decide +kernel
theorem dX7_share_177 : decode cX7_share 177 = .ok (.iinc 4 1, 3) := by decide +kernel
theorem dX7_share_180 : decode cX7_share 180 = .ok (.goto (-71), 3) := by decide +kernel
theorem dX7_share_183 : decode cX7_share 183 = .ok (.iload_n 3, 1) := by decide +kernel
theorem dX7_share_184 : decode cX7_share 184 = .ok (.aload_n 0, 1) := by decide +kernel
theorem dX7_share_185 : decode cX7_share 185 = .ok (.getfield 54, 3) := by decide +kernel
theorem dX7_share_188 : decode cX7_share 188 = .ok (.invokestatic 186, 3) := by decide +kernel
theorem dX7_share_191 : decode cX7_share 191 = .ok (.iload_n 2, 1) := by decide +kernel
theorem dX7_share_192 : decode cX7_share 192 = .ok (.invokestatic 189, 3) := by decide +kernel
theorem dX7_share_195 : decode cX7_share 195 = .ok (.ireturn, 1) := by decide +kernel
theorem dX7_see_0 : decode cX7_see 0 = .ok (.aload_n 0, 1) := by decide +kernel
theorem dX7_see_1 : decode cX7_see 1 = .ok (.iconst 0, 1) := by decide +kernel
theorem dX7_see_2 : decode cX7_see 2 = .ok (.putfield 51, 3) := by decide +kernel
theorem dX7_see_5 : decode cX7_see 5 = .ok (.aload_n 0, 1) := by decide +kernel
theorem dX7_see_6 : decode cX7_see 6 = .ok (.iload_n 1, 1) := by decide +kernel
theorem dX7_see_7 : decode cX7_see 7 = .ok (.invokevirtual 140, 3) := by decide +kernel
theorem dX7_see_10 : decode cX7_see 10 = .ok (.ifCond .eq 5, 3) := by decide +kernel
theorem dX7_see_13 : decode cX7_see 13 = .ok (.iconst (-1), 1) := by decide +kernel
theorem dX7_see_14 : decode cX7_see 14 = .ok (.ireturn, 1) := by decide +kernel
theorem dX7_see_15 : decode cX7_see 15 = .ok (.iload_n 2, 1) := by decide +kernel
theorem dX7_see_16 : decode cX7_see 16 = .ok (.i2l, 1) := by decide +kernel
theorem dX7_see_17 : decode cX7_see 17 = .ok (.lconst 1, 1) := by decide +kernel
theorem dX7_see_18 : decode cX7_see 18 = .ok (.ldc2_w 193, 3) := by decide +kernel
theorem dX7_see_21 : decode cX7_see 21 = .ok (.invokestatic 57, 3) := by decide +kernel
theorem dX7_see_24 : decode cX7_see 24 = .ok (.ifCond .ne 6, 3) := by decide +kernel
theorem dX7_see_27 : decode cX7_see 27 = .ok (.bipush (-2), 2) := by decide +kernel
theorem dX7_see_29 : decode cX7_see 29 = .ok (.ireturn, 1) := by decide +kernel
theorem dX7_see_30 : decode cX7_see 30 = .ok (.aload_n 0, 1) := by decide +kernel
theorem dX7_see_31 : decode cX7_see 31 = .ok (.getfield 137, 3) := by decide +kernel
theorem dX7_see_34 : decode cX7_see 34 = .ok (.bipush 6, 2) := by decide +kernel
theorem dX7_see_36 : decode cX7_see 36 = .ok (.if_icmp .ne 6, 3) := by decide +kernel
theorem dX7_see_39 : decode cX7_see 39 = .ok (.bipush (-4), 2) := by decide +kernel
theorem dX7_see_41 : decode cX7_see 41 = .ok (.ireturn, 1) := by decide +kernel
theorem dX7_see_42 : decode cX7_see 42 = .ok (.aload_n 0, 1) := by decide +kernel
theorem dX7_see_43 : decode cX7_see 43 = .ok (.getfield 42, 3) := by decide +kernel
theorem dX7_see_46 : decode cX7_see 46 = .ok (.aload_n 0, 1) := by decide +kernel
theorem dX7_see_47 : decode cX7_see 47 = .ok (.getfield 137, 3) := by decide +kernel
theorem dX7_see_50 : decode cX7_see 50 = .ok (.iload_n 1, 1) := by decide +kernel
theorem dX7_see_51 : decode cX7_see 51 = .ok (.iastore, 1) := by decide +kernel
theorem dX7_see_52 : decode cX7_see 52 = .ok (.aload_n 0, 1) := by decide +kernel
theorem dX7_see_53 : decode cX7_see 53 = .ok (.getfield 45, 3) := by decide +kernel
theorem dX7_see_56 : decode cX7_see 56 = .ok (.aload_n 0, 1) := by decide +kernel
theorem dX7_see_57 : decode cX7_see 57 = .ok (.getfield 137, 3) := by decide +kernel
theorem dX7_see_60 : decode cX7_see 60 = .ok (.iload_n 2, 1) := by decide +kernel
theorem dX7_see_61 : decode cX7_see 61 = .ok (.iastore, 1) := by decide +kernel
theorem dX7_see_62 : decode cX7_see 62 = .ok (.aload_n 0, 1) := by decide +kernel
theorem dX7_see_63 : decode cX7_see 63 = .ok (.dup, 1) := by decide +kernel
theorem dX7_see_64 : decode cX7_see 64 = .ok (.getfield 137, 3) := by decide +kernel
theorem dX7_see_67 : decode cX7_see 67 = .ok (.iconst 1, 1) := by decide +kernel
theorem dX7_see_68 : decode cX7_see 68 = .ok (.iadd, 1) := by decide +kernel
theorem dX7_see_69 : decode cX7_see 69 = .ok (.putfield 137, 3) := by decide +kernel
theorem dX7_see_72 : decode cX7_see 72 = .ok (.aload_n 0, 1) := by decide +kernel
theorem dX7_see_73 : decode cX7_see 73 = .ok (.getfield 137, 3) := by decide +kernel
theorem dX7_see_76 : decode cX7_see 76 = .ok (.ireturn, 1) := by decide +kernel
theorem dX7_unsee_0 : decode cX7_unsee 0 = .ok (.aload_n 0, 1) := by decide +kernel
theorem dX7_unsee_1 : decode cX7_unsee 1 = .ok (.iconst 0, 1) := by decide +kernel
theorem dX7_unsee_2 : decode cX7_unsee 2 = .ok (.putfield 51, 3) := by decide +kernel
theorem dX7_unsee_5 : decode cX7_unsee 5 = .ok (.aload_n 0, 1) := by decide +kernel
theorem dX7_unsee_6 : decode cX7_unsee 6 = .ok (.getfield 137, 3) := by decide +kernel
theorem dX7_unsee_9 : decode cX7_unsee 9 = .ok (.istore_n 1, 1) := by decide +kernel
theorem dX7_unsee_10 : decode cX7_unsee 10 = .ok (.aload_n 0, 1) := by decide +kernel
theorem dX7_unsee_11 : decode cX7_unsee 11 = .ok (.iconst 0, 1) := by decide +kernel
theorem dX7_unsee_12 : decode cX7_unsee 12 = .ok (.putfield 137, 3) := by decide +kernel
theorem dX7_unsee_15 : decode cX7_unsee 15 = .ok (.iload_n 1, 1) := by decide +kernel
theorem dX7_unsee_16 : decode cX7_unsee 16 = .ok (.ireturn, 1) := by decide +kernel
theorem dX7_isSeen_0 : decode cX7_isSeen 0 = .ok (.aload_n 0, 1) := by decide +kernel
theorem dX7_isSeen_1 : decode cX7_isSeen 1 = .ok (.invokevirtual 155, 3) := by decide +kernel
theorem dX7_isSeen_4 : decode cX7_isSeen 4 = .ok (.aload_n 0, 1) := by decide +kernel
theorem dX7_isSeen_5 : decode cX7_isSeen 5 = .ok (.getfield 29, 3) := by decide +kernel
theorem dX7_isSeen_8 : decode cX7_isSeen 8 = .ok (.bipush 32, 2) := by decide +kernel
theorem dX7_isSeen_10 : decode cX7_isSeen 10 = .ok (.iload_n 1, 1) := by decide +kernel
theorem dX7_isSeen_11 : decode cX7_isSeen 11 = .ok (.iastore, 1) := by decide +kernel
theorem dX7_isSeen_12 : decode cX7_isSeen 12 = .ok (.iconst 1, 1) := by decide +kernel
theorem dX7_isSeen_13 : decode cX7_isSeen 13 = .ok (.istore_n 2, 1) := by decide +kernel
theorem dX7_isSeen_14 : decode cX7_isSeen 14 = .ok (.iconst 1, 1) := by decide +kernel
theorem dX7_isSeen_15 : decode cX7_isSeen 15 = .ok (.istore_n 3, 1) := by decide +kernel
theorem dX7_isSeen_16 : decode cX7_isSeen 16 = .ok (.iload_n 3, 1) := by decide +kernel
theorem dX7_isSeen_17 : decode cX7_isSeen 17 = .ok (.bipush 20, 2) := by decide +kernel
theorem dX7_isSeen_19 : decode cX7_isSeen 19 = .ok (.if_icmp .gt 90, 3) := by decide +kernel
theorem dX7_isSeen_22 : decode cX7_isSeen 22 = .ok (.aload_n 0, 1) := by decide +kernel
theorem dX7_isSeen_23 : decode cX7_isSeen 23 = .ok (.aload_n 0, 1) := by decide +kernel
theorem dX7_isSeen_24 : decode cX7_isSeen 24 = .ok (.getfield 29, 3) := by decide +kernel
theorem dX7_isSeen_27 : decode cX7_isSeen 27 = .ok (.invokevirtual 147, 3) := by decide +kernel
theorem dX7_isSeen_30 : decode cX7_isSeen 30 = .ok (.iconst 0, 1) := by decide +kernel
theorem dX7_isSeen_31 : decode cX7_isSeen 31 = .ok (.istore 4, 2) := by decide +kernel
theorem dX7_isSeen_33 : decode cX7_isSeen 33 = .ok (.iload 4, 2) := by decide +kernel
theorem dX7_isSeen_35 : decode cX7_isSeen 35 = .ok (.aload_n 0, 1) := by decide +kernel
theorem dX7_isSeen_36 : decode cX7_isSeen 36 = .ok (.getfield 137, 3) := by decide +kernel
theorem dX7_isSeen_39 : decode cX7_isSeen 39 = .ok (.if_icmp .ge 64, 3) := by decide +kernel
theorem dX7_isSeen_42 : decode cX7_isSeen 42 = .ok (.iload_n 2, 1) := by decide +kernel
theorem dX7_isSeen_43 : decode cX7_isSeen 43 = .ok (.ifCond .eq 52, 3) := by decide +kernel
theorem dX7_isSeen_46 : decode cX7_isSeen 46 = .ok (.aload_n 0, 1) := by decide +kernel
theorem dX7_isSeen_47 : decode cX7_isSeen 47 = .ok (.getfield 45, 3) := by decide +kernel
theorem dX7_isSeen_50 : decode cX7_isSeen 50 = .ok (.iload 4, 2) := by decide +kernel
theorem dX7_isSeen_52 : decode cX7_isSeen 52 = .ok (.iaload, 1) := by decide +kernel
theorem dX7_isSeen_53 : decode cX7_isSeen 53 = .ok (.iload_n 3, 1) := by decide +kernel
theorem dX7_isSeen_54 : decode cX7_isSeen 54 = .ok (.if_icmp .ne 37, 3) := by decide +kernel
theorem dX7_isSeen_57 : decode cX7_isSeen 57 = .ok (.aload_n 0, 1) := by decide +kernel
theorem dX7_isSeen_58 : decode cX7_isSeen 58 = .ok (.aload_n 0, 1) := by decide +kernel
theorem dX7_isSeen_59 : decode cX7_isSeen 59 = .ok (.getfield 42, 3) := by decide +kernel
theorem dX7_isSeen_62 : decode cX7_isSeen 62 = .ok (.iload 4, 2) := by decide +kernel
theorem dX7_isSeen_64 : decode cX7_isSeen 64 = .ok (.iaload, 1) := by decide +kernel
theorem dX7_isSeen_65 : decode cX7_isSeen 65 = .ok (.invokevirtual 140, 3) := by decide +kernel
theorem dX7_isSeen_68 : decode cX7_isSeen 68 = .ok (.ifCond .ne 23, 3) := by decide +kernel
theorem dX7_isSeen_71 : decode cX7_isSeen 71 = .ok (.aload_n 0, 1) := by decide +kernel
theorem dX7_isSeen_72 : decode cX7_isSeen 72 = .ok (.getfield 29, 3) := by decide +kernel
theorem dX7_isSeen_75 : decode cX7_isSeen 75 = .ok (.bipush 30, 2) := by decide +kernel
theorem dX7_isSeen_77 : decode cX7_isSeen 77 = .ok (.iaload, 1) := by decide +kernel
theorem dX7_isSeen_78 : decode cX7_isSeen 78 = .ok (.aload_n 0, 1) := by decide +kernel
theorem dX7_isSeen_79 : decode cX7_isSeen 79 = .ok (.getfield 42, 3) := by decide +kernel
theorem dX7_isSeen_82 : decode cX7_isSeen 82 = .ok (.iload 4, 2) := by decide +kernel
theorem dX7_isSeen_84 : decode cX7_isSeen 84 = .ok (.iaload, 1) := by decide +kernel
theorem dX7_isSeen_85 : decode cX7_isSeen 85 = .ok (.invokestatic 99, 3) := by decide +kernel
theorem dX7_isSeen_88 : decode cX7_isSeen 88 = .ok (.ifCond .eq 7, 3) := by decide +kernel
theorem dX7_isSeen_91 : decode cX7_isSeen 91 = .ok (.iconst 1, 1) := by decide +kernel
theorem dX7_isSeen_92 : decode cX7_isSeen 92 = .ok (.goto 4, 3) := by decide +kernel
theorem dX7_isSeen_95 : decode cX7_isSeen 95 = .ok (.iconst 0, 1) := by decide +kernel
theorem dX7_isSeen_96 : decode cX7_isSeen 96 = .ok (.istore_n 2, 1) := by decide +kernel
theorem dX7_isSeen_97 : decode cX7_isSeen 97 = .ok (.iinc 4 1, 3) := by decide +kernel
theorem dX7_isSeen_100 : decode cX7_isSeen 100 = .ok (.goto (-67), 3) := by decide +kernel
theorem dX7_isSeen_103 : decode cX7_isSeen 103 = .ok (.iinc 3 1, 3) := by decide +kernel
theorem dX7_isSeen_106 : decode cX7_isSeen 106 = .ok (.goto (-90), 3) := by decide +kernel
theorem dX7_isSeen_109 : decode cX7_isSeen 109 = .ok (.iload_n 2, 1) := by decide +kernel
theorem dX7_isSeen_110 : decode cX7_isSeen 110 = .ok (.ireturn, 1) := by decide +kernel
theorem dX7_may_0 : decode cX7_may 0 = .ok (.aload_n 0, 1) := by decide +kernel
theorem dX7_may_1 : decode cX7_may 1 = .ok (.iconst 0, 1) := by decide +kernel
theorem dX7_may_2 : decode cX7_may 2 = .ok (.putfield 51, 3) := by decide +kernel
theorem dX7_may_5 : decode cX7_may 5 = .ok (.iconst 0, 1) := by decide +kernel
theorem dX7_may_6 : decode cX7_may 6 = .ok (.istore_n 1, 1) := by decide +kernel
theorem dX7_may_7 : decode cX7_may 7 = .ok (.iconst 0, 1) := by decide +kernel
theorem dX7_may_8 : decode cX7_may 8 = .ok (.istore_n 2, 1) := by decide +kernel
theorem dX7_may_9 : decode cX7_may 9 = .ok (.iload_n 2, 1) := by decide +kernel
theorem dX7_may_10 : decode cX7_may 10 = .ok (.iconst 4, 1) := by decide +kernel
theorem dX7_may_11 : decode cX7_may 11 = .ok (.if_icmp .ge 27, 3) := by decide +kernel
theorem dX7_may_14 : decode cX7_may 14 = .ok (.iload_n 1, 1) := by decide +kernel
theorem dX7_may_15 : decode cX7_may 15 = .ok (.aload_n 0, 1) := by decide +kernel
theorem dX7_may_16 : decode cX7_may 16 = .ok (.iload_n 2, 1) := by decide +kernel
theorem dX7_may_17 : decode cX7_may 17 = .ok (.invokevirtual 195, 3) := by decide +kernel
theorem dX7_may_20 : decode cX7_may 20 = .ok (.ifCond .eq 9, 3) := by decide +kernel
theorem dX7_may_23 : decode cX7_may 23 = .ok (.iconst 1, 1) := by decide +kernel
theorem dX7_may_24 : decode cX7_may 24 = .ok (.iload_n 2, 1) := by decide +kernel
theorem dX7_may_25 : decode cX7_may 25 = .ok (.ishl, 1) := by decide +kernel
theorem dX7_may_26 : decode cX7_may 26 = .ok (.goto 4, 3) := by decide +kernel
theorem dX7_may_29 : decode cX7_may 29 = .ok (.iconst 0, 1) := by decide +kernel
theorem dX7_may_30 : decode cX7_may 30 = .ok (.ior, 1) := by decide +kernel
theorem dX7_may_31 : decode cX7_may 31 = .ok (.istore_n 1, 1) := by decide +kernel
theorem dX7_may_32 : decode cX7_may 32 = .ok (.iinc 2 1, 3) := by decide +kernel
theorem dX7_may_35 : decode cX7_may 35 = .ok (.goto (-26), 3) := by decide +kernel
theorem dX7_may_38 : decode cX7_may 38 = .ok (.iload_n 1, 1) := by decide +kernel
theorem dX7_may_39 : decode cX7_may 39 = .ok (.ireturn, 1) := by decide +kernel
theorem dX7_hasBy_0 : decode cX7_hasBy 0 = .ok (.iload_n 3, 1) := by decide +kernel
theorem dX7_hasBy_1 : decode cX7_hasBy 1 = .ok (.iconst 1, 1) := by decide +kernel
theorem dX7_hasBy_2 : decode cX7_hasBy 2 = .ok (.if_icmp .ne 15, 3) := by decide +kernel
theorem dX7_hasBy_5 : decode cX7_hasBy 5 = .ok (.iload 4, 2) := by decide +kernel
theorem dX7_hasBy_7 : decode cX7_hasBy 7 = .ok (.iconst 1, 1) := by decide +kernel
theorem dX7_hasBy_8 : decode cX7_hasBy 8 = .ok (.if_icmp .ne 7, 3) := by decide +kernel
theorem dX7_hasBy_11 : decode cX7_hasBy 11 = .ok (.iconst 3, 1) := by decide +kernel
theorem dX7_hasBy_12 : decode cX7_hasBy 12 = .ok (.goto 4, 3) := by decide +kernel
theorem dX7_hasBy_15 : decode cX7_hasBy 15 = .ok (.iconst 0, 1) := by decide +kernel
theorem dX7_hasBy_16 : decode cX7_hasBy 16 = .ok (.ireturn, 1) := by decide +kernel
theorem dX7_hasBy_17 : decode cX7_hasBy 17 = .ok (.iload 4, 2) := by decide +kernel
theorem dX7_hasBy_19 : decode cX7_hasBy 19 = .ok (.iconst 1, 1) := by decide +kernel
theorem dX7_hasBy_20 : decode cX7_hasBy 20 = .ok (.if_icmp .ne 16, 3) := by decide +kernel
theorem dX7_hasBy_23 : decode cX7_hasBy 23 = .ok (.iconst 3, 1) := by decide +kernel
theorem dX7_hasBy_24 : decode cX7_hasBy 24 = .ok (.aload_n 0, 1) := by decide +kernel
theorem dX7_hasBy_25 : decode cX7_hasBy 25 = .ok (.getfield 26, 3) := by decide +kernel
theorem dX7_hasBy_28 : decode cX7_hasBy 28 = .ok (.iconst 0, 1) := by decide +kernel
theorem dX7_hasBy_29 : decode cX7_hasBy 29 = .ok (.iload_n 1, 1) := by decide +kernel
theorem dX7_hasBy_30 : decode cX7_hasBy 30 = .ok (.iadd, 1) := by decide +kernel
theorem dX7_hasBy_31 : decode cX7_hasBy 31 = .ok (.iaload, 1) := by decide +kernel
theorem dX7_hasBy_32 : decode cX7_hasBy 32 = .ok (.iconst 2, 1) := by decide +kernel
theorem dX7_hasBy_33 : decode cX7_hasBy 33 = .ok (.idiv, 1) := by decide +kernel
theorem dX7_hasBy_34 : decode cX7_hasBy 34 = .ok (.iadd, 1) := by decide +kernel
theorem dX7_hasBy_35 : decode cX7_hasBy 35 = .ok (.ireturn, 1) := by decide +kernel
theorem dX7_hasBy_36 : decode cX7_hasBy 36 = .ok (.aload_n 0, 1) := by decide +kernel
theorem dX7_hasBy_37 : decode cX7_hasBy 37 = .ok (.iload_n 1, 1) := by decide +kernel
theorem dX7_hasBy_38 : decode cX7_hasBy 38 = .ok (.invokevirtual 107, 3) := by decide +kernel
theorem dX7_hasBy_41 : decode cX7_hasBy 41 = .ok (.aload_n 0, 1) := by decide +kernel
theorem dX7_hasBy_42 : decode cX7_hasBy 42 = .ok (.iload_n 2, 1) := by decide +kernel
theorem dX7_hasBy_43 : decode cX7_hasBy 43 = .ok (.invokevirtual 107, 3) := by decide +kernel
theorem dX7_hasBy_46 : decode cX7_hasBy 46 = .ok (.if_icmp .le 16, 3) := by decide +kernel
theorem dX7_hasBy_49 : decode cX7_hasBy 49 = .ok (.aload_n 0, 1) := by decide +kernel
theorem dX7_hasBy_50 : decode cX7_hasBy 50 = .ok (.getfield 26, 3) := by decide +kernel
theorem dX7_hasBy_53 : decode cX7_hasBy 53 = .ok (.iconst 0, 1) := by decide +kernel
theorem dX7_hasBy_54 : decode cX7_hasBy 54 = .ok (.iload_n 1, 1) := by decide +kernel
theorem dX7_hasBy_55 : decode cX7_hasBy 55 = .ok (.iadd, 1) := by decide +kernel
theorem dX7_hasBy_56 : decode cX7_hasBy 56 = .ok (.iaload, 1) := by decide +kernel
theorem dX7_hasBy_57 : decode cX7_hasBy 57 = .ok (.iconst 3, 1) := by decide +kernel
theorem dX7_hasBy_58 : decode cX7_hasBy 58 = .ok (.idiv, 1) := by decide +kernel
theorem dX7_hasBy_59 : decode cX7_hasBy 59 = .ok (.goto 22, 3) := by decide +kernel
theorem dX7_hasBy_62 : decode cX7_hasBy 62 = .ok (.aload_n 0, 1) := by decide +kernel
theorem dX7_hasBy_63 : decode cX7_hasBy 63 = .ok (.iload_n 1, 1) := by decide +kernel
theorem dX7_hasBy_64 : decode cX7_hasBy 64 = .ok (.invokevirtual 107, 3) := by decide +kernel
theorem dX7_hasBy_67 : decode cX7_hasBy 67 = .ok (.aload_n 0, 1) := by decide +kernel
theorem dX7_hasBy_68 : decode cX7_hasBy 68 = .ok (.iload_n 2, 1) := by decide +kernel
theorem dX7_hasBy_69 : decode cX7_hasBy 69 = .ok (.invokevirtual 107, 3) := by decide +kernel
theorem dX7_hasBy_72 : decode cX7_hasBy 72 = .ok (.if_icmp .ge 8, 3) := by decide +kernel
theorem dX7_hasBy_75 : decode cX7_hasBy 75 = .ok (.bipush (-2), 2) := by decide +kernel
theorem dX7_hasBy_77 : decode cX7_hasBy 77 = .ok (.goto 4, 3) := by decide +kernel
theorem dX7_hasBy_80 : decode cX7_hasBy 80 = .ok (.iconst (-1), 1) := by decide +kernel
theorem dX7_hasBy_81 : decode cX7_hasBy 81 = .ok (.ireturn, 1) := by decide +kernel
theorem dX7_findRests_0 : decode cX7_findRests 0 = .ok (.aload_n 0, 1) := by decide +kernel
theorem dX7_findRests_1 : decode cX7_findRests 1 = .ok (.iconst 0, 1) := by decide +kernel
theorem dX7_findRests_2 : decode cX7_findRests 2 = .ok (.putfield 198, 3) := by decide +kernel
theorem dX7_findRests_5 : decode cX7_findRests 5 = .ok (.aload_n 0, 1) := by decide +kernel
theorem dX7_findRests_6 : decode cX7_findRests 6 = .ok (.bipush (-9), 2) := by decide +kernel
theorem dX7_findRests_8 : decode cX7_findRests 8 = .ok (.putfield 201, 3) := by decide +kernel
theorem dX7_findRests_11 : decode cX7_findRests 11 = .ok (.iconst 0, 1) := by decide +kernel
theorem dX7_findRests_12 : decode cX7_findRests 12 = .ok (.istore_n 3, 1) := by decide +kernel
theorem dX7_findRests_13 : decode cX7_findRests 13 = .ok (.iload_n 3, 1) := by decide +kernel
theorem dX7_findRests_14 : decode cX7_findRests 14 = .ok (.iconst 2, 1) := by decide +kernel
theorem dX7_findRests_15 : decode cX7_findRests 15 = .ok (.if_icmp .ge 126, 3) := by decide +kernel
theorem dX7_findRests_18 : decode cX7_findRests 18 = .ok (.iconst 0, 1) := by decide +kernel
theorem dX7_findRests_19 : decode cX7_findRests 19 = .ok (.istore 4, 2) := by decide +kernel
theorem dX7_findRests_21 : decode cX7_findRests 21 = .ok (.iload 4, 2) := by decide +kernel
theorem dX7_findRests_23 : decode cX7_findRests 23 = .ok (.iconst 2, 1) := by decide +kernel
theorem dX7_findRests_24 : decode cX7_findRests 24 = .ok (.if_icmp .ge 111, 3) := by decide +kernel
theorem dX7_findRests_27 : decode cX7_findRests 27 = .ok (.aload_n 0, 1) := by decide +kernel
theorem dX7_findRests_28 : decode cX7_findRests 28 = .ok (.iload_n 1, 1) := by decide +kernel
theorem dX7_findRests_29 : decode cX7_findRests 29 = .ok (.iload_n 2, 1) := by decide +kernel
theorem dX7_findRests_30 : decode cX7_findRests 30 = .ok (.iconst 1, 1) := by decide +kernel
theorem dX7_findRests_31 : decode cX7_findRests 31 = .ok (.iload_n 3, 1) := by decide +kernel
theorem dX7_findRests_32 : decode cX7_findRests 32 = .ok (.isub, 1) := by decide +kernel
theorem dX7_findRests_33 : decode cX7_findRests 33 = .ok (.iload 4, 2) := by decide +kernel
theorem dX7_findRests_35 : decode cX7_findRests 35 = .ok (.invokevirtual 204, 3) := by decide +kernel
theorem dX7_findRests_38 : decode cX7_findRests 38 = .ok (.aload_n 0, 1) := by decide +kernel
theorem dX7_findRests_39 : decode cX7_findRests 39 = .ok (.iload_n 1, 1) := by decide +kernel
theorem dX7_findRests_40 : decode cX7_findRests 40 = .ok (.iload_n 2, 1) := by decide +kernel
theorem dX7_findRests_41 : decode cX7_findRests 41 = .ok (.iload_n 3, 1) := by decide +kernel
theorem dX7_findRests_42 : decode cX7_findRests 42 = .ok (.iload 4, 2) := by decide +kernel
theorem dX7_findRests_44 : decode cX7_findRests 44 = .ok (.invokevirtual 204, 3) := by decide +kernel
theorem dX7_findRests_47 : decode cX7_findRests 47 = .ok (.if_icmp .gt 30, 3) := by decide +kernel
theorem dX7_findRests_50 : decode cX7_findRests 50 = .ok (.aload_n 0, 1) := by decide +kernel
theorem dX7_findRests_51 : decode cX7_findRests 51 = .ok (.iload_n 2, 1) := by decide +kernel
theorem dX7_findRests_52 : decode cX7_findRests 52 = .ok (.iload_n 1, 1) := by decide +kernel
theorem dX7_findRests_53 : decode cX7_findRests 53 = .ok (.iconst 1, 1) := by decide +kernel
theorem dX7_findRests_54 : decode cX7_findRests 54 = .ok (.iload 4, 2) := by decide +kernel
theorem dX7_findRests_56 : decode cX7_findRests 56 = .ok (.isub, 1) := by decide +kernel
theorem dX7_findRests_57 : decode cX7_findRests 57 = .ok (.iload_n 3, 1) := by decide +kernel
theorem dX7_findRests_58 : decode cX7_findRests 58 = .ok (.invokevirtual 204, 3) := by decide +kernel
theorem dX7_findRests_61 : decode cX7_findRests 61 = .ok (.aload_n 0, 1) := by decide +kernel
theorem dX7_findRests_62 : decode cX7_findRests 62 = .ok (.iload_n 2, 1) := by decide +kernel
theorem dX7_findRests_63 : decode cX7_findRests 63 = .ok (.iload_n 1, 1) := by decide +kernel
theorem dX7_findRests_64 : decode cX7_findRests 64 = .ok (.iload 4, 2) := by decide +kernel
theorem dX7_findRests_66 : decode cX7_findRests 66 = .ok (.iload_n 3, 1) := by decide +kernel
theorem dX7_findRests_67 : decode cX7_findRests 67 = .ok (.invokevirtual 204, 3) := by decide +kernel
theorem dX7_findRests_70 : decode cX7_findRests 70 = .ok (.if_icmp .gt 7, 3) := by decide +kernel
theorem dX7_findRests_73 : decode cX7_findRests 73 = .ok (.iconst 1, 1) := by decide +kernel
theorem dX7_findRests_74 : decode cX7_findRests 74 = .ok (.goto 4, 3) := by decide +kernel
theorem dX7_findRests_77 : decode cX7_findRests 77 = .ok (.iconst 0, 1) := by decide +kernel
theorem dX7_findRests_78 : decode cX7_findRests 78 = .ok (.istore 5, 2) := by decide +kernel
theorem dX7_findRests_80 : decode cX7_findRests 80 = .ok (.aload_n 0, 1) := by decide +kernel
theorem dX7_findRests_81 : decode cX7_findRests 81 = .ok (.iload 5, 2) := by decide +kernel
theorem dX7_findRests_83 : decode cX7_findRests 83 = .ok (.ifCond .eq 20, 3) := by decide +kernel
theorem dX7_findRests_86 : decode cX7_findRests 86 = .ok (.aload_n 0, 1) := by decide +kernel
theorem dX7_findRests_87 : decode cX7_findRests 87 = .ok (.getfield 198, 3) := by decide +kernel
theorem dX7_findRests_90 : decode cX7_findRests 90 = .ok (.ifCond .ne 13, 3) := by decide +kernel
theorem dX7_findRests_93 : decode cX7_findRests 93 = .ok (.bipush 10, 2) := by decide +kernel
theorem dX7_findRests_95 : decode cX7_findRests 95 = .ok (.iload_n 3, 1) := by decide +kernel
theorem dX7_findRests_96 : decode cX7_findRests 96 = .ok (.imul, 1) := by decide +kernel
theorem dX7_findRests_97 : decode cX7_findRests 97 = .ok (.iload 4, 2) := by decide +kernel
theorem dX7_findRests_99 : decode cX7_findRests 99 = .ok (.iadd, 1) := by decide +kernel
theorem dX7_findRests_100 : decode cX7_findRests 100 = .ok (.goto 7, 3) := by decide +kernel
theorem dX7_findRests_103 : decode cX7_findRests 103 = .ok (.aload_n 0, 1) := by decide +kernel
theorem dX7_findRests_104 : decode cX7_findRests 104 = .ok (.getfield 201, 3) := by decide +kernel
theorem dX7_findRests_107 : decode cX7_findRests 107 = .ok (.putfield 201, 3) := by decide +kernel
theorem dX7_findRests_110 : decode cX7_findRests 110 = .ok (.aload_n 0, 1) := by decide +kernel
theorem dX7_findRests_111 : decode cX7_findRests 111 = .ok (.dup, 1) := by decide +kernel
theorem dX7_findRests_112 : decode cX7_findRests 112 = .ok (.getfield 198, 3) := by decide +kernel
theorem dX7_findRests_115 : decode cX7_findRests 115 = .ok (.iload 5, 2) := by decide +kernel
theorem dX7_findRests_117 : decode cX7_findRests 117 = .ok (.ifCond .eq 7, 3) := by decide +kernel
theorem dX7_findRests_120 : decode cX7_findRests 120 = .ok (.iconst 1, 1) := by decide +kernel
theorem dX7_findRests_121 : decode cX7_findRests 121 = .ok (.goto 4, 3) := by decide +kernel
theorem dX7_findRests_124 : decode cX7_findRests 124 = .ok (.iconst 0, 1) := by decide +kernel
theorem dX7_findRests_125 : decode cX7_findRests 125 = .ok (.iadd, 1) := by decide +kernel
theorem dX7_findRests_126 : decode cX7_findRests 126 = .ok (.putfield 198, 3) := by decide +kernel
theorem dX7_findRests_129 : decode cX7_findRests 129 = .ok (.iinc 4 1, 3) := by decide +kernel
theorem dX7_findRests_132 : decode cX7_findRests 132 = .ok (.goto (-111), 3) := by decide +kernel
theorem dX7_findRests_135 : decode cX7_findRests 135 = .ok (.iinc 3 1, 3) := by decide +kernel
theorem dX7_findRests_138 : decode cX7_findRests 138 = .ok (.goto (-125), 3) := by decide +kernel
theorem dX7_findRests_141 : decode cX7_findRests 141 = .ok (.return_, 1) := by decide +kernel
theorem dX7_rests_0 : decode cX7_rests 0 = .ok (.aload_n 0, 1) := by decide +kernel
theorem dX7_rests_1 : decode cX7_rests 1 = .ok (.iconst 0, 1) := by decide +kernel
theorem dX7_rests_2 : decode cX7_rests 2 = .ok (.putfield 51, 3) := by decide +kernel
theorem dX7_rests_5 : decode cX7_rests 5 = .ok (.aload_n 0, 1) := by decide +kernel
theorem dX7_rests_6 : decode cX7_rests 6 = .ok (.iload_n 1, 1) := by decide +kernel
theorem dX7_rests_7 : decode cX7_rests 7 = .ok (.invokevirtual 140, 3) := by decide +kernel
theorem dX7_rests_10 : decode cX7_rests 10 = .ok (.ifCond .ne 11, 3) := by decide +kernel
theorem dX7_rests_13 : decode cX7_rests 13 = .ok (.aload_n 0, 1) := by decide +kernel
theorem dX7_rests_14 : decode cX7_rests 14 = .ok (.iload_n 2, 1) := by decide +kernel
theorem dX7_rests_15 : decode cX7_rests 15 = .ok (.invokevirtual 140, 3) := by decide +kernel
theorem dX7_rests_18 : decode cX7_rests 18 = .ok (.ifCond .eq 5, 3) := by decide +kernel
theorem dX7_rests_21 : decode cX7_rests 21 = .ok (.iconst (-1), 1) := by decide +kernel
theorem dX7_rests_22 : decode cX7_rests 22 = .ok (.ireturn, 1) := by decide +kernel
theorem dX7_rests_23 : decode cX7_rests 23 = .ok (.iload_n 1, 1) := by decide +kernel
theorem dX7_rests_24 : decode cX7_rests 24 = .ok (.iload_n 2, 1) := by decide +kernel
theorem dX7_rests_25 : decode cX7_rests 25 = .ok (.if_icmp .eq 13, 3) := by decide +kernel
theorem dX7_rests_28 : decode cX7_rests 28 = .ok (.iload_n 3, 1) := by decide +kernel
theorem dX7_rests_29 : decode cX7_rests 29 = .ok (.i2l, 1) := by decide +kernel
theorem dX7_rests_30 : decode cX7_rests 30 = .ok (.lconst 0, 1) := by decide +kernel
theorem dX7_rests_31 : decode cX7_rests 31 = .ok (.lconst 1, 1) := by decide +kernel
theorem dX7_rests_32 : decode cX7_rests 32 = .ok (.invokestatic 57, 3) := by decide +kernel
theorem dX7_rests_35 : decode cX7_rests 35 = .ok (.ifCond .ne 6, 3) := by decide +kernel
theorem dX7_rests_38 : decode cX7_rests 38 = .ok (.bipush (-2), 2) := by decide +kernel
theorem dX7_rests_40 : decode cX7_rests 40 = .ok (.ireturn, 1) := by decide +kernel
theorem dX7_rests_41 : decode cX7_rests 41 = .ok (.aload_n 0, 1) := by decide +kernel
theorem dX7_rests_42 : decode cX7_rests 42 = .ok (.iload_n 1, 1) := by decide +kernel
theorem dX7_rests_43 : decode cX7_rests 43 = .ok (.iload_n 2, 1) := by decide +kernel
theorem dX7_rests_44 : decode cX7_rests 44 = .ok (.invokevirtual 208, 3) := by decide +kernel
theorem dX7_rests_47 : decode cX7_rests 47 = .ok (.iload_n 3, 1) := by decide +kernel
theorem dX7_rests_48 : decode cX7_rests 48 = .ok (.ifCond .ne 10, 3) := by decide +kernel
theorem dX7_rests_51 : decode cX7_rests 51 = .ok (.aload_n 0, 1) := by decide +kernel
theorem dX7_rests_52 : decode cX7_rests 52 = .ok (.getfield 198, 3) := by decide +kernel
theorem dX7_rests_55 : decode cX7_rests 55 = .ok (.goto 7, 3) := by decide +kernel
theorem dX7_rests_58 : decode cX7_rests 58 = .ok (.aload_n 0, 1) := by decide +kernel
theorem dX7_rests_59 : decode cX7_rests 59 = .ok (.getfield 201, 3) := by decide +kernel
theorem dX7_rests_62 : decode cX7_rests 62 = .ok (.ireturn, 1) := by decide +kernel
theorem dX7_chance_0 : decode cX7_chance 0 = .ok (.aload_n 0, 1) := by decide +kernel
theorem dX7_chance_1 : decode cX7_chance 1 = .ok (.iconst 0, 1) := by decide +kernel
theorem dX7_chance_2 : decode cX7_chance 2 = .ok (.putfield 51, 3) := by decide +kernel
theorem dX7_chance_5 : decode cX7_chance 5 = .ok (.aload_n 0, 1) := by decide +kernel
theorem dX7_chance_6 : decode cX7_chance 6 = .ok (.iload_n 1, 1) := by decide +kernel
theorem dX7_chance_7 : decode cX7_chance 7 = .ok (.invokevirtual 140, 3) := by decide +kernel
theorem dX7_chance_10 : decode cX7_chance 10 = .ok (.ifCond .eq 5, 3) := by decide +kernel
theorem dX7_chance_13 : decode cX7_chance 13 = .ok (.iconst (-1), 1) := by decide +kernel
theorem dX7_chance_14 : decode cX7_chance 14 = .ok (.ireturn, 1) := by decide +kernel
theorem dX7_chance_15 : decode cX7_chance 15 = .ok (.iload_n 2, 1) := by decide +kernel
theorem dX7_chance_16 : decode cX7_chance 16 = .ok (.i2l, 1) := by decide +kernel
theorem dX7_chance_17 : decode cX7_chance 17 = .ok (.lconst 1, 1) := by decide +kernel
theorem dX7_chance_18 : decode cX7_chance 18 = .ok (.ldc2_w 212, 3) := by decide +kernel
theorem dX7_chance_21 : decode cX7_chance 21 = .ok (.invokestatic 57, 3) := by decide +kernel
theorem dX7_chance_24 : decode cX7_chance 24 = .ok (.ifCond .eq 15, 3) := by decide +kernel
theorem dX7_chance_27 : decode cX7_chance 27 = .ok (.iload_n 3, 1) := by decide +kernel
theorem dX7_chance_28 : decode cX7_chance 28 = .ok (.i2l, 1) := by decide +kernel
theorem dX7_chance_29 : decode cX7_chance 29 = .ok (.lconst 0, 1) := by decide +kernel
theorem dX7_chance_30 : decode cX7_chance 30 = .ok (.ldc2_w 214, 3) := by decide +kernel
theorem dX7_chance_33 : decode cX7_chance 33 = .ok (.invokestatic 57, 3) := by decide +kernel
theorem dX7_chance_36 : decode cX7_chance 36 = .ok (.ifCond .ne 6, 3) := by decide +kernel
theorem dX7_chance_39 : decode cX7_chance 39 = .ok (.bipush (-2), 2) := by decide +kernel
theorem dX7_chance_41 : decode cX7_chance 41 = .ok (.ireturn, 1) := by decide +kernel
theorem dX7_chance_42 : decode cX7_chance 42 = .ok (.iconst 0, 1) := by decide +kernel
theorem dX7_chance_43 : decode cX7_chance 43 = .ok (.istore 5, 2) := by decide +kernel
theorem dX7_chance_45 : decode cX7_chance 45 = .ok (.iconst 0, 1) := by decide +kernel
theorem dX7_chance_46 : decode cX7_chance 46 = .ok (.istore 6, 2) := by decide +kernel
theorem dX7_chance_48 : decode cX7_chance 48 = .ok (.iload 6, 2) := by decide +kernel
theorem dX7_chance_50 : decode cX7_chance 50 = .ok (.iconst 1, 1) := by decide +kernel
theorem dX7_chance_51 : decode cX7_chance 51 = .ok (.iload_n 2, 1) := by decide +kernel
theorem dX7_chance_52 : decode cX7_chance 52 = .ok (.ishl, 1) := by decide +kernel
theorem dX7_chance_53 : decode cX7_chance 53 = .ok (.if_icmp .ge 124, 3) := by decide +kernel
theorem dX7_chance_56 : decode cX7_chance 56 = .ok (.aload_n 0, 1) := by decide +kernel
theorem dX7_chance_57 : decode cX7_chance 57 = .ok (.invokevirtual 155, 3) := by decide +kernel
theorem dX7_chance_60 : decode cX7_chance 60 = .ok (.iconst 1, 1) := by decide +kernel
theorem dX7_chance_61 : decode cX7_chance 61 = .ok (.istore 7, 2) := by decide +kernel
theorem dX7_chance_63 : decode cX7_chance 63 = .ok (.iconst 0, 1) := by decide +kernel
theorem dX7_chance_64 : decode cX7_chance 64 = .ok (.istore 8, 2) := by decide +kernel
theorem dX7_chance_66 : decode cX7_chance 66 = .ok (.iload 8, 2) := by decide +kernel
theorem dX7_chance_68 : decode cX7_chance 68 = .ok (.iload_n 2, 1) := by decide +kernel
theorem dX7_chance_69 : decode cX7_chance 69 = .ok (.if_icmp .ge 77, 3) := by decide +kernel
theorem dX7_chance_72 : decode cX7_chance 72 = .ok (.iconst 0, 1) := by decide +kernel
theorem dX7_chance_73 : decode cX7_chance 73 = .ok (.istore 9, 2) := by decide +kernel
theorem dX7_chance_75 : decode cX7_chance 75 = .ok (.iload 9, 2) := by decide +kernel
theorem dX7_chance_77 : decode cX7_chance 77 = .ok (.aload_n 0, 1) := by decide +kernel
theorem dX7_chance_78 : decode cX7_chance 78 = .ok (.getfield 54, 3) := by decide +kernel
theorem dX7_chance_81 : decode cX7_chance 81 = .ok (.if_icmp .ge 28, 3) := by decide +kernel
theorem dX7_chance_84 : decode cX7_chance 84 = .ok (.iload 6, 2) := by decide +kernel
theorem dX7_chance_86 : decode cX7_chance 86 = .ok (.iload 8, 2) := by decide +kernel
theorem dX7_chance_88 : decode cX7_chance 88 = .ok (.invokestatic 99, 3) := by decide +kernel
theorem dX7_chance_91 : decode cX7_chance 91 = .ok (.ifCond .eq 18, 3) := by decide +kernel
theorem dX7_chance_94 : decode cX7_chance 94 = .ok (.aload_n 0, 1) := by decide +kernel
theorem dX7_chance_95 : decode cX7_chance 95 = .ok (.getfield 29, 3) := by decide +kernel
theorem dX7_chance_98 : decode cX7_chance 98 = .ok (.iload 9, 2) := by decide +kernel
theorem dX7_chance_100 : decode cX7_chance 100 = .ok (.invokestatic 121, 3) := by decide +kernel
theorem dX7_chance_103 : decode cX7_chance 103 = .ok (.iinc 9 1, 3) := by decide +kernel
theorem dX7_chance_106 : decode cX7_chance 106 = .ok (.goto (-31), 3) := by decide +kernel
theorem dX7_chance_109 : decode cX7_chance 109 = .ok (.iload 7, 2) := by decide +kernel
theorem dX7_chance_111 : decode cX7_chance 111 = .ok (.iload 6, 2) := by decide +kernel
theorem dX7_chance_113 : decode cX7_chance 113 = .ok (.iload 8, 2) := by decide +kernel
theorem dX7_chance_115 : decode cX7_chance 115 = .ok (.invokestatic 99, 3) := by decide +kernel
theorem dX7_chance_118 : decode cX7_chance 118 = .ok (.ifCond .eq 7, 3) := by decide +kernel
theorem dX7_chance_121 : decode cX7_chance 121 = .ok (.iload_n 3, 1) := by decide +kernel
theorem dX7_chance_122 : decode cX7_chance 122 = .ok (.goto 7, 3) := by decide +kernel
theorem dX7_chance_125 : decode cX7_chance 125 = .ok (.bipush 10, 2) := by decide +kernel
theorem dX7_chance_127 : decode cX7_chance 127 = .ok (.iload_n 3, 1) := by decide +kernel
theorem dX7_chance_128 : decode cX7_chance 128 = .ok (.isub, 1) := by decide +kernel
theorem dX7_chance_129 : decode cX7_chance 129 = .ok (.imul, 1) := by decide +kernel
theorem dX7_chance_130 : decode cX7_chance 130 = .ok (.istore 7, 2) := by decide +kernel
theorem dX7_chance_132 : decode cX7_chance 132 = .ok (.aload_n 0, 1) := by decide +kernel
theorem dX7_chance_133 : decode cX7_chance 133 = .ok (.aload_n 0, 1) := by decide +kernel
theorem dX7_chance_134 : decode cX7_chance 134 = .ok (.getfield 29, 3) := by decide +kernel
theorem dX7_chance_137 : decode cX7_chance 137 = .ok (.invokevirtual 147, 3) := by decide +kernel
theorem dX7_chance_140 : decode cX7_chance 140 = .ok (.iinc 8 1, 3) := by decide +kernel
theorem dX7_chance_143 : decode cX7_chance 143 = .ok (.goto (-77), 3) := by decide +kernel
theorem dX7_chance_146 : decode cX7_chance 146 = .ok (.iload 5, 2) := by decide +kernel
theorem dX7_chance_148 : decode cX7_chance 148 = .ok (.aload_n 0, 1) := by decide +kernel
theorem dX7_chance_149 : decode cX7_chance 149 = .ok (.getfield 29, 3) := by decide +kernel
theorem dX7_chance_152 : decode cX7_chance 152 = .ok (.bipush 30, 2) := by decide +kernel
theorem dX7_chance_154 : decode cX7_chance 154 = .ok (.iaload, 1) := by decide +kernel
theorem dX7_chance_155 : decode cX7_chance 155 = .ok (.iload_n 1, 1) := by decide +kernel
theorem dX7_chance_156 : decode cX7_chance 156 = .ok (.invokestatic 99, 3) := by decide +kernel
theorem dX7_chance_159 : decode cX7_chance 159 = .ok (.ifCond .eq 8, 3) := by decide +kernel
theorem dX7_chance_162 : decode cX7_chance 162 = .ok (.iload 7, 2) := by decide +kernel
theorem dX7_chance_164 : decode cX7_chance 164 = .ok (.goto 4, 3) := by decide +kernel
theorem dX7_chance_167 : decode cX7_chance 167 = .ok (.iconst 0, 1) := by decide +kernel
theorem dX7_chance_168 : decode cX7_chance 168 = .ok (.iadd, 1) := by decide +kernel
theorem dX7_chance_169 : decode cX7_chance 169 = .ok (.istore 5, 2) := by decide +kernel
theorem dX7_chance_171 : decode cX7_chance 171 = .ok (.iinc 6 1, 3) := by decide +kernel
theorem dX7_chance_174 : decode cX7_chance 174 = .ok (.goto (-126), 3) := by decide +kernel
theorem dX7_chance_177 : decode cX7_chance 177 = .ok (.iload 5, 2) := by decide +kernel
theorem dX7_chance_179 : decode cX7_chance 179 = .ok (.bipush 10, 2) := by decide +kernel
theorem dX7_chance_181 : decode cX7_chance 181 = .ok (.iload_n 2, 1) := by decide +kernel
theorem dX7_chance_182 : decode cX7_chance 182 = .ok (.invokestatic 177, 3) := by decide +kernel
theorem dX7_chance_185 : decode cX7_chance 185 = .ok (.iload 4, 2) := by decide +kernel
theorem dX7_chance_187 : decode cX7_chance 187 = .ok (.invokestatic 189, 3) := by decide +kernel
theorem dX7_chance_190 : decode cX7_chance 190 = .ok (.ireturn, 1) := by decide +kernel
theorem dX7_seed_0 : decode cX7_seed 0 = .ok (.aload_n 0, 1) := by decide +kernel
theorem dX7_seed_1 : decode cX7_seed 1 = .ok (.iconst 0, 1) := by decide +kernel
theorem dX7_seed_2 : decode cX7_seed 2 = .ok (.putfield 51, 3) := by decide +kernel
theorem dX7_seed_5 : decode cX7_seed 5 = .ok (.aload_n 0, 1) := by decide +kernel
theorem dX7_seed_6 : decode cX7_seed 6 = .ok (.getfield 216, 3) := by decide +kernel
theorem dX7_seed_9 : decode cX7_seed 9 = .ok (.lstore_n 3, 1) := by decide +kernel
theorem dX7_seed_10 : decode cX7_seed 10 = .ok (.aload_n 0, 1) := by decide +kernel
theorem dX7_seed_11 : decode cX7_seed 11 = .ok (.lload_n 1, 1) := by decide +kernel
theorem dX7_seed_12 : decode cX7_seed 12 = .ok (.putfield 216, 3) := by decide +kernel
theorem dX7_seed_15 : decode cX7_seed 15 = .ok (.lload_n 3, 1) := by decide +kernel
theorem dX7_seed_16 : decode cX7_seed 16 = .ok (.lreturn, 1) := by decide +kernel
theorem dX7_days_0 : decode cX7_days 0 = .ok (.aload_n 0, 1) := by decide +kernel
theorem dX7_days_1 : decode cX7_days 1 = .ok (.iconst 0, 1) := by decide +kernel
theorem dX7_days_2 : decode cX7_days 2 = .ok (.putfield 51, 3) := by decide +kernel
theorem dX7_days_5 : decode cX7_days 5 = .ok (.iload_n 1, 1) := by decide +kernel
theorem dX7_days_6 : decode cX7_days 6 = .ok (.i2l, 1) := by decide +kernel
theorem dX7_days_7 : decode cX7_days 7 = .ok (.lconst 1, 1) := by decide +kernel
theorem dX7_days_8 : decode cX7_days 8 = .ok (.ldc2_w 173, 3) := by decide +kernel
theorem dX7_days_11 : decode cX7_days 11 = .ok (.invokestatic 57, 3) := by decide +kernel
theorem dX7_days_14 : decode cX7_days 14 = .ok (.ifCond .ne 6, 3) := by decide +kernel
theorem dX7_days_17 : decode cX7_days 17 = .ok (.bipush (-2), 2) := by decide +kernel
theorem dX7_days_19 : decode cX7_days 19 = .ok (.ireturn, 1) := by decide +kernel
theorem dX7_days_20 : decode cX7_days 20 = .ok (.aload_n 0, 1) := by decide +kernel
theorem dX7_days_21 : decode cX7_days 21 = .ok (.invokevirtual 155, 3) := by decide +kernel
theorem dX7_days_24 : decode cX7_days 24 = .ok (.iconst 0, 1) := by decide +kernel
theorem dX7_days_25 : decode cX7_days 25 = .ok (.istore_n 2, 1) := by decide +kernel
theorem dX7_days_26 : decode cX7_days 26 = .ok (.iload_n 2, 1) := by decide +kernel
theorem dX7_days_27 : decode cX7_days 27 = .ok (.iload_n 1, 1) := by decide +kernel
theorem dX7_days_28 : decode cX7_days 28 = .ok (.if_icmp .ge 63, 3) := by decide +kernel
theorem dX7_days_31 : decode cX7_days 31 = .ok (.aload_n 0, 1) := by decide +kernel
theorem dX7_days_32 : decode cX7_days 32 = .ok (.aload_n 0, 1) := by decide +kernel
theorem dX7_days_33 : decode cX7_days 33 = .ok (.getfield 216, 3) := by decide +kernel
theorem dX7_days_36 : decode cX7_days 36 = .ok (.ldc2_w 220, 3) := by decide +kernel
theorem dX7_days_39 : decode cX7_days 39 = .ok (.lmul, 1) := by decide +kernel
theorem dX7_days_40 : decode cX7_days 40 = .ok (.ldc2_w 222, 3) := by decide +kernel
theorem dX7_days_43 : decode cX7_days 43 = .ok (.ladd, 1) := by decide +kernel
theorem dX7_days_44 : decode cX7_days 44 = .ok (.putfield 216, 3) := by decide +kernel
theorem dX7_days_47 : decode cX7_days 47 = .ok (.aload_n 0, 1) := by decide +kernel
theorem dX7_days_48 : decode cX7_days 48 = .ok (.getfield 216, 3) := by decide +kernel
theorem dX7_days_51 : decode cX7_days 51 = .ok (.bipush 33, 2) := by decide +kernel
theorem dX7_days_53 : decode cX7_days 53 = .ok (.lushr, 1) := by decide +kernel
theorem dX7_days_54 : decode cX7_days 54 = .ok (.ldc2_w 214, 3) := by decide +kernel
theorem dX7_days_57 : decode cX7_days 57 = .ok (.lrem, 1) := by decide +kernel
theorem dX7_days_58 : decode cX7_days 58 = .ok (.l2i, 1) := by decide +kernel
theorem dX7_days_59 : decode cX7_days 59 = .ok (.istore_n 3, 1) := by decide +kernel
theorem dX7_days_60 : decode cX7_days 60 = .ok (.iload_n 3, 1) := by decide +kernel
theorem dX7_days_61 : decode cX7_days 61 = .ok (.iconst 4, 1) := by decide +kernel
theorem dX7_days_62 : decode cX7_days 62 = .ok (.if_icmp .le 14, 3) := by decide +kernel
theorem dX7_days_65 : decode cX7_days 65 = .ok (.aload_n 0, 1) := by decide +kernel
theorem dX7_days_66 : decode cX7_days 66 = .ok (.aload_n 0, 1) := by decide +kernel
theorem dX7_days_67 : decode cX7_days 67 = .ok (.getfield 29, 3) := by decide +kernel
theorem dX7_days_70 : decode cX7_days 70 = .ok (.invokevirtual 147, 3) := by decide +kernel
theorem dX7_days_73 : decode cX7_days 73 = .ok (.goto 12, 3) := by decide +kernel
theorem dX7_days_76 : decode cX7_days 76 = .ok (.aload_n 0, 1) := by decide +kernel
theorem dX7_days_77 : decode cX7_days 77 = .ok (.bipush 20, 2) := by decide +kernel
theorem dX7_days_79 : decode cX7_days 79 = .ok (.iload_n 3, 1) := by decide +kernel
theorem dX7_days_80 : decode cX7_days 80 = .ok (.iadd, 1) := by decide +kernel
theorem dX7_days_81 : decode cX7_days 81 = .ok (.invokevirtual 180, 3) := by decide +kernel
theorem dX7_days_84 : decode cX7_days 84 = .ok (.pop, 1) := by decide +kernel
theorem dX7_days_85 : decode cX7_days 85 = .ok (.iinc 2 1, 3) := by decide +kernel
theorem dX7_days_88 : decode cX7_days 88 = .ok (.goto (-62), 3) := by decide +kernel
theorem dX7_days_91 : decode cX7_days 91 = .ok (.aload_n 0, 1) := by decide +kernel
theorem dX7_days_92 : decode cX7_days 92 = .ok (.aload_n 0, 1) := by decide +kernel
theorem dX7_days_93 : decode cX7_days 93 = .ok (.getfield 29, 3) := by decide +kernel
theorem dX7_days_96 : decode cX7_days 96 = .ok (.bipush 15, 2) := by decide +kernel
theorem dX7_days_98 : decode cX7_days 98 = .ok (.invokevirtual 158, 3) := by decide +kernel
theorem dX7_days_101 : decode cX7_days 101 = .ok (.aload_n 0, 1) := by decide +kernel
theorem dX7_days_102 : decode cX7_days 102 = .ok (.aload_n 0, 1) := by decide +kernel
theorem dX7_days_103 : decode cX7_days 103 = .ok (.getfield 26, 3) := by decide +kernel
theorem dX7_days_106 : decode cX7_days 106 = .ok (.bipush 15, 2) := by decide +kernel
theorem dX7_days_108 : decode cX7_days 108 = .ok (.invokevirtual 158, 3) := by decide +kernel
theorem dX7_days_111 : decode cX7_days 111 = .ok (.isub, 1) := by decide +kernel
theorem dX7_days_112 : decode cX7_days 112 = .ok (.ireturn, 1) := by decide +kernel
theorem dX7_keep_0 : decode cX7_keep 0 = .ok (.aload_n 0, 1) := by decide +kernel
theorem dX7_keep_1 : decode cX7_keep 1 = .ok (.iconst 0, 1) := by decide +kernel
theorem dX7_keep_2 : decode cX7_keep 2 = .ok (.putfield 51, 3) := by decide +kernel
theorem dX7_keep_5 : decode cX7_keep 5 = .ok (.iload_n 1, 1) := by decide +kernel
theorem dX7_keep_6 : decode cX7_keep 6 = .ok (.i2l, 1) := by decide +kernel
theorem dX7_keep_7 : decode cX7_keep 7 = .ok (.lconst 0, 1) := by decide +kernel
theorem dX7_keep_8 : decode cX7_keep 8 = .ok (.lconst 1, 1) := by decide +kernel
theorem dX7_keep_9 : decode cX7_keep 9 = .ok (.invokestatic 57, 3) := by decide +kernel
theorem dX7_keep_12 : decode cX7_keep 12 = .ok (.ifCond .ne 5, 3) := by decide +kernel
theorem dX7_keep_15 : decode cX7_keep 15 = .ok (.iconst (-1), 1) := by decide +kernel
theorem dX7_keep_16 : decode cX7_keep 16 = .ok (.ireturn, 1) := by decide +kernel
theorem dX7_keep_17 : decode cX7_keep 17 = .ok (.aload_n 0, 1) := by decide +kernel
theorem dX7_keep_18 : decode cX7_keep 18 = .ok (.getfield 38, 3) := by decide +kernel
theorem dX7_keep_21 : decode cX7_keep 21 = .ok (.iload_n 1, 1) := by decide +kernel
theorem dX7_keep_22 : decode cX7_keep 22 = .ok (.iconst 1, 1) := by decide +kernel
theorem dX7_keep_23 : decode cX7_keep 23 = .ok (.bastore, 1) := by decide +kernel
theorem dX7_keep_24 : decode cX7_keep 24 = .ok (.iconst 0, 1) := by decide +kernel
theorem dX7_keep_25 : decode cX7_keep 25 = .ok (.istore_n 2, 1) := by decide +kernel
theorem dX7_keep_26 : decode cX7_keep 26 = .ok (.iload_n 2, 1) := by decide +kernel
theorem dX7_keep_27 : decode cX7_keep 27 = .ok (.bipush 36, 2) := by decide +kernel
theorem dX7_keep_29 : decode cX7_keep 29 = .ok (.if_icmp .ge 26, 3) := by decide +kernel
theorem dX7_keep_32 : decode cX7_keep 32 = .ok (.aload_n 0, 1) := by decide +kernel
theorem dX7_keep_33 : decode cX7_keep 33 = .ok (.getfield 35, 3) := by decide +kernel
theorem dX7_keep_36 : decode cX7_keep 36 = .ok (.bipush 36, 2) := by decide +kernel
theorem dX7_keep_38 : decode cX7_keep 38 = .ok (.iload_n 1, 1) := by decide +kernel
theorem dX7_keep_39 : decode cX7_keep 39 = .ok (.imul, 1) := by decide +kernel
theorem dX7_keep_40 : decode cX7_keep 40 = .ok (.iload_n 2, 1) := by decide +kernel
theorem dX7_keep_41 : decode cX7_keep 41 = .ok (.iadd, 1) := by decide +kernel
theorem dX7_keep_42 : decode cX7_keep 42 = .ok (.aload_n 0, 1) := by decide +kernel
theorem dX7_keep_43 : decode cX7_keep 43 = .ok (.getfield 26, 3) := by decide +kernel
theorem dX7_keep_46 : decode cX7_keep 46 = .ok (.iload_n 2, 1) := by decide +kernel
theorem dX7_keep_47 : decode cX7_keep 47 = .ok (.iaload, 1) := by decide +kernel
theorem dX7_keep_48 : decode cX7_keep 48 = .ok (.iastore, 1) := by decide +kernel
theorem dX7_keep_49 : decode cX7_keep 49 = .ok (.iinc 2 1, 3) := by decide +kernel
theorem dX7_keep_52 : decode cX7_keep 52 = .ok (.goto (-26), 3) := by decide +kernel
theorem dX7_keep_55 : decode cX7_keep 55 = .ok (.aload_n 0, 1) := by decide +kernel
theorem dX7_keep_56 : decode cX7_keep 56 = .ok (.getfield 26, 3) := by decide +kernel
theorem dX7_keep_59 : decode cX7_keep 59 = .ok (.bipush 35, 2) := by decide +kernel
theorem dX7_keep_61 : decode cX7_keep 61 = .ok (.iaload, 1) := by decide +kernel
theorem dX7_keep_62 : decode cX7_keep 62 = .ok (.ireturn, 1) := by decide +kernel
theorem dX7_again_0 : decode cX7_again 0 = .ok (.aload_n 0, 1) := by decide +kernel
theorem dX7_again_1 : decode cX7_again 1 = .ok (.iconst 0, 1) := by decide +kernel
theorem dX7_again_2 : decode cX7_again 2 = .ok (.putfield 51, 3) := by decide +kernel
theorem dX7_again_5 : decode cX7_again 5 = .ok (.iload_n 1, 1) := by decide +kernel
theorem dX7_again_6 : decode cX7_again 6 = .ok (.i2l, 1) := by decide +kernel
theorem dX7_again_7 : decode cX7_again 7 = .ok (.lconst 0, 1) := by decide +kernel
theorem dX7_again_8 : decode cX7_again 8 = .ok (.lconst 1, 1) := by decide +kernel
theorem dX7_again_9 : decode cX7_again 9 = .ok (.invokestatic 57, 3) := by decide +kernel
theorem dX7_again_12 : decode cX7_again 12 = .ok (.ifCond .ne 5, 3) := by decide +kernel
theorem dX7_again_15 : decode cX7_again 15 = .ok (.iconst (-1), 1) := by decide +kernel
theorem dX7_again_16 : decode cX7_again 16 = .ok (.ireturn, 1) := by decide +kernel
theorem dX7_again_17 : decode cX7_again 17 = .ok (.aload_n 0, 1) := by decide +kernel
theorem dX7_again_18 : decode cX7_again 18 = .ok (.getfield 38, 3) := by decide +kernel
theorem dX7_again_21 : decode cX7_again 21 = .ok (.iload_n 1, 1) := by decide +kernel
theorem dX7_again_22 : decode cX7_again 22 = .ok (.baload, 1) := by decide +kernel
theorem dX7_again_23 : decode cX7_again 23 = .ok (.ifCond .ne 6, 3) := by decide +kernel
theorem dX7_again_26 : decode cX7_again 26 = .ok (.bipush (-3), 2) := by decide +kernel
theorem dX7_again_28 : decode cX7_again 28 = .ok (.ireturn, 1) := by decide +kernel
theorem dX7_again_29 : decode cX7_again 29 = .ok (.iconst 0, 1) := by decide +kernel
theorem dX7_again_30 : decode cX7_again 30 = .ok (.istore_n 2, 1) := by decide +kernel
theorem dX7_again_31 : decode cX7_again 31 = .ok (.iload_n 2, 1) := by decide +kernel
theorem dX7_again_32 : decode cX7_again 32 = .ok (.bipush 36, 2) := by decide +kernel
theorem dX7_again_34 : decode cX7_again 34 = .ok (.if_icmp .ge 26, 3) := by decide +kernel
theorem dX7_again_37 : decode cX7_again 37 = .ok (.aload_n 0, 1) := by decide +kernel
theorem dX7_again_38 : decode cX7_again 38 = .ok (.getfield 26, 3) := by decide +kernel
theorem dX7_again_41 : decode cX7_again 41 = .ok (.iload_n 2, 1) := by decide +kernel
theorem dX7_again_42 : decode cX7_again 42 = .ok (.aload_n 0, 1) := by decide +kernel
theorem dX7_again_43 : decode cX7_again 43 = .ok (.getfield 35, 3) := by decide +kernel
theorem dX7_again_46 : decode cX7_again 46 = .ok (.bipush 36, 2) := by decide +kernel
theorem dX7_again_48 : decode cX7_again 48 = .ok (.iload_n 1, 1) := by decide +kernel
theorem dX7_again_49 : decode cX7_again 49 = .ok (.imul, 1) := by decide +kernel
theorem dX7_again_50 : decode cX7_again 50 = .ok (.iload_n 2, 1) := by decide +kernel
theorem dX7_again_51 : decode cX7_again 51 = .ok (.iadd, 1) := by decide +kernel
theorem dX7_again_52 : decode cX7_again 52 = .ok (.iaload, 1) := by decide +kernel
theorem dX7_again_53 : decode cX7_again 53 = .ok (.iastore, 1) := by decide +kernel
theorem dX7_again_54 : decode cX7_again 54 = .ok (.iinc 2 1, 3) := by decide +kernel
theorem dX7_again_57 : decode cX7_again 57 = .ok (.goto (-26), 3) := by decide +kernel
theorem dX7_again_60 : decode cX7_again 60 = .ok (.aload_n 0, 1) := by decide +kernel
theorem dX7_again_61 : decode cX7_again 61 = .ok (.iconst 0, 1) := by decide +kernel
theorem dX7_again_62 : decode cX7_again 62 = .ok (.putfield 93, 3) := by decide +kernel
theorem dX7_again_65 : decode cX7_again 65 = .ok (.aload_n 0, 1) := by decide +kernel
theorem dX7_again_66 : decode cX7_again 66 = .ok (.getfield 26, 3) := by decide +kernel
theorem dX7_again_69 : decode cX7_again 69 = .ok (.bipush 35, 2) := by decide +kernel
theorem dX7_again_71 : decode cX7_again 71 = .ok (.iaload, 1) := by decide +kernel
theorem dX7_again_72 : decode cX7_again 72 = .ok (.ireturn, 1) := by decide +kernel
