theorem dX6_init_0 : decode cX6_init 0 = .ok (.aload_n 0, 1) := by decide +kernel
theorem dX6_init_1 : decode cX6_init 1 = .ok (.invokespecial 1, 3) := by decide +kernel
theorem dX6_init_4 : decode cX6_init 4 = .ok (.aload_n 0, 1) := by decide +kernel
theorem dX6_init_5 : decode cX6_init 5 = .ok (.new 7, 3) := by decide +kernel
theorem dX6_init_8 : decode cX6_init 8 = .ok (.dup, 1) := by decide +kernel
theorem dX6_init_9 : decode cX6_init 9 = .ok (.invokespecial 9, 3) := by decide +kernel
theorem dX6_init_12 : decode cX6_init 12 = .ok (.putfield 10, 3) := by decide +kernel
theorem dX6_init_15 : decode cX6_init 15 = .ok (.aload_n 0, 1) := by decide +kernel
theorem dX6_init_16 : decode cX6_init 16 = .ok (.new 16, 3) := by decide +kernel
theorem dX6_init_19 : decode cX6_init 19 = .ok (.dup, 1) := by decide +kernel
theorem dX6_init_20 : decode cX6_init 20 = .ok (.invokespecial 18, 3) := by decide +kernel
theorem dX6_init_23 : decode cX6_init 23 = .ok (.putfield 19, 3) := by decide +kernel
theorem dX6_init_26 : decode cX6_init 26 = .ok (.aload_n 0, 1) := by decide +kernel
theorem dX6_init_27 : decode cX6_init 27 = .ok (.new 23, 3) := by decide +kernel
theorem dX6_init_30 : decode cX6_init 30 = .ok (.dup, 1) := by decide +kernel
theorem dX6_init_31 : decode cX6_init 31 = .ok (.aload_n 0, 1) := by decide +kernel
theorem dX6_init_32 : decode cX6_init 32 = .ok (.getfield 19, 3) := by decide +kernel
theorem dX6_init_35 : decode cX6_init 35 = .ok (.invokespecial 25, 3) := by decide +kernel
theorem dX6_init_38 : decode cX6_init 38 = .ok (.putfield 28, 3) := by decide +kernel
theorem dX6_init_41 : decode cX6_init 41 = .ok (.aload_n 0, 1) := by decide +kernel
theorem dX6_init_42 : decode cX6_init 42 = .ok (.new 23, 3) := by decide +kernel
theorem dX6_init_45 : decode cX6_init 45 = .ok (.dup, 1) := by decide +kernel
theorem dX6_init_46 : decode cX6_init 46 = .ok (.aload_n 0, 1) := by decide +kernel
theorem dX6_init_47 : decode cX6_init 47 = .ok (.getfield 19, 3) := by decide +kernel
theorem dX6_init_50 : decode cX6_init 50 = .ok (.invokespecial 25, 3) := by decide +kernel
theorem dX6_init_53 : decode cX6_init 53 = .ok (.putfield 32, 3) := by decide +kernel
theorem dX6_init_56 : decode cX6_init 56 = .ok (.aload_n 0, 1) := by decide +kernel
theorem dX6_init_57 : decode cX6_init 57 = .ok (.new 35, 3) := by decide +kernel
theorem dX6_init_60 : decode cX6_init 60 = .ok (.dup, 1) := by decide +kernel
theorem dX6_init_61 : decode cX6_init 61 = .ok (.aload_n 0, 1) := by decide +kernel
theorem dX6_init_62 : decode cX6_init 62 = .ok (.getfield 19, 3) := by decide +kernel
theorem dX6_init_65 : decode cX6_init 65 = .ok (.invokespecial 37, 3) := by decide +kernel
theorem dX6_init_68 : decode cX6_init 68 = .ok (.putfield 38, 3) := by decide +kernel
theorem dX6_init_71 : decode cX6_init 71 = .ok (.aload_n 0, 1) := by decide +kernel
theorem dX6_init_72 : decode cX6_init 72 = .ok (.new 42, 3) := by decide +kernel
theorem dX6_init_75 : decode cX6_init 75 = .ok (.dup, 1) := by decide +kernel
theorem dX6_init_76 : decode cX6_init 76 = .ok (.aload_n 0, 1) := by decide +kernel
theorem dX6_init_77 : decode cX6_init 77 = .ok (.getfield 19, 3) := by decide +kernel
theorem dX6_init_80 : decode cX6_init 80 = .ok (.invokespecial 44, 3) := by decide +kernel
theorem dX6_init_83 : decode cX6_init 83 = .ok (.putfield 45, 3) := by decide +kernel
theorem dX6_init_86 : decode cX6_init 86 = .ok (.aload_n 0, 1) := by decide +kernel
theorem dX6_init_87 : decode cX6_init 87 = .ok (.new 49, 3) := by decide +kernel
theorem dX6_init_90 : decode cX6_init 90 = .ok (.dup, 1) := by decide +kernel
theorem dX6_init_91 : decode cX6_init 91 = .ok (.invokespecial 51, 3) := by decide +kernel
theorem dX6_init_94 : decode cX6_init 94 = .ok (.putfield 52, 3) := by decide +kernel
theorem dX6_init_97 : decode cX6_init 97 = .ok (.aload_n 0, 1) := by decide +kernel
theorem dX6_init_98 : decode cX6_init 98 = .ok (.bipush 32, 2) := by decide +kernel
theorem dX6_init_100 : decode cX6_init 100 = .ok (.newarray .int, 2) := by decide +kernel
theorem dX6_init_102 : decode cX6_init 102 = .ok (.putfield 56, 3) := by decide +kernel
theorem dX6_init_105 : decode cX6_init 105 = .ok (.aload_n 0, 1) := by decide +kernel
theorem dX6_init_106 : decode cX6_init 106 = .ok (.lconst 0, 1) := by decide +kernel
theorem dX6_init_107 : decode cX6_init 107 = .ok (.putfield 60, 3) := by decide +kernel
theorem dX6_init_110 : decode cX6_init 110 = .ok (.return_, 1) := by decide +kernel
theorem dX6_write_0 : decode cX6_write 0 = .ok (.iload_n 1, 1) := by decide +kernel
theorem dX6_write_1 : decode cX6_write 1 = .ok (.ifCond .lt 10, 3) := by decide +kernel
theorem dX6_write_4 : decode cX6_write 4 = .ok (.iload_n 1, 1) := by decide +kernel
theorem dX6_write_5 : decode cX6_write 5 = .ok (.sipush 255, 3) := by decide +kernel
theorem dX6_write_8 : decode cX6_write 8 = .ok (.if_icmp .le 6, 3) := by decide +kernel
theorem dX6_write_11 : decode cX6_write 11 = .ok (.bipush (-2), 2) := by decide +kernel
theorem dX6_write_13 : decode cX6_write 13 = .ok (.ireturn, 1) := by decide +kernel
theorem dX6_write_14 : decode cX6_write 14 = .ok (.aload_n 0, 1) := by decide +kernel
theorem dX6_write_15 : decode cX6_write 15 = .ok (.getfield 10, 3) := by decide +kernel
theorem dX6_write_18 : decode cX6_write 18 = .ok (.getfield 64, 3) := by decide +kernel
theorem dX6_write_21 : decode cX6_write 21 = .ok (.bipush 32, 2) := by decide +kernel
theorem dX6_write_23 : decode cX6_write 23 = .ok (.if_icmp .lt 6, 3) := by decide +kernel
theorem dX6_write_26 : decode cX6_write 26 = .ok (.bipush (-4), 2) := by decide +kernel
theorem dX6_write_28 : decode cX6_write 28 = .ok (.ireturn, 1) := by decide +kernel
theorem dX6_write_29 : decode cX6_write 29 = .ok (.aload_n 0, 1) := by decide +kernel
theorem dX6_write_30 : decode cX6_write 30 = .ok (.getfield 10, 3) := by decide +kernel
theorem dX6_write_33 : decode cX6_write 33 = .ok (.iload_n 1, 1) := by decide +kernel
theorem dX6_write_34 : decode cX6_write 34 = .ok (.invokevirtual 68, 3) := by decide +kernel
theorem dX6_write_37 : decode cX6_write 37 = .ok (.aload_n 0, 1) := by decide +kernel
theorem dX6_write_38 : decode cX6_write 38 = .ok (.getfield 10, 3) := by decide +kernel
theorem dX6_write_41 : decode cX6_write 41 = .ok (.getfield 64, 3) := by decide +kernel
theorem dX6_write_44 : decode cX6_write 44 = .ok (.ireturn, 1) := by decide +kernel
theorem dX6_wipe_0 : decode cX6_wipe 0 = .ok (.aload_n 0, 1) := by decide +kernel
theorem dX6_wipe_1 : decode cX6_wipe 1 = .ok (.getfield 10, 3) := by decide +kernel
theorem dX6_wipe_4 : decode cX6_wipe 4 = .ok (.getfield 64, 3) := by decide +kernel
theorem dX6_wipe_7 : decode cX6_wipe 7 = .ok (.istore_n 1, 1) := by decide +kernel
theorem dX6_wipe_8 : decode cX6_wipe 8 = .ok (.aload_n 0, 1) := by decide +kernel
theorem dX6_wipe_9 : decode cX6_wipe 9 = .ok (.getfield 10, 3) := by decide +kernel
theorem dX6_wipe_12 : decode cX6_wipe 12 = .ok (.iconst 0, 1) := by decide +kernel
theorem dX6_wipe_13 : decode cX6_wipe 13 = .ok (.putfield 64, 3) := by decide +kernel
theorem dX6_wipe_16 : decode cX6_wipe 16 = .ok (.iload_n 1, 1) := by decide +kernel
theorem dX6_wipe_17 : decode cX6_wipe 17 = .ok (.ireturn, 1) := by decide +kernel
theorem dX6_fault_0 : decode cX6_fault 0 = .ok (.aload_n 0, 1) := by decide +kernel
theorem dX6_fault_1 : decode cX6_fault 1 = .ok (.getfield 10, 3) := by decide +kernel
theorem dX6_fault_4 : decode cX6_fault 4 = .ok (.invokevirtual 72, 3) := by decide +kernel
theorem dX6_fault_7 : decode cX6_fault 7 = .ok (.ireturn, 1) := by decide +kernel
theorem dX6_garden_0 : decode cX6_garden 0 = .ok (.aload_n 0, 1) := by decide +kernel
theorem dX6_garden_1 : decode cX6_garden 1 = .ok (.getfield 10, 3) := by decide +kernel
theorem dX6_garden_4 : decode cX6_garden 4 = .ok (.invokevirtual 72, 3) := by decide +kernel
theorem dX6_garden_7 : decode cX6_garden 7 = .ok (.bipush (-9), 2) := by decide +kernel
theorem dX6_garden_9 : decode cX6_garden 9 = .ok (.if_icmp .eq 6, 3) := by decide +kernel
theorem dX6_garden_12 : decode cX6_garden 12 = .ok (.bipush (-3), 2) := by decide +kernel
theorem dX6_garden_14 : decode cX6_garden 14 = .ok (.ireturn, 1) := by decide +kernel
theorem dX6_garden_15 : decode cX6_garden 15 = .ok (.aload_n 0, 1) := by decide +kernel
theorem dX6_garden_16 : decode cX6_garden 16 = .ok (.getfield 19, 3) := by decide +kernel
theorem dX6_garden_19 : decode cX6_garden 19 = .ok (.aload_n 0, 1) := by decide +kernel
theorem dX6_garden_20 : decode cX6_garden 20 = .ok (.getfield 10, 3) := by decide +kernel
theorem dX6_garden_23 : decode cX6_garden 23 = .ok (.invokevirtual 76, 3) := by decide +kernel
theorem dX6_garden_26 : decode cX6_garden 26 = .ok (.aload_n 0, 1) := by decide +kernel
theorem dX6_garden_27 : decode cX6_garden 27 = .ok (.getfield 28, 3) := by decide +kernel
theorem dX6_garden_30 : decode cX6_garden 30 = .ok (.aload_n 0, 1) := by decide +kernel
theorem dX6_garden_31 : decode cX6_garden 31 = .ok (.getfield 10, 3) := by decide +kernel
theorem dX6_garden_34 : decode cX6_garden 34 = .ok (.invokevirtual 80, 3) := by decide +kernel
theorem dX6_garden_37 : decode cX6_garden 37 = .ok (.aload_n 0, 1) := by decide +kernel
theorem dX6_garden_38 : decode cX6_garden 38 = .ok (.getfield 38, 3) := by decide +kernel
theorem dX6_garden_41 : decode cX6_garden 41 = .ok (.invokevirtual 83, 3) := by decide +kernel
theorem dX6_garden_44 : decode cX6_garden 44 = .ok (.aload_n 0, 1) := by decide +kernel
theorem dX6_garden_45 : decode cX6_garden 45 = .ok (.getfield 45, 3) := by decide +kernel
theorem dX6_garden_48 : decode cX6_garden 48 = .ok (.invokevirtual 86, 3) := by decide +kernel
theorem dX6_garden_51 : decode cX6_garden 51 = .ok (.aload_n 0, 1) := by decide +kernel
theorem dX6_garden_52 : decode cX6_garden 52 = .ok (.getfield 19, 3) := by decide +kernel
theorem dX6_garden_55 : decode cX6_garden 55 = .ok (.getfield 87, 3) := by decide +kernel
theorem dX6_garden_58 : decode cX6_garden 58 = .ok (.ireturn, 1) := by decide +kernel
theorem dX6_about_0 : decode cX6_about 0 = .ok (.iload_n 1, 1) := by decide +kernel
theorem dX6_about_1 : decode cX6_about 1 = .ok (.tableswitch 171 0 12 #[67, 75, 83, 91, 99, 107, 115, 123, 131, 139, 147, 155, 163], 67) := by decide +kernel
theorem dX6_about_68 : decode cX6_about 68 = .ok (.aload_n 0, 1) := by decide +kernel
theorem dX6_about_69 : decode cX6_about 69 = .ok (.getfield 19, 3) := by decide +kernel
theorem dX6_about_72 : decode cX6_about 72 = .ok (.getfield 87, 3) := by decide +kernel
theorem dX6_about_75 : decode cX6_about 75 = .ok (.ireturn, 1) := by decide +kernel
theorem dX6_about_76 : decode cX6_about 76 = .ok (.aload_n 0, 1) := by decide +kernel
theorem dX6_about_77 : decode cX6_about 77 = .ok (.getfield 28, 3) := by decide +kernel
theorem dX6_about_80 : decode cX6_about 80 = .ok (.getfield 90, 3) := by decide +kernel
theorem dX6_about_83 : decode cX6_about 83 = .ok (.ireturn, 1) := by decide +kernel
theorem dX6_about_84 : decode cX6_about 84 = .ok (.aload_n 0, 1) := by decide +kernel
theorem dX6_about_85 : decode cX6_about 85 = .ok (.getfield 28, 3) := by decide +kernel
theorem dX6_about_88 : decode cX6_about 88 = .ok (.getfield 93, 3) := by decide +kernel
theorem dX6_about_91 : decode cX6_about 91 = .ok (.ireturn, 1) := by decide +kernel
theorem dX6_about_92 : decode cX6_about 92 = .ok (.aload_n 0, 1) := by decide +kernel
theorem dX6_about_93 : decode cX6_about 93 = .ok (.getfield 28, 3) := by decide +kernel
theorem dX6_about_96 : decode cX6_about 96 = .ok (.getfield 94, 3) := by decide +kernel
theorem dX6_about_99 : decode cX6_about 99 = .ok (.ireturn, 1) := by decide +kernel
theorem dX6_about_100 : decode cX6_about 100 = .ok (.aload_n 0, 1) := by decide +kernel
theorem dX6_about_101 : decode cX6_about 101 = .ok (.getfield 28, 3) := by decide +kernel
theorem dX6_about_104 : decode cX6_about 104 = .ok (.getfield 97, 3) := by decide +kernel
theorem dX6_about_107 : decode cX6_about 107 = .ok (.ireturn, 1) := by decide +kernel
theorem dX6_about_108 : decode cX6_about 108 = .ok (.aload_n 0, 1) := by decide +kernel
theorem dX6_about_109 : decode cX6_about 109 = .ok (.getfield 28, 3) := by decide +kernel
theorem dX6_about_112 : decode cX6_about 112 = .ok (.invokevirtual 100, 3) := by decide +kernel
theorem dX6_about_115 : decode cX6_about 115 = .ok (.ireturn, 1) := by decide +kernel
theorem dX6_about_116 : decode cX6_about 116 = .ok (.aload_n 0, 1) := by decide +kernel
theorem dX6_about_117 : decode cX6_about 117 = .ok (.getfield 28, 3) := by decide +kernel
theorem dX6_about_120 : decode cX6_about 120 = .ok (.invokevirtual 103, 3) := by decide +kernel
theorem dX6_about_123 : decode cX6_about 123 = .ok (.ireturn, 1) := by decide +kernel
theorem dX6_about_124 : decode cX6_about 124 = .ok (.aload_n 0, 1) := by decide +kernel
theorem dX6_about_125 : decode cX6_about 125 = .ok (.getfield 28, 3) := by decide +kernel
theorem dX6_about_128 : decode cX6_about 128 = .ok (.invokevirtual 106, 3) := by decide +kernel
theorem dX6_about_131 : decode cX6_about 131 = .ok (.ireturn, 1) := by decide +kernel
theorem dX6_about_132 : decode cX6_about 132 = .ok (.aload_n 0, 1) := by decide +kernel
theorem dX6_about_133 : decode cX6_about 133 = .ok (.getfield 28, 3) := by decide +kernel
theorem dX6_about_136 : decode cX6_about 136 = .ok (.getfield 109, 3) := by decide +kernel
theorem dX6_about_139 : decode cX6_about 139 = .ok (.ireturn, 1) := by decide +kernel
theorem dX6_about_140 : decode cX6_about 140 = .ok (.aload_n 0, 1) := by decide +kernel
theorem dX6_about_141 : decode cX6_about 141 = .ok (.getfield 28, 3) := by decide +kernel
theorem dX6_about_144 : decode cX6_about 144 = .ok (.getfield 112, 3) := by decide +kernel
theorem dX6_about_147 : decode cX6_about 147 = .ok (.ireturn, 1) := by decide +kernel
theorem dX6_about_148 : decode cX6_about 148 = .ok (.aload_n 0, 1) := by decide +kernel
theorem dX6_about_149 : decode cX6_about 149 = .ok (.getfield 38, 3) := by decide +kernel
theorem dX6_about_152 : decode cX6_about 152 = .ok (.getfield 115, 3) := by decide +kernel
theorem dX6_about_155 : decode cX6_about 155 = .ok (.ireturn, 1) := by decide +kernel
theorem dX6_about_156 : decode cX6_about 156 = .ok (.aload_n 0, 1) := by decide +kernel
theorem dX6_about_157 : decode cX6_about 157 = .ok (.getfield 52, 3) := by decide +kernel
theorem dX6_about_160 : decode cX6_about 160 = .ok (.getfield 116, 3) := by decide +kernel
theorem dX6_about_163 : decode cX6_about 163 = .ok (.ireturn, 1) := by decide +kernel
theorem dX6_about_164 : decode cX6_about 164 = .ok (.aload_n 0, 1) := by decide +kernel
theorem dX6_about_165 : decode cX6_about 165 = .ok (.getfield 10, 3) := by decide +kernel
theorem dX6_about_168 : decode cX6_about 168 = .ok (.getfield 64, 3) := by decide +kernel
theorem dX6_about_171 : decode cX6_about 171 = .ok (.ireturn, 1) := by decide +kernel
theorem dX6_about_172 : decode cX6_about 172 = .ok (.bipush (-2), 2) := by decide +kernel
theorem dX6_about_174 : decode cX6_about 174 = .ok (.ireturn, 1) := by decide +kernel
theorem dX6_child_0 : decode cX6_child 0 = .ok (.aload_n 0, 1) := by decide +kernel
theorem dX6_child_1 : decode cX6_child 1 = .ok (.getfield 28, 3) := by decide +kernel
theorem dX6_child_4 : decode cX6_child 4 = .ok (.iload_n 1, 1) := by decide +kernel
theorem dX6_child_5 : decode cX6_child 5 = .ok (.invokevirtual 117, 3) := by decide +kernel
theorem dX6_child_8 : decode cX6_child 8 = .ok (.ifCond .ne 5, 3) := by decide +kernel
theorem dX6_child_11 : decode cX6_child 11 = .ok (.iconst (-1), 1) := by decide +kernel
theorem dX6_child_12 : decode cX6_child 12 = .ok (.ireturn, 1) := by decide +kernel
theorem dX6_child_13 : decode cX6_child 13 = .ok (.iload_n 2, 1) := by decide +kernel
theorem dX6_child_14 : decode cX6_child 14 = .ok (.tableswitch 139 0 8 #[50, 60, 70, 80, 89, 99, 109, 119, 129], 50) := by decide +kernel
theorem dX6_child_64 : decode cX6_child 64 = .ok (.aload_n 0, 1) := by decide +kernel
theorem dX6_child_65 : decode cX6_child 65 = .ok (.getfield 28, 3) := by decide +kernel
theorem dX6_child_68 : decode cX6_child 68 = .ok (.getfield 121, 3) := by decide +kernel
theorem dX6_child_71 : decode cX6_child 71 = .ok (.iload_n 1, 1) := by decide +kernel
theorem dX6_child_72 : decode cX6_child 72 = .ok (.iaload, 1) := by decide +kernel
theorem dX6_child_73 : decode cX6_child 73 = .ok (.ireturn, 1) := by decide +kernel
theorem dX6_child_74 : decode cX6_child 74 = .ok (.aload_n 0, 1) := by decide +kernel
theorem dX6_child_75 : decode cX6_child 75 = .ok (.getfield 19, 3) := by decide +kernel
theorem dX6_child_78 : decode cX6_child 78 = .ok (.getfield 124, 3) := by decide +kernel
theorem dX6_child_81 : decode cX6_child 81 = .ok (.iload_n 1, 1) := by decide +kernel
theorem dX6_child_82 : decode cX6_child 82 = .ok (.iaload, 1) := by decide +kernel
theorem dX6_child_83 : decode cX6_child 83 = .ok (.ireturn, 1) := by decide +kernel
theorem dX6_child_84 : decode cX6_child 84 = .ok (.aload_n 0, 1) := by decide +kernel
theorem dX6_child_85 : decode cX6_child 85 = .ok (.getfield 19, 3) := by decide +kernel
theorem dX6_child_88 : decode cX6_child 88 = .ok (.getfield 127, 3) := by decide +kernel
theorem dX6_child_91 : decode cX6_child 91 = .ok (.iload_n 1, 1) := by decide +kernel
theorem dX6_child_92 : decode cX6_child 92 = .ok (.iaload, 1) := by decide +kernel
theorem dX6_child_93 : decode cX6_child 93 = .ok (.ireturn, 1) := by decide +kernel
theorem dX6_child_94 : decode cX6_child 94 = .ok (.aload_n 0, 1) := by decide +kernel
theorem dX6_child_95 : decode cX6_child 95 = .ok (.getfield 19, 3) := by decide +kernel
theorem dX6_child_98 : decode cX6_child 98 = .ok (.iload_n 1, 1) := by decide +kernel
theorem dX6_child_99 : decode cX6_child 99 = .ok (.invokevirtual 130, 3) := by decide +kernel
theorem dX6_child_102 : decode cX6_child 102 = .ok (.ireturn, 1) := by decide +kernel
theorem dX6_child_103 : decode cX6_child 103 = .ok (.aload_n 0, 1) := by decide +kernel
theorem dX6_child_104 : decode cX6_child 104 = .ok (.getfield 28, 3) := by decide +kernel
theorem dX6_child_107 : decode cX6_child 107 = .ok (.getfield 134, 3) := by decide +kernel
theorem dX6_child_110 : decode cX6_child 110 = .ok (.iload_n 1, 1) := by decide +kernel
theorem dX6_child_111 : decode cX6_child 111 = .ok (.iaload, 1) := by decide +kernel
theorem dX6_child_112 : decode cX6_child 112 = .ok (.ireturn, 1) := by decide +kernel
theorem dX6_child_113 : decode cX6_child 113 = .ok (.aload_n 0, 1) := by decide +kernel
theorem dX6_child_114 : decode cX6_child 114 = .ok (.getfield 28, 3) := by decide +kernel
theorem dX6_child_117 : decode cX6_child 117 = .ok (.getfield 137, 3) := by decide +kernel
theorem dX6_child_120 : decode cX6_child 120 = .ok (.iload_n 1, 1) := by decide +kernel
theorem dX6_child_121 : decode cX6_child 121 = .ok (.iaload, 1) := by decide +kernel
theorem dX6_child_122 : decode cX6_child 122 = .ok (.ireturn, 1) := by decide +kernel
theorem dX6_child_123 : decode cX6_child 123 = .ok (.aload_n 0, 1) := by decide +kernel
theorem dX6_child_124 : decode cX6_child 124 = .ok (.getfield 28, 3) := by decide +kernel
theorem dX6_child_127 : decode cX6_child 127 = .ok (.getfield 140, 3) := by decide +kernel
theorem dX6_child_130 : decode cX6_child 130 = .ok (.iload_n 1, 1) := by decide +kernel
theorem dX6_child_131 : decode cX6_child 131 = .ok (.iaload, 1) := by decide +kernel
theorem dX6_child_132 : decode cX6_child 132 = .ok (.ireturn, 1) := by decide +kernel
theorem dX6_child_133 : decode cX6_child 133 = .ok (.aload_n 0, 1) := by decide +kernel
theorem dX6_child_134 : decode cX6_child 134 = .ok (.getfield 28, 3) := by decide +kernel
theorem dX6_child_137 : decode cX6_child 137 = .ok (.getfield 143, 3) := by decide +kernel
theorem dX6_child_140 : decode cX6_child 140 = .ok (.iload_n 1, 1) := by decide +kernel
theorem dX6_child_141 : decode cX6_child 141 = .ok (.iaload, 1) := by decide +kernel
theorem dX6_child_142 : decode cX6_child 142 = .ok (.ireturn, 1) := by decide +kernel
theorem dX6_child_143 : decode cX6_child 143 = .ok (.aload_n 0, 1) := by decide +kernel
theorem dX6_child_144 : decode cX6_child 144 = .ok (.getfield 28, 3) := by decide +kernel
theorem dX6_child_147 : decode cX6_child 147 = .ok (.getfield 146, 3) := by decide +kernel
theorem dX6_child_150 : decode cX6_child 150 = .ok (.iload_n 1, 1) := by decide +kernel
theorem dX6_child_151 : decode cX6_child 151 = .ok (.iaload, 1) := by decide +kernel
theorem dX6_child_152 : decode cX6_child 152 = .ok (.ireturn, 1) := by decide +kernel
theorem dX6_child_153 : decode cX6_child 153 = .ok (.bipush (-2), 2) := by decide +kernel
theorem dX6_child_155 : decode cX6_child 155 = .ok (.ireturn, 1) := by decide +kernel
theorem dX6_minute_0 : decode cX6_minute 0 = .ok (.aload_n 0, 1) := by decide +kernel
theorem dX6_minute_1 : decode cX6_minute 1 = .ok (.getfield 38, 3) := by decide +kernel
theorem dX6_minute_4 : decode cX6_minute 4 = .ok (.aload_n 0, 1) := by decide +kernel
theorem dX6_minute_5 : decode cX6_minute 5 = .ok (.getfield 28, 3) := by decide +kernel
theorem dX6_minute_8 : decode cX6_minute 8 = .ok (.invokevirtual 149, 3) := by decide +kernel
theorem dX6_minute_11 : decode cX6_minute 11 = .ok (.aload_n 0, 1) := by decide +kernel
theorem dX6_minute_12 : decode cX6_minute 12 = .ok (.getfield 28, 3) := by decide +kernel
theorem dX6_minute_15 : decode cX6_minute 15 = .ok (.invokevirtual 153, 3) := by decide +kernel
theorem dX6_minute_18 : decode cX6_minute 18 = .ok (.aload_n 0, 1) := by decide +kernel
theorem dX6_minute_19 : decode cX6_minute 19 = .ok (.getfield 28, 3) := by decide +kernel
theorem dX6_minute_22 : decode cX6_minute 22 = .ok (.getfield 97, 3) := by decide +kernel
theorem dX6_minute_25 : decode cX6_minute 25 = .ok (.ireturn, 1) := by decide +kernel
theorem dX6_give_0 : decode cX6_give 0 = .ok (.aload_n 0, 1) := by decide +kernel
theorem dX6_give_1 : decode cX6_give 1 = .ok (.getfield 28, 3) := by decide +kernel
theorem dX6_give_4 : decode cX6_give 4 = .ok (.iload_n 1, 1) := by decide +kernel
theorem dX6_give_5 : decode cX6_give 5 = .ok (.invokevirtual 117, 3) := by decide +kernel
theorem dX6_give_8 : decode cX6_give 8 = .ok (.ifCond .eq 14, 3) := by decide +kernel
theorem dX6_give_11 : decode cX6_give 11 = .ok (.aload_n 0, 1) := by decide +kernel
theorem dX6_give_12 : decode cX6_give 12 = .ok (.getfield 28, 3) := by decide +kernel
theorem dX6_give_15 : decode cX6_give 15 = .ok (.iload_n 2, 1) := by decide +kernel
theorem dX6_give_16 : decode cX6_give 16 = .ok (.invokevirtual 117, 3) := by decide +kernel
theorem dX6_give_19 : decode cX6_give 19 = .ok (.ifCond .ne 5, 3) := by decide +kernel
theorem dX6_give_22 : decode cX6_give 22 = .ok (.iconst (-1), 1) := by decide +kernel
theorem dX6_give_23 : decode cX6_give 23 = .ok (.ireturn, 1) := by decide +kernel
theorem dX6_give_24 : decode cX6_give 24 = .ok (.iload_n 1, 1) := by decide +kernel
theorem dX6_give_25 : decode cX6_give 25 = .ok (.iload_n 2, 1) := by decide +kernel
theorem dX6_give_26 : decode cX6_give 26 = .ok (.if_icmp .ne 6, 3) := by decide +kernel
theorem dX6_give_29 : decode cX6_give 29 = .ok (.bipush (-2), 2) := by decide +kernel
theorem dX6_give_31 : decode cX6_give 31 = .ok (.ireturn, 1) := by decide +kernel
theorem dX6_give_32 : decode cX6_give 32 = .ok (.aload_n 0, 1) := by decide +kernel
theorem dX6_give_33 : decode cX6_give 33 = .ok (.getfield 28, 3) := by decide +kernel
theorem dX6_give_36 : decode cX6_give 36 = .ok (.iload_n 1, 1) := by decide +kernel
theorem dX6_give_37 : decode cX6_give 37 = .ok (.invokevirtual 156, 3) := by decide +kernel
theorem dX6_give_40 : decode cX6_give 40 = .ok (.ifCond .eq 14, 3) := by decide +kernel
theorem dX6_give_43 : decode cX6_give 43 = .ok (.aload_n 0, 1) := by decide +kernel
theorem dX6_give_44 : decode cX6_give 44 = .ok (.getfield 28, 3) := by decide +kernel
theorem dX6_give_47 : decode cX6_give 47 = .ok (.iload_n 2, 1) := by decide +kernel
theorem dX6_give_48 : decode cX6_give 48 = .ok (.invokevirtual 156, 3) := by decide +kernel
theorem dX6_give_51 : decode cX6_give 51 = .ok (.ifCond .eq 6, 3) := by decide +kernel
theorem dX6_give_54 : decode cX6_give 54 = .ok (.bipush (-3), 2) := by decide +kernel
theorem dX6_give_56 : decode cX6_give 56 = .ok (.ireturn, 1) := by decide +kernel
theorem dX6_give_57 : decode cX6_give 57 = .ok (.aload_n 0, 1) := by decide +kernel
theorem dX6_give_58 : decode cX6_give 58 = .ok (.getfield 38, 3) := by decide +kernel
theorem dX6_give_61 : decode cX6_give 61 = .ok (.aload_n 0, 1) := by decide +kernel
theorem dX6_give_62 : decode cX6_give 62 = .ok (.getfield 28, 3) := by decide +kernel
theorem dX6_give_65 : decode cX6_give 65 = .ok (.invokevirtual 149, 3) := by decide +kernel
theorem dX6_give_68 : decode cX6_give 68 = .ok (.aload_n 0, 1) := by decide +kernel
theorem dX6_give_69 : decode cX6_give 69 = .ok (.getfield 28, 3) := by decide +kernel
theorem dX6_give_72 : decode cX6_give 72 = .ok (.getfield 134, 3) := by decide +kernel
theorem dX6_give_75 : decode cX6_give 75 = .ok (.iload_n 1, 1) := by decide +kernel
theorem dX6_give_76 : decode cX6_give 76 = .ok (.iaload, 1) := by decide +kernel
theorem dX6_give_77 : decode cX6_give 77 = .ok (.istore_n 3, 1) := by decide +kernel
theorem dX6_give_78 : decode cX6_give 78 = .ok (.aload_n 0, 1) := by decide +kernel
theorem dX6_give_79 : decode cX6_give 79 = .ok (.getfield 28, 3) := by decide +kernel
theorem dX6_give_82 : decode cX6_give 82 = .ok (.iload_n 1, 1) := by decide +kernel
theorem dX6_give_83 : decode cX6_give 83 = .ok (.invokevirtual 159, 3) := by decide +kernel
theorem dX6_give_86 : decode cX6_give 86 = .ok (.aload_n 0, 1) := by decide +kernel
theorem dX6_give_87 : decode cX6_give 87 = .ok (.getfield 28, 3) := by decide +kernel
theorem dX6_give_90 : decode cX6_give 90 = .ok (.iload_n 2, 1) := by decide +kernel
theorem dX6_give_91 : decode cX6_give 91 = .ok (.invokevirtual 162, 3) := by decide +kernel
theorem dX6_give_94 : decode cX6_give 94 = .ok (.iload_n 3, 1) := by decide +kernel
theorem dX6_give_95 : decode cX6_give 95 = .ok (.ireturn, 1) := by decide +kernel
theorem dX6_push_0 : decode cX6_push 0 = .ok (.aload_n 0, 1) := by decide +kernel
theorem dX6_push_1 : decode cX6_push 1 = .ok (.getfield 28, 3) := by decide +kernel
theorem dX6_push_4 : decode cX6_push 4 = .ok (.iload_n 1, 1) := by decide +kernel
theorem dX6_push_5 : decode cX6_push 5 = .ok (.invokevirtual 117, 3) := by decide +kernel
theorem dX6_push_8 : decode cX6_push 8 = .ok (.ifCond .ne 5, 3) := by decide +kernel
theorem dX6_push_11 : decode cX6_push 11 = .ok (.iconst (-1), 1) := by decide +kernel
theorem dX6_push_12 : decode cX6_push 12 = .ok (.ireturn, 1) := by decide +kernel
theorem dX6_push_13 : decode cX6_push 13 = .ok (.aload_n 0, 1) := by decide +kernel
theorem dX6_push_14 : decode cX6_push 14 = .ok (.getfield 28, 3) := by decide +kernel
theorem dX6_push_17 : decode cX6_push 17 = .ok (.iload_n 1, 1) := by decide +kernel
theorem dX6_push_18 : decode cX6_push 18 = .ok (.invokevirtual 165, 3) := by decide +kernel
theorem dX6_push_21 : decode cX6_push 21 = .ok (.ifCond .ne 6, 3) := by decide +kernel
theorem dX6_push_24 : decode cX6_push 24 = .ok (.bipush (-3), 2) := by decide +kernel
theorem dX6_push_26 : decode cX6_push 26 = .ok (.ireturn, 1) := by decide +kernel
theorem dX6_push_27 : decode cX6_push 27 = .ok (.aload_n 0, 1) := by decide +kernel
theorem dX6_push_28 : decode cX6_push 28 = .ok (.getfield 38, 3) := by decide +kernel
theorem dX6_push_31 : decode cX6_push 31 = .ok (.aload_n 0, 1) := by decide +kernel
theorem dX6_push_32 : decode cX6_push 32 = .ok (.getfield 28, 3) := by decide +kernel
theorem dX6_push_35 : decode cX6_push 35 = .ok (.invokevirtual 149, 3) := by decide +kernel
theorem dX6_push_38 : decode cX6_push 38 = .ok (.aload_n 0, 1) := by decide +kernel
theorem dX6_push_39 : decode cX6_push 39 = .ok (.getfield 28, 3) := by decide +kernel
theorem dX6_push_42 : decode cX6_push 42 = .ok (.iload_n 1, 1) := by decide +kernel
theorem dX6_push_43 : decode cX6_push 43 = .ok (.invokevirtual 168, 3) := by decide +kernel
theorem dX6_push_46 : decode cX6_push 46 = .ok (.aload_n 0, 1) := by decide +kernel
theorem dX6_push_47 : decode cX6_push 47 = .ok (.getfield 28, 3) := by decide +kernel
theorem dX6_push_50 : decode cX6_push 50 = .ok (.getfield 146, 3) := by decide +kernel
theorem dX6_push_53 : decode cX6_push 53 = .ok (.iload_n 1, 1) := by decide +kernel
theorem dX6_push_54 : decode cX6_push 54 = .ok (.iaload, 1) := by decide +kernel
theorem dX6_push_55 : decode cX6_push 55 = .ok (.ireturn, 1) := by decide +kernel
theorem dX6_call_0 : decode cX6_call 0 = .ok (.aload_n 0, 1) := by decide +kernel
theorem dX6_call_1 : decode cX6_call 1 = .ok (.getfield 28, 3) := by decide +kernel
theorem dX6_call_4 : decode cX6_call 4 = .ok (.iload_n 1, 1) := by decide +kernel
theorem dX6_call_5 : decode cX6_call 5 = .ok (.invokevirtual 117, 3) := by decide +kernel
theorem dX6_call_8 : decode cX6_call 8 = .ok (.ifCond .ne 5, 3) := by decide +kernel
theorem dX6_call_11 : decode cX6_call 11 = .ok (.iconst (-1), 1) := by decide +kernel
theorem dX6_call_12 : decode cX6_call 12 = .ok (.ireturn, 1) := by decide +kernel
theorem dX6_call_13 : decode cX6_call 13 = .ok (.aload_n 0, 1) := by decide +kernel
theorem dX6_call_14 : decode cX6_call 14 = .ok (.getfield 28, 3) := by decide +kernel
theorem dX6_call_17 : decode cX6_call 17 = .ok (.iload_n 1, 1) := by decide +kernel
theorem dX6_call_18 : decode cX6_call 18 = .ok (.invokevirtual 171, 3) := by decide +kernel
theorem dX6_call_21 : decode cX6_call 21 = .ok (.ifCond .ne 6, 3) := by decide +kernel
theorem dX6_call_24 : decode cX6_call 24 = .ok (.bipush (-3), 2) := by decide +kernel
theorem dX6_call_26 : decode cX6_call 26 = .ok (.ireturn, 1) := by decide +kernel
theorem dX6_call_27 : decode cX6_call 27 = .ok (.aload_n 0, 1) := by decide +kernel
theorem dX6_call_28 : decode cX6_call 28 = .ok (.getfield 38, 3) := by decide +kernel
theorem dX6_call_31 : decode cX6_call 31 = .ok (.aload_n 0, 1) := by decide +kernel
theorem dX6_call_32 : decode cX6_call 32 = .ok (.getfield 28, 3) := by decide +kernel
theorem dX6_call_35 : decode cX6_call 35 = .ok (.invokevirtual 149, 3) := by decide +kernel
theorem dX6_call_38 : decode cX6_call 38 = .ok (.aload_n 0, 1) := by decide +kernel
theorem dX6_call_39 : decode cX6_call 39 = .ok (.getfield 28, 3) := by decide +kernel
theorem dX6_call_42 : decode cX6_call 42 = .ok (.getfield 121, 3) := by decide +kernel
theorem dX6_call_45 : decode cX6_call 45 = .ok (.iload_n 1, 1) := by decide +kernel
theorem dX6_call_46 : decode cX6_call 46 = .ok (.iaload, 1) := by decide +kernel
theorem dX6_call_47 : decode cX6_call 47 = .ok (.istore_n 2, 1) := by decide +kernel
theorem dX6_call_48 : decode cX6_call 48 = .ok (.aload_n 0, 1) := by decide +kernel
theorem dX6_call_49 : decode cX6_call 49 = .ok (.getfield 28, 3) := by decide +kernel
theorem dX6_call_52 : decode cX6_call 52 = .ok (.iload_n 1, 1) := by decide +kernel
theorem dX6_call_53 : decode cX6_call 53 = .ok (.invokevirtual 174, 3) := by decide +kernel
theorem dX6_call_56 : decode cX6_call 56 = .ok (.iload_n 2, 1) := by decide +kernel
theorem dX6_call_57 : decode cX6_call 57 = .ok (.ireturn, 1) := by decide +kernel
theorem dX6_rule_0 : decode cX6_rule 0 = .ok (.iload_n 1, 1) := by decide +kernel
theorem dX6_rule_1 : decode cX6_rule 1 = .ok (.invokestatic 177, 3) := by decide +kernel
theorem dX6_rule_4 : decode cX6_rule 4 = .ok (.ifCond .eq 10, 3) := by decide +kernel
theorem dX6_rule_7 : decode cX6_rule 7 = .ok (.iload_n 2, 1) := by decide +kernel
theorem dX6_rule_8 : decode cX6_rule 8 = .ok (.invokestatic 180, 3) := by decide +kernel
theorem dX6_rule_11 : decode cX6_rule 11 = .ok (.ifCond .ne 6, 3) := by decide +kernel
theorem dX6_rule_14 : decode cX6_rule 14 = .ok (.bipush (-2), 2) := by decide +kernel
theorem dX6_rule_16 : decode cX6_rule 16 = .ok (.ireturn, 1) := by decide +kernel
theorem dX6_rule_17 : decode cX6_rule 17 = .ok (.iload_n 1, 1) := by decide +kernel
theorem dX6_rule_18 : decode cX6_rule 18 = .ok (.aload_n 0, 1) := by decide +kernel
theorem dX6_rule_19 : decode cX6_rule 19 = .ok (.getfield 28, 3) := by decide +kernel
theorem dX6_rule_22 : decode cX6_rule 22 = .ok (.getfield 90, 3) := by decide +kernel
theorem dX6_rule_25 : decode cX6_rule 25 = .ok (.if_icmp .ne 17, 3) := by decide +kernel
theorem dX6_rule_28 : decode cX6_rule 28 = .ok (.iload_n 2, 1) := by decide +kernel
theorem dX6_rule_29 : decode cX6_rule 29 = .ok (.aload_n 0, 1) := by decide +kernel
theorem dX6_rule_30 : decode cX6_rule 30 = .ok (.getfield 28, 3) := by decide +kernel
theorem dX6_rule_33 : decode cX6_rule 33 = .ok (.getfield 93, 3) := by decide +kernel
theorem dX6_rule_36 : decode cX6_rule 36 = .ok (.if_icmp .ne 6, 3) := by decide +kernel
theorem dX6_rule_39 : decode cX6_rule 39 = .ok (.bipush (-3), 2) := by decide +kernel
theorem dX6_rule_41 : decode cX6_rule 41 = .ok (.ireturn, 1) := by decide +kernel
theorem dX6_rule_42 : decode cX6_rule 42 = .ok (.aload_n 0, 1) := by decide +kernel
theorem dX6_rule_43 : decode cX6_rule 43 = .ok (.getfield 38, 3) := by decide +kernel
theorem dX6_rule_46 : decode cX6_rule 46 = .ok (.aload_n 0, 1) := by decide +kernel
theorem dX6_rule_47 : decode cX6_rule 47 = .ok (.getfield 28, 3) := by decide +kernel
theorem dX6_rule_50 : decode cX6_rule 50 = .ok (.invokevirtual 149, 3) := by decide +kernel
theorem dX6_rule_53 : decode cX6_rule 53 = .ok (.aload_n 0, 1) := by decide +kernel
theorem dX6_rule_54 : decode cX6_rule 54 = .ok (.getfield 28, 3) := by decide +kernel
theorem dX6_rule_57 : decode cX6_rule 57 = .ok (.getfield 90, 3) := by decide +kernel
theorem dX6_rule_60 : decode cX6_rule 60 = .ok (.istore_n 3, 1) := by decide +kernel
theorem dX6_rule_61 : decode cX6_rule 61 = .ok (.aload_n 0, 1) := by decide +kernel
theorem dX6_rule_62 : decode cX6_rule 62 = .ok (.getfield 28, 3) := by decide +kernel
theorem dX6_rule_65 : decode cX6_rule 65 = .ok (.iload_n 1, 1) := by decide +kernel
theorem dX6_rule_66 : decode cX6_rule 66 = .ok (.iload_n 2, 1) := by decide +kernel
theorem dX6_rule_67 : decode cX6_rule 67 = .ok (.invokevirtual 183, 3) := by decide +kernel
theorem dX6_rule_70 : decode cX6_rule 70 = .ok (.iload_n 3, 1) := by decide +kernel
theorem dX6_rule_71 : decode cX6_rule 71 = .ok (.ireturn, 1) := by decide +kernel
theorem dX6_put_0 : decode cX6_put 0 = .ok (.aload_n 0, 1) := by decide +kernel
theorem dX6_put_1 : decode cX6_put 1 = .ok (.getfield 38, 3) := by decide +kernel
theorem dX6_put_4 : decode cX6_put 4 = .ok (.aload_n 0, 1) := by decide +kernel
theorem dX6_put_5 : decode cX6_put 5 = .ok (.getfield 28, 3) := by decide +kernel
theorem dX6_put_8 : decode cX6_put 8 = .ok (.invokevirtual 149, 3) := by decide +kernel
theorem dX6_put_11 : decode cX6_put 11 = .ok (.aload_n 0, 1) := by decide +kernel
theorem dX6_put_12 : decode cX6_put 12 = .ok (.getfield 28, 3) := by decide +kernel
theorem dX6_put_15 : decode cX6_put 15 = .ok (.invokevirtual 187, 3) := by decide +kernel
theorem dX6_put_18 : decode cX6_put 18 = .ok (.aload_n 0, 1) := by decide +kernel
theorem dX6_put_19 : decode cX6_put 19 = .ok (.getfield 28, 3) := by decide +kernel
theorem dX6_put_22 : decode cX6_put 22 = .ok (.getfield 94, 3) := by decide +kernel
theorem dX6_put_25 : decode cX6_put 25 = .ok (.ireturn, 1) := by decide +kernel
theorem dX6_undo_0 : decode cX6_undo 0 = .ok (.aload_n 0, 1) := by decide +kernel
theorem dX6_undo_1 : decode cX6_undo 1 = .ok (.getfield 38, 3) := by decide +kernel
theorem dX6_undo_4 : decode cX6_undo 4 = .ok (.getfield 115, 3) := by decide +kernel
theorem dX6_undo_7 : decode cX6_undo 7 = .ok (.ifCond .ne 6, 3) := by decide +kernel
theorem dX6_undo_10 : decode cX6_undo 10 = .ok (.bipush (-3), 2) := by decide +kernel
theorem dX6_undo_12 : decode cX6_undo 12 = .ok (.ireturn, 1) := by decide +kernel
theorem dX6_undo_13 : decode cX6_undo 13 = .ok (.aload_n 0, 1) := by decide +kernel
theorem dX6_undo_14 : decode cX6_undo 14 = .ok (.getfield 38, 3) := by decide +kernel
theorem dX6_undo_17 : decode cX6_undo 17 = .ok (.aload_n 0, 1) := by decide +kernel
theorem dX6_undo_18 : decode cX6_undo 18 = .ok (.getfield 28, 3) := by decide +kernel
theorem dX6_undo_21 : decode cX6_undo 21 = .ok (.invokevirtual 190, 3) := by decide +kernel
theorem dX6_undo_24 : decode cX6_undo 24 = .ok (.aload_n 0, 1) := by decide +kernel
theorem dX6_undo_25 : decode cX6_undo 25 = .ok (.getfield 38, 3) := by decide +kernel
theorem dX6_undo_28 : decode cX6_undo 28 = .ok (.getfield 115, 3) := by decide +kernel
theorem dX6_undo_31 : decode cX6_undo 31 = .ok (.ireturn, 1) := by decide +kernel
theorem dX6_ahead_0 : decode cX6_ahead 0 = .ok (.iload_n 1, 1) := by decide +kernel
theorem dX6_ahead_1 : decode cX6_ahead 1 = .ok (.ifCond .lt 16, 3) := by decide +kernel
theorem dX6_ahead_4 : decode cX6_ahead 4 = .ok (.iload_n 1, 1) := by decide +kernel
theorem dX6_ahead_5 : decode cX6_ahead 5 = .ok (.bipush 60, 2) := by decide +kernel
theorem dX6_ahead_7 : decode cX6_ahead 7 = .ok (.if_icmp .gt 10, 3) := by decide +kernel
theorem dX6_ahead_10 : decode cX6_ahead 10 = .ok (.iload_n 2, 1) := by decide +kernel
theorem dX6_ahead_11 : decode cX6_ahead 11 = .ok (.invokestatic 193, 3) := by decide +kernel
theorem dX6_ahead_14 : decode cX6_ahead 14 = .ok (.ifCond .ne 6, 3) := by decide +kernel
theorem dX6_ahead_17 : decode cX6_ahead 17 = .ok (.bipush (-2), 2) := by decide +kernel
theorem dX6_ahead_19 : decode cX6_ahead 19 = .ok (.ireturn, 1) := by decide +kernel
theorem dX6_ahead_20 : decode cX6_ahead 20 = .ok (.aload_n 0, 1) := by decide +kernel
theorem dX6_ahead_21 : decode cX6_ahead 21 = .ok (.aload_n 0, 1) := by decide +kernel
theorem dX6_ahead_22 : decode cX6_ahead 22 = .ok (.getfield 28, 3) := by decide +kernel
theorem dX6_ahead_25 : decode cX6_ahead 25 = .ok (.getfield 90, 3) := by decide +kernel
theorem dX6_ahead_28 : decode cX6_ahead 28 = .ok (.aload_n 0, 1) := by decide +kernel
theorem dX6_ahead_29 : decode cX6_ahead 29 = .ok (.getfield 28, 3) := by decide +kernel
theorem dX6_ahead_32 : decode cX6_ahead 32 = .ok (.getfield 93, 3) := by decide +kernel
theorem dX6_ahead_35 : decode cX6_ahead 35 = .ok (.aload_n 0, 1) := by decide +kernel
theorem dX6_ahead_36 : decode cX6_ahead 36 = .ok (.getfield 28, 3) := by decide +kernel
theorem dX6_ahead_39 : decode cX6_ahead 39 = .ok (.getfield 94, 3) := by decide +kernel
theorem dX6_ahead_42 : decode cX6_ahead 42 = .ok (.iload_n 1, 1) := by decide +kernel
theorem dX6_ahead_43 : decode cX6_ahead 43 = .ok (.invokevirtual 196, 3) := by decide +kernel
theorem dX6_ahead_46 : decode cX6_ahead 46 = .ok (.aload_n 0, 1) := by decide +kernel
theorem dX6_ahead_47 : decode cX6_ahead 47 = .ok (.iload_n 2, 1) := by decide +kernel
theorem dX6_ahead_48 : decode cX6_ahead 48 = .ok (.invokevirtual 200, 3) := by decide +kernel
theorem dX6_ahead_51 : decode cX6_ahead 51 = .ok (.ireturn, 1) := by decide +kernel
theorem dX6_by_0 : decode cX6_by 0 = .ok (.iload_n 1, 1) := by decide +kernel
theorem dX6_by_1 : decode cX6_by 1 = .ok (.invokestatic 177, 3) := by decide +kernel
theorem dX6_by_4 : decode cX6_by 4 = .ok (.ifCond .eq 28, 3) := by decide +kernel
theorem dX6_by_7 : decode cX6_by 7 = .ok (.iload_n 2, 1) := by decide +kernel
theorem dX6_by_8 : decode cX6_by 8 = .ok (.invokestatic 180, 3) := by decide +kernel
theorem dX6_by_11 : decode cX6_by 11 = .ok (.ifCond .eq 21, 3) := by decide +kernel
theorem dX6_by_14 : decode cX6_by 14 = .ok (.iload_n 3, 1) := by decide +kernel
theorem dX6_by_15 : decode cX6_by 15 = .ok (.ifCond .lt 17, 3) := by decide +kernel
theorem dX6_by_18 : decode cX6_by 18 = .ok (.iload_n 3, 1) := by decide +kernel
theorem dX6_by_19 : decode cX6_by 19 = .ok (.bipush 60, 2) := by decide +kernel
theorem dX6_by_21 : decode cX6_by 21 = .ok (.if_icmp .gt 11, 3) := by decide +kernel
theorem dX6_by_24 : decode cX6_by 24 = .ok (.iload 4, 2) := by decide +kernel
theorem dX6_by_26 : decode cX6_by 26 = .ok (.invokestatic 193, 3) := by decide +kernel
theorem dX6_by_29 : decode cX6_by 29 = .ok (.ifCond .ne 6, 3) := by decide +kernel
theorem dX6_by_32 : decode cX6_by 32 = .ok (.bipush (-2), 2) := by decide +kernel
theorem dX6_by_34 : decode cX6_by 34 = .ok (.ireturn, 1) := by decide +kernel
theorem dX6_by_35 : decode cX6_by 35 = .ok (.aload_n 0, 1) := by decide +kernel
theorem dX6_by_36 : decode cX6_by 36 = .ok (.iload_n 1, 1) := by decide +kernel
theorem dX6_by_37 : decode cX6_by 37 = .ok (.iload_n 2, 1) := by decide +kernel
theorem dX6_by_38 : decode cX6_by 38 = .ok (.aload_n 0, 1) := by decide +kernel
theorem dX6_by_39 : decode cX6_by 39 = .ok (.getfield 28, 3) := by decide +kernel
theorem dX6_by_42 : decode cX6_by 42 = .ok (.getfield 94, 3) := by decide +kernel
theorem dX6_by_45 : decode cX6_by 45 = .ok (.iload_n 3, 1) := by decide +kernel
theorem dX6_by_46 : decode cX6_by 46 = .ok (.invokevirtual 196, 3) := by decide +kernel
theorem dX6_by_49 : decode cX6_by 49 = .ok (.aload_n 0, 1) := by decide +kernel
theorem dX6_by_50 : decode cX6_by 50 = .ok (.iload 4, 2) := by decide +kernel
theorem dX6_by_52 : decode cX6_by 52 = .ok (.invokevirtual 200, 3) := by decide +kernel
theorem dX6_by_55 : decode cX6_by 55 = .ok (.ireturn, 1) := by decide +kernel
theorem dX6_bestLength_0 : decode cX6_bestLength 0 = .ok (.iload_n 1, 1) := by decide +kernel
theorem dX6_bestLength_1 : decode cX6_bestLength 1 = .ok (.invokestatic 177, 3) := by decide +kernel
theorem dX6_bestLength_4 : decode cX6_bestLength 4 = .ok (.ifCond .eq 14, 3) := by decide +kernel
theorem dX6_bestLength_7 : decode cX6_bestLength 7 = .ok (.iload_n 2, 1) := by decide +kernel
theorem dX6_bestLength_8 : decode cX6_bestLength 8 = .ok (.iconst 1, 1) := by decide +kernel
theorem dX6_bestLength_9 : decode cX6_bestLength 9 = .ok (.if_icmp .lt 9, 3) := by decide +kernel
theorem dX6_bestLength_12 : decode cX6_bestLength 12 = .ok (.iload_n 2, 1) := by decide +kernel
theorem dX6_bestLength_13 : decode cX6_bestLength 13 = .ok (.bipush 30, 2) := by decide +kernel
theorem dX6_bestLength_15 : decode cX6_bestLength 15 = .ok (.if_icmp .le 6, 3) := by decide +kernel
theorem dX6_bestLength_18 : decode cX6_bestLength 18 = .ok (.bipush (-2), 2) := by decide +kernel
theorem dX6_bestLength_20 : decode cX6_bestLength 20 = .ok (.ireturn, 1) := by decide +kernel
theorem dX6_bestLength_21 : decode cX6_bestLength 21 = .ok (.iconst 0, 1) := by decide +kernel
theorem dX6_bestLength_22 : decode cX6_bestLength 22 = .ok (.istore_n 3, 1) := by decide +kernel
theorem dX6_bestLength_23 : decode cX6_bestLength 23 = .ok (.iconst 0, 1) := by decide +kernel
theorem dX6_bestLength_24 : decode cX6_bestLength 24 = .ok (.istore 4, 2) := by decide +kernel
theorem dX6_bestLength_26 : decode cX6_bestLength 26 = .ok (.iconst 1, 1) := by decide +kernel
theorem dX6_bestLength_27 : decode cX6_bestLength 27 = .ok (.istore 5, 2) := by decide +kernel
theorem dX6_bestLength_29 : decode cX6_bestLength 29 = .ok (.iload 5, 2) := by decide +kernel
theorem dX6_bestLength_31 : decode cX6_bestLength 31 = .ok (.bipush 9, 2) := by decide +kernel
theorem dX6_bestLength_33 : decode cX6_bestLength 33 = .ok (.if_icmp .gt 51, 3) := by decide +kernel
theorem dX6_bestLength_36 : decode cX6_bestLength 36 = .ok (.aload_n 0, 1) := by decide +kernel
theorem dX6_bestLength_37 : decode cX6_bestLength 37 = .ok (.iload_n 1, 1) := by decide +kernel
theorem dX6_bestLength_38 : decode cX6_bestLength 38 = .ok (.iload 5, 2) := by decide +kernel
theorem dX6_bestLength_40 : decode cX6_bestLength 40 = .ok (.aload_n 0, 1) := by decide +kernel
theorem dX6_bestLength_41 : decode cX6_bestLength 41 = .ok (.getfield 28, 3) := by decide +kernel
theorem dX6_bestLength_44 : decode cX6_bestLength 44 = .ok (.getfield 94, 3) := by decide +kernel
theorem dX6_bestLength_47 : decode cX6_bestLength 47 = .ok (.iload_n 2, 1) := by decide +kernel
theorem dX6_bestLength_48 : decode cX6_bestLength 48 = .ok (.invokevirtual 196, 3) := by decide +kernel
theorem dX6_bestLength_51 : decode cX6_bestLength 51 = .ok (.aload_n 0, 1) := by decide +kernel
theorem dX6_bestLength_52 : decode cX6_bestLength 52 = .ok (.getfield 32, 3) := by decide +kernel
theorem dX6_bestLength_55 : decode cX6_bestLength 55 = .ok (.invokevirtual 203, 3) := by decide +kernel
theorem dX6_bestLength_58 : decode cX6_bestLength 58 = .ok (.istore 6, 2) := by decide +kernel
theorem dX6_bestLength_60 : decode cX6_bestLength 60 = .ok (.iload_n 3, 1) := by decide +kernel
theorem dX6_bestLength_61 : decode cX6_bestLength 61 = .ok (.ifCond .eq 10, 3) := by decide +kernel
theorem dX6_bestLength_64 : decode cX6_bestLength 64 = .ok (.iload 6, 2) := by decide +kernel
theorem dX6_bestLength_66 : decode cX6_bestLength 66 = .ok (.iload 4, 2) := by decide +kernel
theorem dX6_bestLength_68 : decode cX6_bestLength 68 = .ok (.if_icmp .ge 10, 3) := by decide +kernel
theorem dX6_bestLength_71 : decode cX6_bestLength 71 = .ok (.iload 5, 2) := by decide +kernel
theorem dX6_bestLength_73 : decode cX6_bestLength 73 = .ok (.istore_n 3, 1) := by decide +kernel
theorem dX6_bestLength_74 : decode cX6_bestLength 74 = .ok (.iload 6, 2) := by decide +kernel
theorem dX6_bestLength_76 : decode cX6_bestLength 76 = .ok (.istore 4, 2) := by decide +kernel
theorem dX6_bestLength_78 : decode cX6_bestLength 78 = .ok (.iinc 5 1, 3) := by decide +kernel
theorem dX6_bestLength_81 : decode cX6_bestLength 81 = .ok (.goto (-52), 3) := by decide +kernel
theorem dX6_bestLength_84 : decode cX6_bestLength 84 = .ok (.iload_n 3, 1) := by decide +kernel
theorem dX6_bestLength_85 : decode cX6_bestLength 85 = .ok (.ireturn, 1) := by decide +kernel
theorem dX6_bestRule_0 : decode cX6_bestRule 0 = .ok (.iload_n 1, 1) := by decide +kernel
theorem dX6_bestRule_1 : decode cX6_bestRule 1 = .ok (.iconst 1, 1) := by decide +kernel
theorem dX6_bestRule_2 : decode cX6_bestRule 2 = .ok (.if_icmp .lt 9, 3) := by decide +kernel
theorem dX6_bestRule_5 : decode cX6_bestRule 5 = .ok (.iload_n 1, 1) := by decide +kernel
theorem dX6_bestRule_6 : decode cX6_bestRule 6 = .ok (.bipush 30, 2) := by decide +kernel
theorem dX6_bestRule_8 : decode cX6_bestRule 8 = .ok (.if_icmp .le 6, 3) := by decide +kernel
theorem dX6_bestRule_11 : decode cX6_bestRule 11 = .ok (.bipush (-2), 2) := by decide +kernel
theorem dX6_bestRule_13 : decode cX6_bestRule 13 = .ok (.ireturn, 1) := by decide +kernel
theorem dX6_bestRule_14 : decode cX6_bestRule 14 = .ok (.bipush (-9), 2) := by decide +kernel
theorem dX6_bestRule_16 : decode cX6_bestRule 16 = .ok (.istore_n 2, 1) := by decide +kernel
theorem dX6_bestRule_17 : decode cX6_bestRule 17 = .ok (.iconst 0, 1) := by decide +kernel
theorem dX6_bestRule_18 : decode cX6_bestRule 18 = .ok (.istore_n 3, 1) := by decide +kernel
theorem dX6_bestRule_19 : decode cX6_bestRule 19 = .ok (.iconst 0, 1) := by decide +kernel
theorem dX6_bestRule_20 : decode cX6_bestRule 20 = .ok (.istore 4, 2) := by decide +kernel
theorem dX6_bestRule_22 : decode cX6_bestRule 22 = .ok (.iload 4, 2) := by decide +kernel
theorem dX6_bestRule_24 : decode cX6_bestRule 24 = .ok (.iconst 4, 1) := by decide +kernel
theorem dX6_bestRule_25 : decode cX6_bestRule 25 = .ok (.if_icmp .ge 57, 3) := by decide +kernel
theorem dX6_bestRule_28 : decode cX6_bestRule 28 = .ok (.aload_n 0, 1) := by decide +kernel
theorem dX6_bestRule_29 : decode cX6_bestRule 29 = .ok (.iload 4, 2) := by decide +kernel
theorem dX6_bestRule_31 : decode cX6_bestRule 31 = .ok (.aload_n 0, 1) := by decide +kernel
theorem dX6_bestRule_32 : decode cX6_bestRule 32 = .ok (.getfield 28, 3) := by decide +kernel
theorem dX6_bestRule_35 : decode cX6_bestRule 35 = .ok (.getfield 93, 3) := by decide +kernel
theorem dX6_bestRule_38 : decode cX6_bestRule 38 = .ok (.aload_n 0, 1) := by decide +kernel
theorem dX6_bestRule_39 : decode cX6_bestRule 39 = .ok (.getfield 28, 3) := by decide +kernel
theorem dX6_bestRule_42 : decode cX6_bestRule 42 = .ok (.getfield 94, 3) := by decide +kernel
theorem dX6_bestRule_45 : decode cX6_bestRule 45 = .ok (.iload_n 1, 1) := by decide +kernel
theorem dX6_bestRule_46 : decode cX6_bestRule 46 = .ok (.invokevirtual 196, 3) := by decide +kernel
theorem dX6_bestRule_49 : decode cX6_bestRule 49 = .ok (.aload_n 0, 1) := by decide +kernel
theorem dX6_bestRule_50 : decode cX6_bestRule 50 = .ok (.getfield 32, 3) := by decide +kernel
theorem dX6_bestRule_53 : decode cX6_bestRule 53 = .ok (.invokevirtual 206, 3) := by decide +kernel
theorem dX6_bestRule_56 : decode cX6_bestRule 56 = .ok (.istore 5, 2) := by decide +kernel
theorem dX6_bestRule_58 : decode cX6_bestRule 58 = .ok (.iload_n 2, 1) := by decide +kernel
theorem dX6_bestRule_59 : decode cX6_bestRule 59 = .ok (.bipush (-9), 2) := by decide +kernel
theorem dX6_bestRule_61 : decode cX6_bestRule 61 = .ok (.if_icmp .eq 9, 3) := by decide +kernel
theorem dX6_bestRule_64 : decode cX6_bestRule 64 = .ok (.iload 5, 2) := by decide +kernel
theorem dX6_bestRule_66 : decode cX6_bestRule 66 = .ok (.iload_n 3, 1) := by decide +kernel
theorem dX6_bestRule_67 : decode cX6_bestRule 67 = .ok (.if_icmp .ge 9, 3) := by decide +kernel
theorem dX6_bestRule_70 : decode cX6_bestRule 70 = .ok (.iload 4, 2) := by decide +kernel
theorem dX6_bestRule_72 : decode cX6_bestRule 72 = .ok (.istore_n 2, 1) := by decide +kernel
theorem dX6_bestRule_73 : decode cX6_bestRule 73 = .ok (.iload 5, 2) := by decide +kernel
theorem dX6_bestRule_75 : decode cX6_bestRule 75 = .ok (.istore_n 3, 1) := by decide +kernel
theorem dX6_bestRule_76 : decode cX6_bestRule 76 = .ok (.iinc 4 1, 3) := by decide +kernel
theorem dX6_bestRule_79 : decode cX6_bestRule 79 = .ok (.goto (-57), 3) := by decide +kernel
theorem dX6_bestRule_82 : decode cX6_bestRule 82 = .ok (.iload_n 2, 1) := by decide +kernel
theorem dX6_bestRule_83 : decode cX6_bestRule 83 = .ok (.ireturn, 1) := by decide +kernel
theorem dX6_first_0 : decode cX6_first 0 = .ok (.aload_n 0, 1) := by decide +kernel
theorem dX6_first_1 : decode cX6_first 1 = .ok (.getfield 28, 3) := by decide +kernel
theorem dX6_first_4 : decode cX6_first 4 = .ok (.iload_n 1, 1) := by decide +kernel
theorem dX6_first_5 : decode cX6_first 5 = .ok (.invokevirtual 117, 3) := by decide +kernel
theorem dX6_first_8 : decode cX6_first 8 = .ok (.ifCond .ne 5, 3) := by decide +kernel
theorem dX6_first_11 : decode cX6_first 11 = .ok (.iconst (-1), 1) := by decide +kernel
theorem dX6_first_12 : decode cX6_first 12 = .ok (.ireturn, 1) := by decide +kernel
theorem dX6_first_13 : decode cX6_first 13 = .ok (.aload_n 0, 1) := by decide +kernel
theorem dX6_first_14 : decode cX6_first 14 = .ok (.getfield 32, 3) := by decide +kernel
theorem dX6_first_17 : decode cX6_first 17 = .ok (.aload_n 0, 1) := by decide +kernel
theorem dX6_first_18 : decode cX6_first 18 = .ok (.getfield 28, 3) := by decide +kernel
theorem dX6_first_21 : decode cX6_first 21 = .ok (.invokevirtual 209, 3) := by decide +kernel
theorem dX6_first_24 : decode cX6_first 24 = .ok (.iconst 0, 1) := by decide +kernel
theorem dX6_first_25 : decode cX6_first 25 = .ok (.istore_n 2, 1) := by decide +kernel
theorem dX6_first_26 : decode cX6_first 26 = .ok (.iload_n 2, 1) := by decide +kernel
theorem dX6_first_27 : decode cX6_first 27 = .ok (.bipush 60, 2) := by decide +kernel
theorem dX6_first_29 : decode cX6_first 29 = .ok (.if_icmp .gt 29, 3) := by decide +kernel
theorem dX6_first_32 : decode cX6_first 32 = .ok (.aload_n 0, 1) := by decide +kernel
theorem dX6_first_33 : decode cX6_first 33 = .ok (.getfield 32, 3) := by decide +kernel
theorem dX6_first_36 : decode cX6_first 36 = .ok (.iload_n 1, 1) := by decide +kernel
theorem dX6_first_37 : decode cX6_first 37 = .ok (.invokevirtual 156, 3) := by decide +kernel
theorem dX6_first_40 : decode cX6_first 40 = .ok (.ifCond .eq 5, 3) := by decide +kernel
theorem dX6_first_43 : decode cX6_first 43 = .ok (.iload_n 2, 1) := by decide +kernel
theorem dX6_first_44 : decode cX6_first 44 = .ok (.ireturn, 1) := by decide +kernel
theorem dX6_first_45 : decode cX6_first 45 = .ok (.aload_n 0, 1) := by decide +kernel
theorem dX6_first_46 : decode cX6_first 46 = .ok (.getfield 32, 3) := by decide +kernel
theorem dX6_first_49 : decode cX6_first 49 = .ok (.invokevirtual 153, 3) := by decide +kernel
theorem dX6_first_52 : decode cX6_first 52 = .ok (.iinc 2 1, 3) := by decide +kernel
theorem dX6_first_55 : decode cX6_first 55 = .ok (.goto (-29), 3) := by decide +kernel
theorem dX6_first_58 : decode cX6_first 58 = .ok (.bipush (-9), 2) := by decide +kernel
theorem dX6_first_60 : decode cX6_first 60 = .ok (.ireturn, 1) := by decide +kernel
theorem dX6_second_0 : decode cX6_second 0 = .ok (.iload_n 1, 1) := by decide +kernel
theorem dX6_second_1 : decode cX6_second 1 = .ok (.iconst 1, 1) := by decide +kernel
theorem dX6_second_2 : decode cX6_second 2 = .ok (.if_icmp .lt 9, 3) := by decide +kernel
theorem dX6_second_5 : decode cX6_second 5 = .ok (.iload_n 1, 1) := by decide +kernel
theorem dX6_second_6 : decode cX6_second 6 = .ok (.bipush 30, 2) := by decide +kernel
theorem dX6_second_8 : decode cX6_second 8 = .ok (.if_icmp .le 6, 3) := by decide +kernel
theorem dX6_second_11 : decode cX6_second 11 = .ok (.bipush (-2), 2) := by decide +kernel
theorem dX6_second_13 : decode cX6_second 13 = .ok (.ireturn, 1) := by decide +kernel
theorem dX6_second_14 : decode cX6_second 14 = .ok (.aload_n 0, 1) := by decide +kernel
theorem dX6_second_15 : decode cX6_second 15 = .ok (.aload_n 0, 1) := by decide +kernel
theorem dX6_second_16 : decode cX6_second 16 = .ok (.getfield 28, 3) := by decide +kernel
theorem dX6_second_19 : decode cX6_second 19 = .ok (.getfield 90, 3) := by decide +kernel
theorem dX6_second_22 : decode cX6_second 22 = .ok (.aload_n 0, 1) := by decide +kernel
theorem dX6_second_23 : decode cX6_second 23 = .ok (.getfield 28, 3) := by decide +kernel
theorem dX6_second_26 : decode cX6_second 26 = .ok (.getfield 93, 3) := by decide +kernel
theorem dX6_second_29 : decode cX6_second 29 = .ok (.aload_n 0, 1) := by decide +kernel
theorem dX6_second_30 : decode cX6_second 30 = .ok (.getfield 28, 3) := by decide +kernel
theorem dX6_second_33 : decode cX6_second 33 = .ok (.getfield 94, 3) := by decide +kernel
theorem dX6_second_36 : decode cX6_second 36 = .ok (.iload_n 1, 1) := by decide +kernel
theorem dX6_second_37 : decode cX6_second 37 = .ok (.invokevirtual 196, 3) := by decide +kernel
theorem dX6_second_40 : decode cX6_second 40 = .ok (.aload_n 0, 1) := by decide +kernel
theorem dX6_second_41 : decode cX6_second 41 = .ok (.getfield 32, 3) := by decide +kernel
theorem dX6_second_44 : decode cX6_second 44 = .ok (.invokevirtual 206, 3) := by decide +kernel
theorem dX6_second_47 : decode cX6_second 47 = .ok (.istore_n 2, 1) := by decide +kernel
theorem dX6_second_48 : decode cX6_second 48 = .ok (.aload_n 0, 1) := by decide +kernel
theorem dX6_second_49 : decode cX6_second 49 = .ok (.aload_n 0, 1) := by decide +kernel
theorem dX6_second_50 : decode cX6_second 50 = .ok (.getfield 28, 3) := by decide +kernel
theorem dX6_second_53 : decode cX6_second 53 = .ok (.getfield 90, 3) := by decide +kernel
theorem dX6_second_56 : decode cX6_second 56 = .ok (.aload_n 0, 1) := by decide +kernel
theorem dX6_second_57 : decode cX6_second 57 = .ok (.getfield 28, 3) := by decide +kernel
theorem dX6_second_60 : decode cX6_second 60 = .ok (.getfield 93, 3) := by decide +kernel
theorem dX6_second_63 : decode cX6_second 63 = .ok (.iconst 2, 1) := by decide +kernel
theorem dX6_second_64 : decode cX6_second 64 = .ok (.iload_n 1, 1) := by decide +kernel
theorem dX6_second_65 : decode cX6_second 65 = .ok (.invokevirtual 196, 3) := by decide +kernel
theorem dX6_second_68 : decode cX6_second 68 = .ok (.iload_n 2, 1) := by decide +kernel
theorem dX6_second_69 : decode cX6_second 69 = .ok (.aload_n 0, 1) := by decide +kernel
theorem dX6_second_70 : decode cX6_second 70 = .ok (.getfield 32, 3) := by decide +kernel
theorem dX6_second_73 : decode cX6_second 73 = .ok (.invokevirtual 206, 3) := by decide +kernel
theorem dX6_second_76 : decode cX6_second 76 = .ok (.isub, 1) := by decide +kernel
theorem dX6_second_77 : decode cX6_second 77 = .ok (.ireturn, 1) := by decide +kernel
theorem dX6_judge_0 : decode cX6_judge 0 = .ok (.iload_n 1, 1) := by decide +kernel
theorem dX6_judge_1 : decode cX6_judge 1 = .ok (.iconst 1, 1) := by decide +kernel
theorem dX6_judge_2 : decode cX6_judge 2 = .ok (.if_icmp .lt 26, 3) := by decide +kernel
theorem dX6_judge_5 : decode cX6_judge 5 = .ok (.iload_n 1, 1) := by decide +kernel
theorem dX6_judge_6 : decode cX6_judge 6 = .ok (.iconst 4, 1) := by decide +kernel
theorem dX6_judge_7 : decode cX6_judge 7 = .ok (.if_icmp .gt 21, 3) := by decide +kernel
theorem dX6_judge_10 : decode cX6_judge 10 = .ok (.iload_n 2, 1) := by decide +kernel
theorem dX6_judge_11 : decode cX6_judge 11 = .ok (.ifCond .lt 17, 3) := by decide +kernel
theorem dX6_judge_14 : decode cX6_judge 14 = .ok (.iload_n 2, 1) := by decide +kernel
theorem dX6_judge_15 : decode cX6_judge 15 = .ok (.getstatic 212, 3) := by decide +kernel
theorem dX6_judge_18 : decode cX6_judge 18 = .ok (.iload_n 1, 1) := by decide +kernel
theorem dX6_judge_19 : decode cX6_judge 19 = .ok (.iconst 1, 1) := by decide +kernel
theorem dX6_judge_20 : decode cX6_judge 20 = .ok (.isub, 1) := by decide +kernel
theorem dX6_judge_21 : decode cX6_judge 21 = .ok (.iaload, 1) := by decide +kernel
theorem dX6_judge_22 : decode cX6_judge 22 = .ok (.idiv, 1) := by decide +kernel
theorem dX6_judge_23 : decode cX6_judge 23 = .ok (.bipush 99, 2) := by decide +kernel
theorem dX6_judge_25 : decode cX6_judge 25 = .ok (.if_icmp .le 6, 3) := by decide +kernel
theorem dX6_judge_28 : decode cX6_judge 28 = .ok (.bipush (-2), 2) := by decide +kernel
theorem dX6_judge_30 : decode cX6_judge 30 = .ok (.ireturn, 1) := by decide +kernel
theorem dX6_judge_31 : decode cX6_judge 31 = .ok (.aload_n 0, 1) := by decide +kernel
theorem dX6_judge_32 : decode cX6_judge 32 = .ok (.getfield 32, 3) := by decide +kernel
theorem dX6_judge_35 : decode cX6_judge 35 = .ok (.aload_n 0, 1) := by decide +kernel
theorem dX6_judge_36 : decode cX6_judge 36 = .ok (.getfield 28, 3) := by decide +kernel
theorem dX6_judge_39 : decode cX6_judge 39 = .ok (.invokevirtual 209, 3) := by decide +kernel
theorem dX6_judge_42 : decode cX6_judge 42 = .ok (.iconst 0, 1) := by decide +kernel
theorem dX6_judge_43 : decode cX6_judge 43 = .ok (.istore_n 3, 1) := by decide +kernel
theorem dX6_judge_44 : decode cX6_judge 44 = .ok (.iload_n 3, 1) := by decide +kernel
theorem dX6_judge_45 : decode cX6_judge 45 = .ok (.iload_n 1, 1) := by decide +kernel
theorem dX6_judge_46 : decode cX6_judge 46 = .ok (.if_icmp .ge 47, 3) := by decide +kernel
theorem dX6_judge_49 : decode cX6_judge 49 = .ok (.iload_n 2, 1) := by decide +kernel
theorem dX6_judge_50 : decode cX6_judge 50 = .ok (.getstatic 212, 3) := by decide +kernel
theorem dX6_judge_53 : decode cX6_judge 53 = .ok (.iload_n 1, 1) := by decide +kernel
theorem dX6_judge_54 : decode cX6_judge 54 = .ok (.iconst 1, 1) := by decide +kernel
theorem dX6_judge_55 : decode cX6_judge 55 = .ok (.isub, 1) := by decide +kernel
theorem dX6_judge_56 : decode cX6_judge 56 = .ok (.iload_n 3, 1) := by decide +kernel
theorem dX6_judge_57 : decode cX6_judge 57 = .ok (.isub, 1) := by decide +kernel
theorem dX6_judge_58 : decode cX6_judge 58 = .ok (.iaload, 1) := by decide +kernel
theorem dX6_judge_59 : decode cX6_judge 59 = .ok (.idiv, 1) := by decide +kernel
theorem dX6_judge_60 : decode cX6_judge 60 = .ok (.bipush 100, 2) := by decide +kernel
theorem dX6_judge_62 : decode cX6_judge 62 = .ok (.irem, 1) := by decide +kernel
theorem dX6_judge_63 : decode cX6_judge 63 = .ok (.istore 4, 2) := by decide +kernel
theorem dX6_judge_65 : decode cX6_judge 65 = .ok (.aload_n 0, 1) := by decide +kernel
theorem dX6_judge_66 : decode cX6_judge 66 = .ok (.getfield 32, 3) := by decide +kernel
theorem dX6_judge_69 : decode cX6_judge 69 = .ok (.iload 4, 2) := by decide +kernel
theorem dX6_judge_71 : decode cX6_judge 71 = .ok (.bipush 10, 2) := by decide +kernel
theorem dX6_judge_73 : decode cX6_judge 73 = .ok (.idiv, 1) := by decide +kernel
theorem dX6_judge_74 : decode cX6_judge 74 = .ok (.iload 4, 2) := by decide +kernel
theorem dX6_judge_76 : decode cX6_judge 76 = .ok (.bipush 10, 2) := by decide +kernel
theorem dX6_judge_78 : decode cX6_judge 78 = .ok (.irem, 1) := by decide +kernel
theorem dX6_judge_79 : decode cX6_judge 79 = .ok (.invokevirtual 215, 3) := by decide +kernel
theorem dX6_judge_82 : decode cX6_judge 82 = .ok (.ifCond .ne 5, 3) := by decide +kernel
theorem dX6_judge_85 : decode cX6_judge 85 = .ok (.iload_n 3, 1) := by decide +kernel
theorem dX6_judge_86 : decode cX6_judge 86 = .ok (.ireturn, 1) := by decide +kernel
theorem dX6_judge_87 : decode cX6_judge 87 = .ok (.iinc 3 1, 3) := by decide +kernel
theorem dX6_judge_90 : decode cX6_judge 90 = .ok (.goto (-46), 3) := by decide +kernel
theorem dX6_judge_93 : decode cX6_judge 93 = .ok (.bipush (-9), 2) := by decide +kernel
theorem dX6_judge_95 : decode cX6_judge 95 = .ok (.ireturn, 1) := by decide +kernel
theorem dX6_share_0 : decode cX6_share 0 = .ok (.aload_n 0, 1) := by decide +kernel
theorem dX6_share_1 : decode cX6_share 1 = .ok (.getfield 28, 3) := by decide +kernel
theorem dX6_share_4 : decode cX6_share 4 = .ok (.iload_n 1, 1) := by decide +kernel
theorem dX6_share_5 : decode cX6_share 5 = .ok (.invokevirtual 117, 3) := by decide +kernel
theorem dX6_share_8 : decode cX6_share 8 = .ok (.ifCond .ne 5, 3) := by decide +kernel
theorem dX6_share_11 : decode cX6_share 11 = .ok (.iconst (-1), 1) := by decide +kernel
theorem dX6_share_12 : decode cX6_share 12 = .ok (.ireturn, 1) := by decide +kernel
theorem dX6_share_13 : decode cX6_share 13 = .ok (.iconst 1, 1) := by decide +kernel
theorem dX6_share_14 : decode cX6_share 14 = .ok (.aload_n 0, 1) := by decide +kernel
theorem dX6_share_15 : decode cX6_share 15 = .ok (.getfield 19, 3) := by decide +kernel
theorem dX6_share_18 : decode cX6_share 18 = .ok (.getfield 87, 3) := by decide +kernel
theorem dX6_share_21 : decode cX6_share 21 = .ok (.ishl, 1) := by decide +kernel
theorem dX6_share_22 : decode cX6_share 22 = .ok (.istore_n 3, 1) := by decide +kernel
theorem dX6_share_23 : decode cX6_share 23 = .ok (.iconst 0, 1) := by decide +kernel
theorem dX6_share_24 : decode cX6_share 24 = .ok (.istore 4, 2) := by decide +kernel
theorem dX6_share_26 : decode cX6_share 26 = .ok (.iload 4, 2) := by decide +kernel
theorem dX6_share_28 : decode cX6_share 28 = .ok (.iload_n 3, 1) := by decide +kernel
theorem dX6_share_29 : decode cX6_share 29 = .ok (.if_icmp .ge 22, 3) := by decide +kernel
theorem dX6_share_32 : decode cX6_share 32 = .ok (.aload_n 0, 1) := by decide +kernel
theorem dX6_share_33 : decode cX6_share 33 = .ok (.getfield 56, 3) := by decide +kernel
theorem dX6_share_36 : decode cX6_share 36 = .ok (.iload 4, 2) := by decide +kernel
theorem dX6_share_38 : decode cX6_share 38 = .ok (.aload_n 0, 1) := by decide +kernel
theorem dX6_share_39 : decode cX6_share 39 = .ok (.iload 4, 2) := by decide +kernel
theorem dX6_share_41 : decode cX6_share 41 = .ok (.invokevirtual 219, 3) := by decide +kernel
theorem dX6_share_44 : decode cX6_share 44 = .ok (.iastore, 1) := by decide +kernel
theorem dX6_share_45 : decode cX6_share 45 = .ok (.iinc 4 1, 3) := by decide +kernel
theorem dX6_share_48 : decode cX6_share 48 = .ok (.goto (-22), 3) := by decide +kernel
theorem dX6_share_51 : decode cX6_share 51 = .ok (.iconst 0, 1) := by decide +kernel
theorem dX6_share_52 : decode cX6_share 52 = .ok (.istore 4, 2) := by decide +kernel
theorem dX6_share_54 : decode cX6_share 54 = .ok (.iconst 0, 1) := by decide +kernel
theorem dX6_share_55 : decode cX6_share 55 = .ok (.istore 5, 2) := by decide +kernel
theorem dX6_share_57 : decode cX6_share 57 = .ok (.iload 5, 2) := by decide +kernel
theorem dX6_share_59 : decode cX6_share 59 = .ok (.iload_n 3, 1) := by decide +kernel
theorem dX6_share_60 : decode cX6_share 60 = .ok (.if_icmp .ge 77, 3) := by decide +kernel
theorem dX6_share_63 : decode cX6_share 63 = .ok (.iload 5, 2) := by decide +kernel
theorem dX6_share_65 : decode cX6_share 65 = .ok (.iload_n 1, 1) := by decide +kernel
theorem dX6_share_66 : decode cX6_share 66 = .ok (.invokestatic 222, 3) := by decide +kernel
theorem dX6_share_69 : decode cX6_share 69 = .ok (.ifCond .ne 62, 3) := by decide +kernel
theorem dX6_share_72 : decode cX6_share 72 = .ok (.iload 5, 2) := by decide +kernel
theorem dX6_share_74 : decode cX6_share 74 = .ok (.invokestatic 225, 3) := by decide +kernel
theorem dX6_share_77 : decode cX6_share 77 = .ok (.istore 6, 2) := by decide +kernel
theorem dX6_share_79 : decode cX6_share 79 = .ok (.getstatic 230, 3) := by decide +kernel
theorem dX6_share_82 : decode cX6_share 82 = .ok (.iload 6, 2) := by decide +kernel
theorem dX6_share_84 : decode cX6_share 84 = .ok (.iaload, 1) := by decide +kernel
theorem dX6_share_85 : decode cX6_share 85 = .ok (.getstatic 230, 3) := by decide +kernel
theorem dX6_share_88 : decode cX6_share 88 = .ok (.aload_n 0, 1) := by decide +kernel
theorem dX6_share_89 : decode cX6_share 89 = .ok (.getfield 19, 3) := by decide +kernel
theorem dX6_share_92 : decode cX6_share 92 = .ok (.getfield 87, 3) := by decide +kernel
theorem dX6_share_95 : decode cX6_share 95 = .ok (.iconst 1, 1) := by decide +kernel
theorem dX6_share_96 : decode cX6_share 96 = .ok (.isub, 1) := by decide +kernel
theorem dX6_share_97 : decode cX6_share 97 = .ok (.iload 6, 2) := by decide +kernel
theorem dX6_share_99 : decode cX6_share 99 = .ok (.isub, 1) := by decide +kernel
theorem dX6_share_100 : decode cX6_share 100 = .ok (.iaload, 1) := by decide +kernel
theorem dX6_share_101 : decode cX6_share 101 = .ok (.imul, 1) := by decide +kernel
theorem dX6_share_102 : decode cX6_share 102 = .ok (.istore 7, 2) := by decide +kernel
theorem dX6_share_104 : decode cX6_share 104 = .ok (.iload 4, 2) := by decide +kernel
theorem dX6_share_106 : decode cX6_share 106 = .ok (.iload 7, 2) := by decide +kernel
theorem dX6_share_108 : decode cX6_share 108 = .ok (.aload_n 0, 1) := by decide +kernel
theorem dX6_share_109 : decode cX6_share 109 = .ok (.getfield 56, 3) := by decide +kernel
theorem dX6_share_112 : decode cX6_share 112 = .ok (.iload 5, 2) := by decide +kernel
theorem dX6_share_114 : decode cX6_share 114 = .ok (.iconst 1, 1) := by decide +kernel
theorem dX6_share_115 : decode cX6_share 115 = .ok (.iload_n 1, 1) := by decide +kernel
theorem dX6_share_116 : decode cX6_share 116 = .ok (.ishl, 1) := by decide +kernel
theorem dX6_share_117 : decode cX6_share 117 = .ok (.ior, 1) := by decide +kernel
theorem dX6_share_118 : decode cX6_share 118 = .ok (.iaload, 1) := by decide +kernel
theorem dX6_share_119 : decode cX6_share 119 = .ok (.aload_n 0, 1) := by decide +kernel
theorem dX6_share_120 : decode cX6_share 120 = .ok (.getfield 56, 3) := by decide +kernel
theorem dX6_share_123 : decode cX6_share 123 = .ok (.iload 5, 2) := by decide +kernel
theorem dX6_share_125 : decode cX6_share 125 = .ok (.iaload, 1) := by decide +kernel
theorem dX6_share_126 : decode cX6_share 126 = .ok (.isub, 1) := by decide +kernel
theorem dX6_share_127 : decode cX6_share 127 = .ok (.imul, 1) := by decide +kernel
theorem dX6_share_128 : decode cX6_share 128 = .ok (.iadd, 1) := by decide +kernel
theorem dX6_share_129 : decode cX6_share 129 = .ok (.istore 4, 2) := by decide +kernel
theorem dX6_share_131 : decode cX6_share 131 = .ok (.iinc 5 1, 3) := by decide +kernel
theorem dX6_share_134 : decode cX6_share 134 = .ok (.goto (-77), 3) := by decide +kernel
theorem dX6_share_137 : decode cX6_share 137 = .ok (.iload 4, 2) := by decide +kernel
theorem dX6_share_139 : decode cX6_share 139 = .ok (.getstatic 230, 3) := by decide +kernel
theorem dX6_share_142 : decode cX6_share 142 = .ok (.aload_n 0, 1) := by decide +kernel
theorem dX6_share_143 : decode cX6_share 143 = .ok (.getfield 19, 3) := by decide +kernel
theorem dX6_share_146 : decode cX6_share 146 = .ok (.getfield 87, 3) := by decide +kernel
theorem dX6_share_149 : decode cX6_share 149 = .ok (.iaload, 1) := by decide +kernel
theorem dX6_share_150 : decode cX6_share 150 = .ok (.iload_n 2, 1) := by decide +kernel
theorem dX6_share_151 : decode cX6_share 151 = .ok (.invokestatic 233, 3) := by decide +kernel
theorem dX6_share_154 : decode cX6_share 154 = .ok (.ireturn, 1) := by decide +kernel
theorem dX6_see_0 : decode cX6_see 0 = .ok (.aload_n 0, 1) := by decide +kernel
theorem dX6_see_1 : decode cX6_see 1 = .ok (.getfield 28, 3) := by decide +kernel
theorem dX6_see_4 : decode cX6_see 4 = .ok (.iload_n 1, 1) := by decide +kernel
theorem dX6_see_5 : decode cX6_see 5 = .ok (.invokevirtual 117, 3) := by decide +kernel
theorem dX6_see_8 : decode cX6_see 8 = .ok (.ifCond .ne 5, 3) := by decide +kernel
theorem dX6_see_11 : decode cX6_see 11 = .ok (.iconst (-1), 1) := by decide +kernel
theorem dX6_see_12 : decode cX6_see 12 = .ok (.ireturn, 1) := by decide +kernel
theorem dX6_see_13 : decode cX6_see 13 = .ok (.iload_n 2, 1) := by decide +kernel
theorem dX6_see_14 : decode cX6_see 14 = .ok (.iconst 1, 1) := by decide +kernel
theorem dX6_see_15 : decode cX6_see 15 = .ok (.if_icmp .lt 9, 3) := by decide +kernel
theorem dX6_see_18 : decode cX6_see 18 = .ok (.iload_n 2, 1) := by decide +kernel
theorem dX6_see_19 : decode cX6_see 19 = .ok (.bipush 20, 2) := by decide +kernel
theorem dX6_see_21 : decode cX6_see 21 = .ok (.if_icmp .le 6, 3) := by decide +kernel
theorem dX6_see_24 : decode cX6_see 24 = .ok (.bipush (-2), 2) := by decide +kernel
theorem dX6_see_26 : decode cX6_see 26 = .ok (.ireturn, 1) := by decide +kernel
theorem dX6_see_27 : decode cX6_see 27 = .ok (.aload_n 0, 1) := by decide +kernel
theorem dX6_see_28 : decode cX6_see 28 = .ok (.getfield 52, 3) := by decide +kernel
theorem dX6_see_31 : decode cX6_see 31 = .ok (.getfield 116, 3) := by decide +kernel
theorem dX6_see_34 : decode cX6_see 34 = .ok (.bipush 6, 2) := by decide +kernel
theorem dX6_see_36 : decode cX6_see 36 = .ok (.if_icmp .lt 6, 3) := by decide +kernel
theorem dX6_see_39 : decode cX6_see 39 = .ok (.bipush (-4), 2) := by decide +kernel
theorem dX6_see_41 : decode cX6_see 41 = .ok (.ireturn, 1) := by decide +kernel
theorem dX6_see_42 : decode cX6_see 42 = .ok (.aload_n 0, 1) := by decide +kernel
theorem dX6_see_43 : decode cX6_see 43 = .ok (.getfield 52, 3) := by decide +kernel
theorem dX6_see_46 : decode cX6_see 46 = .ok (.iload_n 1, 1) := by decide +kernel
theorem dX6_see_47 : decode cX6_see 47 = .ok (.iload_n 2, 1) := by decide +kernel
theorem dX6_see_48 : decode cX6_see 48 = .ok (.invokevirtual 237, 3) := by decide +kernel
theorem dX6_see_51 : decode cX6_see 51 = .ok (.aload_n 0, 1) := by decide +kernel
theorem dX6_see_52 : decode cX6_see 52 = .ok (.getfield 52, 3) := by decide +kernel
theorem dX6_see_55 : decode cX6_see 55 = .ok (.getfield 116, 3) := by decide +kernel
theorem dX6_see_58 : decode cX6_see 58 = .ok (.ireturn, 1) := by decide +kernel
theorem dX6_unsee_0 : decode cX6_unsee 0 = .ok (.aload_n 0, 1) := by decide +kernel
theorem dX6_unsee_1 : decode cX6_unsee 1 = .ok (.getfield 52, 3) := by decide +kernel
theorem dX6_unsee_4 : decode cX6_unsee 4 = .ok (.getfield 116, 3) := by decide +kernel
theorem dX6_unsee_7 : decode cX6_unsee 7 = .ok (.istore_n 1, 1) := by decide +kernel
theorem dX6_unsee_8 : decode cX6_unsee 8 = .ok (.aload_n 0, 1) := by decide +kernel
theorem dX6_unsee_9 : decode cX6_unsee 9 = .ok (.getfield 52, 3) := by decide +kernel
theorem dX6_unsee_12 : decode cX6_unsee 12 = .ok (.iconst 0, 1) := by decide +kernel
theorem dX6_unsee_13 : decode cX6_unsee 13 = .ok (.putfield 116, 3) := by decide +kernel
theorem dX6_unsee_16 : decode cX6_unsee 16 = .ok (.iload_n 1, 1) := by decide +kernel
theorem dX6_unsee_17 : decode cX6_unsee 17 = .ok (.ireturn, 1) := by decide +kernel
theorem dX6_may_0 : decode cX6_may 0 = .ok (.iconst 0, 1) := by decide +kernel
theorem dX6_may_1 : decode cX6_may 1 = .ok (.istore_n 1, 1) := by decide +kernel
theorem dX6_may_2 : decode cX6_may 2 = .ok (.iconst 0, 1) := by decide +kernel
theorem dX6_may_3 : decode cX6_may 3 = .ok (.istore_n 2, 1) := by decide +kernel
theorem dX6_may_4 : decode cX6_may 4 = .ok (.iload_n 2, 1) := by decide +kernel
theorem dX6_may_5 : decode cX6_may 5 = .ok (.iconst 4, 1) := by decide +kernel
theorem dX6_may_6 : decode cX6_may 6 = .ok (.if_icmp .ge 23, 3) := by decide +kernel
theorem dX6_may_9 : decode cX6_may 9 = .ok (.aload_n 0, 1) := by decide +kernel
theorem dX6_may_10 : decode cX6_may 10 = .ok (.iload_n 2, 1) := by decide +kernel
theorem dX6_may_11 : decode cX6_may 11 = .ok (.invokevirtual 239, 3) := by decide +kernel
theorem dX6_may_14 : decode cX6_may 14 = .ok (.ifCond .eq 9, 3) := by decide +kernel
theorem dX6_may_17 : decode cX6_may 17 = .ok (.iload_n 1, 1) := by decide +kernel
theorem dX6_may_18 : decode cX6_may 18 = .ok (.iconst 1, 1) := by decide +kernel
theorem dX6_may_19 : decode cX6_may 19 = .ok (.iload_n 2, 1) := by decide +kernel
theorem dX6_may_20 : decode cX6_may 20 = .ok (.ishl, 1) := by decide +kernel
theorem dX6_may_21 : decode cX6_may 21 = .ok (.ior, 1) := by decide +kernel
theorem dX6_may_22 : decode cX6_may 22 = .ok (.istore_n 1, 1) := by decide +kernel
theorem dX6_may_23 : decode cX6_may 23 = .ok (.iinc 2 1, 3) := by decide +kernel
theorem dX6_may_26 : decode cX6_may 26 = .ok (.goto (-22), 3) := by decide +kernel
theorem dX6_may_29 : decode cX6_may 29 = .ok (.iload_n 1, 1) := by decide +kernel
theorem dX6_may_30 : decode cX6_may 30 = .ok (.ireturn, 1) := by decide +kernel
theorem dX6_rests_0 : decode cX6_rests 0 = .ok (.aload_n 0, 1) := by decide +kernel
theorem dX6_rests_1 : decode cX6_rests 1 = .ok (.getfield 28, 3) := by decide +kernel
theorem dX6_rests_4 : decode cX6_rests 4 = .ok (.iload_n 1, 1) := by decide +kernel
theorem dX6_rests_5 : decode cX6_rests 5 = .ok (.invokevirtual 117, 3) := by decide +kernel
theorem dX6_rests_8 : decode cX6_rests 8 = .ok (.ifCond .eq 14, 3) := by decide +kernel
theorem dX6_rests_11 : decode cX6_rests 11 = .ok (.aload_n 0, 1) := by decide +kernel
theorem dX6_rests_12 : decode cX6_rests 12 = .ok (.getfield 28, 3) := by decide +kernel
theorem dX6_rests_15 : decode cX6_rests 15 = .ok (.iload_n 2, 1) := by decide +kernel
theorem dX6_rests_16 : decode cX6_rests 16 = .ok (.invokevirtual 117, 3) := by decide +kernel
theorem dX6_rests_19 : decode cX6_rests 19 = .ok (.ifCond .ne 5, 3) := by decide +kernel
theorem dX6_rests_22 : decode cX6_rests 22 = .ok (.iconst (-1), 1) := by decide +kernel
theorem dX6_rests_23 : decode cX6_rests 23 = .ok (.ireturn, 1) := by decide +kernel
theorem dX6_rests_24 : decode cX6_rests 24 = .ok (.iload_n 1, 1) := by decide +kernel
theorem dX6_rests_25 : decode cX6_rests 25 = .ok (.iload_n 2, 1) := by decide +kernel
theorem dX6_rests_26 : decode cX6_rests 26 = .ok (.if_icmp .eq 12, 3) := by decide +kernel
theorem dX6_rests_29 : decode cX6_rests 29 = .ok (.iload_n 3, 1) := by decide +kernel
theorem dX6_rests_30 : decode cX6_rests 30 = .ok (.ifCond .lt 8, 3) := by decide +kernel
theorem dX6_rests_33 : decode cX6_rests 33 = .ok (.iload_n 3, 1) := by decide +kernel
theorem dX6_rests_34 : decode cX6_rests 34 = .ok (.iconst 1, 1) := by decide +kernel
theorem dX6_rests_35 : decode cX6_rests 35 = .ok (.if_icmp .le 6, 3) := by decide +kernel
theorem dX6_rests_38 : decode cX6_rests 38 = .ok (.bipush (-2), 2) := by decide +kernel
theorem dX6_rests_40 : decode cX6_rests 40 = .ok (.ireturn, 1) := by decide +kernel
theorem dX6_rests_41 : decode cX6_rests 41 = .ok (.iconst 0, 1) := by decide +kernel
theorem dX6_rests_42 : decode cX6_rests 42 = .ok (.istore 4, 2) := by decide +kernel
theorem dX6_rests_44 : decode cX6_rests 44 = .ok (.bipush (-9), 2) := by decide +kernel
theorem dX6_rests_46 : decode cX6_rests 46 = .ok (.istore 5, 2) := by decide +kernel
theorem dX6_rests_48 : decode cX6_rests 48 = .ok (.iconst 0, 1) := by decide +kernel
theorem dX6_rests_49 : decode cX6_rests 49 = .ok (.istore 6, 2) := by decide +kernel
theorem dX6_rests_51 : decode cX6_rests 51 = .ok (.iload 6, 2) := by decide +kernel
theorem dX6_rests_53 : decode cX6_rests 53 = .ok (.iconst 1, 1) := by decide +kernel
theorem dX6_rests_54 : decode cX6_rests 54 = .ok (.if_icmp .gt 75, 3) := by decide +kernel
theorem dX6_rests_57 : decode cX6_rests 57 = .ok (.iconst 0, 1) := by decide +kernel
theorem dX6_rests_58 : decode cX6_rests 58 = .ok (.istore 7, 2) := by decide +kernel
theorem dX6_rests_60 : decode cX6_rests 60 = .ok (.iload 7, 2) := by decide +kernel
theorem dX6_rests_62 : decode cX6_rests 62 = .ok (.iconst 1, 1) := by decide +kernel
theorem dX6_rests_63 : decode cX6_rests 63 = .ok (.if_icmp .gt 60, 3) := by decide +kernel
theorem dX6_rests_66 : decode cX6_rests 66 = .ok (.aload_n 0, 1) := by decide +kernel
theorem dX6_rests_67 : decode cX6_rests 67 = .ok (.iload_n 1, 1) := by decide +kernel
theorem dX6_rests_68 : decode cX6_rests 68 = .ok (.iload 6, 2) := by decide +kernel
theorem dX6_rests_70 : decode cX6_rests 70 = .ok (.iload_n 2, 1) := by decide +kernel
theorem dX6_rests_71 : decode cX6_rests 71 = .ok (.iload 7, 2) := by decide +kernel
theorem dX6_rests_73 : decode cX6_rests 73 = .ok (.invokevirtual 242, 3) := by decide +kernel
theorem dX6_rests_76 : decode cX6_rests 76 = .ok (.ifCond .eq 41, 3) := by decide +kernel
theorem dX6_rests_79 : decode cX6_rests 79 = .ok (.aload_n 0, 1) := by decide +kernel
theorem dX6_rests_80 : decode cX6_rests 80 = .ok (.iload_n 2, 1) := by decide +kernel
theorem dX6_rests_81 : decode cX6_rests 81 = .ok (.iload 7, 2) := by decide +kernel
theorem dX6_rests_83 : decode cX6_rests 83 = .ok (.iload_n 1, 1) := by decide +kernel
theorem dX6_rests_84 : decode cX6_rests 84 = .ok (.iload 6, 2) := by decide +kernel
theorem dX6_rests_86 : decode cX6_rests 86 = .ok (.invokevirtual 242, 3) := by decide +kernel
theorem dX6_rests_89 : decode cX6_rests 89 = .ok (.ifCond .eq 28, 3) := by decide +kernel
theorem dX6_rests_92 : decode cX6_rests 92 = .ok (.iinc 4 1, 3) := by decide +kernel
theorem dX6_rests_95 : decode cX6_rests 95 = .ok (.iload 5, 2) := by decide +kernel
theorem dX6_rests_97 : decode cX6_rests 97 = .ok (.bipush (-9), 2) := by decide +kernel
theorem dX6_rests_99 : decode cX6_rests 99 = .ok (.if_icmp .ne 14, 3) := by decide +kernel
theorem dX6_rests_102 : decode cX6_rests 102 = .ok (.bipush 10, 2) := by decide +kernel
theorem dX6_rests_104 : decode cX6_rests 104 = .ok (.iload 6, 2) := by decide +kernel
theorem dX6_rests_106 : decode cX6_rests 106 = .ok (.imul, 1) := by decide +kernel
theorem dX6_rests_107 : decode cX6_rests 107 = .ok (.iload 7, 2) := by decide +kernel
theorem dX6_rests_109 : decode cX6_rests 109 = .ok (.iadd, 1) := by decide +kernel
theorem dX6_rests_110 : decode cX6_rests 110 = .ok (.goto 5, 3) := by decide +kernel
theorem dX6_rests_113 : decode cX6_rests 113 = .ok (.iload 5, 2) := by decide +kernel
theorem dX6_rests_115 : decode cX6_rests 115 = .ok (.istore 5, 2) := by decide +kernel
theorem dX6_rests_117 : decode cX6_rests 117 = .ok (.iinc 7 1, 3) := by decide +kernel
theorem dX6_rests_120 : decode cX6_rests 120 = .ok (.goto (-60), 3) := by decide +kernel
theorem dX6_rests_123 : decode cX6_rests 123 = .ok (.iinc 6 1, 3) := by decide +kernel
theorem dX6_rests_126 : decode cX6_rests 126 = .ok (.goto (-75), 3) := by decide +kernel
theorem dX6_rests_129 : decode cX6_rests 129 = .ok (.iload_n 3, 1) := by decide +kernel
theorem dX6_rests_130 : decode cX6_rests 130 = .ok (.ifCond .ne 8, 3) := by decide +kernel
theorem dX6_rests_133 : decode cX6_rests 133 = .ok (.iload 4, 2) := by decide +kernel
theorem dX6_rests_135 : decode cX6_rests 135 = .ok (.goto 5, 3) := by decide +kernel
theorem dX6_rests_138 : decode cX6_rests 138 = .ok (.iload 5, 2) := by decide +kernel
theorem dX6_rests_140 : decode cX6_rests 140 = .ok (.ireturn, 1) := by decide +kernel
theorem dX6_chance_0 : decode cX6_chance 0 = .ok (.aload_n 0, 1) := by decide +kernel
theorem dX6_chance_1 : decode cX6_chance 1 = .ok (.getfield 28, 3) := by decide +kernel
theorem dX6_chance_4 : decode cX6_chance 4 = .ok (.iload_n 1, 1) := by decide +kernel
theorem dX6_chance_5 : decode cX6_chance 5 = .ok (.invokevirtual 117, 3) := by decide +kernel
theorem dX6_chance_8 : decode cX6_chance 8 = .ok (.ifCond .ne 5, 3) := by decide +kernel
theorem dX6_chance_11 : decode cX6_chance 11 = .ok (.iconst (-1), 1) := by decide +kernel
theorem dX6_chance_12 : decode cX6_chance 12 = .ok (.ireturn, 1) := by decide +kernel
theorem dX6_chance_13 : decode cX6_chance 13 = .ok (.iload_n 2, 1) := by decide +kernel
theorem dX6_chance_14 : decode cX6_chance 14 = .ok (.iconst 1, 1) := by decide +kernel
theorem dX6_chance_15 : decode cX6_chance 15 = .ok (.if_icmp .lt 19, 3) := by decide +kernel
theorem dX6_chance_18 : decode cX6_chance 18 = .ok (.iload_n 2, 1) := by decide +kernel
theorem dX6_chance_19 : decode cX6_chance 19 = .ok (.bipush 6, 2) := by decide +kernel
theorem dX6_chance_21 : decode cX6_chance 21 = .ok (.if_icmp .gt 13, 3) := by decide +kernel
theorem dX6_chance_24 : decode cX6_chance 24 = .ok (.iload_n 3, 1) := by decide +kernel
theorem dX6_chance_25 : decode cX6_chance 25 = .ok (.ifCond .lt 9, 3) := by decide +kernel
theorem dX6_chance_28 : decode cX6_chance 28 = .ok (.iload_n 3, 1) := by decide +kernel
theorem dX6_chance_29 : decode cX6_chance 29 = .ok (.bipush 10, 2) := by decide +kernel
theorem dX6_chance_31 : decode cX6_chance 31 = .ok (.if_icmp .le 6, 3) := by decide +kernel
theorem dX6_chance_34 : decode cX6_chance 34 = .ok (.bipush (-2), 2) := by decide +kernel
theorem dX6_chance_36 : decode cX6_chance 36 = .ok (.ireturn, 1) := by decide +kernel
theorem dX6_chance_37 : decode cX6_chance 37 = .ok (.iconst 0, 1) := by decide +kernel
theorem dX6_chance_38 : decode cX6_chance 38 = .ok (.istore 5, 2) := by decide +kernel
theorem dX6_chance_40 : decode cX6_chance 40 = .ok (.iconst 1, 1) := by decide +kernel
theorem dX6_chance_41 : decode cX6_chance 41 = .ok (.istore 6, 2) := by decide +kernel
theorem dX6_chance_43 : decode cX6_chance 43 = .ok (.iconst 0, 1) := by decide +kernel
theorem dX6_chance_44 : decode cX6_chance 44 = .ok (.istore 7, 2) := by decide +kernel
theorem dX6_chance_46 : decode cX6_chance 46 = .ok (.iload 7, 2) := by decide +kernel
theorem dX6_chance_48 : decode cX6_chance 48 = .ok (.iload_n 2, 1) := by decide +kernel
theorem dX6_chance_49 : decode cX6_chance 49 = .ok (.if_icmp .ge 16, 3) := by decide +kernel
theorem dX6_chance_52 : decode cX6_chance 52 = .ok (.iload 6, 2) := by decide +kernel
theorem dX6_chance_54 : decode cX6_chance 54 = .ok (.bipush 10, 2) := by decide +kernel
theorem dX6_chance_56 : decode cX6_chance 56 = .ok (.imul, 1) := by decide +kernel
theorem dX6_chance_57 : decode cX6_chance 57 = .ok (.istore 6, 2) := by decide +kernel
theorem dX6_chance_59 : decode cX6_chance 59 = .ok (.iinc 7 1, 3) := by decide +kernel
theorem dX6_chance_62 : decode cX6_chance 62 = .ok (.goto (-16), 3) := by decide +kernel
theorem dX6_chance_65 : decode cX6_chance 65 = .ok (.iconst 0, 1) := by decide +kernel
theorem dX6_chance_66 : decode cX6_chance 66 = .ok (.istore 7, 2) := by decide +kernel
theorem dX6_chance_68 : decode cX6_chance 68 = .ok (.iload 7, 2) := by decide +kernel
theorem dX6_chance_70 : decode cX6_chance 70 = .ok (.iconst 1, 1) := by decide +kernel
theorem dX6_chance_71 : decode cX6_chance 71 = .ok (.iload_n 2, 1) := by decide +kernel
theorem dX6_chance_72 : decode cX6_chance 72 = .ok (.ishl, 1) := by decide +kernel
theorem dX6_chance_73 : decode cX6_chance 73 = .ok (.if_icmp .ge 41, 3) := by decide +kernel
theorem dX6_chance_76 : decode cX6_chance 76 = .ok (.iload 7, 2) := by decide +kernel
theorem dX6_chance_78 : decode cX6_chance 78 = .ok (.iload_n 2, 1) := by decide +kernel
theorem dX6_chance_79 : decode cX6_chance 79 = .ok (.iload_n 3, 1) := by decide +kernel
theorem dX6_chance_80 : decode cX6_chance 80 = .ok (.invokestatic 246, 3) := by decide +kernel
theorem dX6_chance_83 : decode cX6_chance 83 = .ok (.istore 8, 2) := by decide +kernel
theorem dX6_chance_85 : decode cX6_chance 85 = .ok (.iload 8, 2) := by decide +kernel
theorem dX6_chance_87 : decode cX6_chance 87 = .ok (.ifCond .le 21, 3) := by decide +kernel
theorem dX6_chance_90 : decode cX6_chance 90 = .ok (.aload_n 0, 1) := by decide +kernel
theorem dX6_chance_91 : decode cX6_chance 91 = .ok (.iload_n 1, 1) := by decide +kernel
theorem dX6_chance_92 : decode cX6_chance 92 = .ok (.iload 7, 2) := by decide +kernel
theorem dX6_chance_94 : decode cX6_chance 94 = .ok (.iload_n 2, 1) := by decide +kernel
theorem dX6_chance_95 : decode cX6_chance 95 = .ok (.invokevirtual 250, 3) := by decide +kernel
theorem dX6_chance_98 : decode cX6_chance 98 = .ok (.ifCond .eq 10, 3) := by decide +kernel
theorem dX6_chance_101 : decode cX6_chance 101 = .ok (.iload 5, 2) := by decide +kernel
theorem dX6_chance_103 : decode cX6_chance 103 = .ok (.iload 8, 2) := by decide +kernel
theorem dX6_chance_105 : decode cX6_chance 105 = .ok (.iadd, 1) := by decide +kernel
theorem dX6_chance_106 : decode cX6_chance 106 = .ok (.istore 5, 2) := by decide +kernel
theorem dX6_chance_108 : decode cX6_chance 108 = .ok (.iinc 7 1, 3) := by decide +kernel
theorem dX6_chance_111 : decode cX6_chance 111 = .ok (.goto (-43), 3) := by decide +kernel
theorem dX6_chance_114 : decode cX6_chance 114 = .ok (.iload 5, 2) := by decide +kernel
theorem dX6_chance_116 : decode cX6_chance 116 = .ok (.iload 6, 2) := by decide +kernel
theorem dX6_chance_118 : decode cX6_chance 118 = .ok (.iload 4, 2) := by decide +kernel
theorem dX6_chance_120 : decode cX6_chance 120 = .ok (.invokestatic 233, 3) := by decide +kernel
theorem dX6_chance_123 : decode cX6_chance 123 = .ok (.ireturn, 1) := by decide +kernel
theorem dX6_seed_0 : decode cX6_seed 0 = .ok (.aload_n 0, 1) := by decide +kernel
theorem dX6_seed_1 : decode cX6_seed 1 = .ok (.getfield 60, 3) := by decide +kernel
theorem dX6_seed_4 : decode cX6_seed 4 = .ok (.lstore_n 3, 1) := by decide +kernel
theorem dX6_seed_5 : decode cX6_seed 5 = .ok (.aload_n 0, 1) := by decide +kernel
theorem dX6_seed_6 : decode cX6_seed 6 = .ok (.lload_n 1, 1) := by decide +kernel
theorem dX6_seed_7 : decode cX6_seed 7 = .ok (.putfield 60, 3) := by decide +kernel
theorem dX6_seed_10 : decode cX6_seed 10 = .ok (.lload_n 3, 1) := by decide +kernel
theorem dX6_seed_11 : decode cX6_seed 11 = .ok (.lreturn, 1) := by decide +kernel
theorem dX6_days_0 : decode cX6_days 0 = .ok (.iload_n 1, 1) := by decide +kernel
theorem dX6_days_1 : decode cX6_days 1 = .ok (.iconst 1, 1) := by decide +kernel
theorem dX6_days_2 : decode cX6_days 2 = .ok (.if_icmp .lt 9, 3) := by decide +kernel
theorem dX6_days_5 : decode cX6_days 5 = .ok (.iload_n 1, 1) := by decide +kernel
theorem dX6_days_6 : decode cX6_days 6 = .ok (.bipush 30, 2) := by decide +kernel
theorem dX6_days_8 : decode cX6_days 8 = .ok (.if_icmp .le 6, 3) := by decide +kernel
theorem dX6_days_11 : decode cX6_days 11 = .ok (.bipush (-2), 2) := by decide +kernel
theorem dX6_days_13 : decode cX6_days 13 = .ok (.ireturn, 1) := by decide +kernel
theorem dX6_days_14 : decode cX6_days 14 = .ok (.aload_n 0, 1) := by decide +kernel
theorem dX6_days_15 : decode cX6_days 15 = .ok (.getfield 32, 3) := by decide +kernel
theorem dX6_days_18 : decode cX6_days 18 = .ok (.aload_n 0, 1) := by decide +kernel
theorem dX6_days_19 : decode cX6_days 19 = .ok (.getfield 28, 3) := by decide +kernel
theorem dX6_days_22 : decode cX6_days 22 = .ok (.invokevirtual 209, 3) := by decide +kernel
theorem dX6_days_25 : decode cX6_days 25 = .ok (.iconst 0, 1) := by decide +kernel
theorem dX6_days_26 : decode cX6_days 26 = .ok (.istore_n 2, 1) := by decide +kernel
theorem dX6_days_27 : decode cX6_days 27 = .ok (.iload_n 2, 1) := by decide +kernel
theorem dX6_days_28 : decode cX6_days 28 = .ok (.iload_n 1, 1) := by decide +kernel
theorem dX6_days_29 : decode cX6_days 29 = .ok (.if_icmp .ge 72, 3) := by decide +kernel
theorem dX6_days_32 : decode cX6_days 32 = .ok (.aload_n 0, 1) := by decide +kernel
theorem dX6_days_33 : decode cX6_days 33 = .ok (.aload_n 0, 1) := by decide +kernel
theorem dX6_days_34 : decode cX6_days 34 = .ok (.getfield 60, 3) := by decide +kernel
theorem dX6_days_37 : decode cX6_days 37 = .ok (.ldc2_w 254, 3) := by decide +kernel
theorem dX6_days_40 : decode cX6_days 40 = .ok (.lmul, 1) := by decide +kernel
theorem dX6_days_41 : decode cX6_days 41 = .ok (.ldc2_w 256, 3) := by decide +kernel
theorem dX6_days_44 : decode cX6_days 44 = .ok (.ladd, 1) := by decide +kernel
theorem dX6_days_45 : decode cX6_days 45 = .ok (.putfield 60, 3) := by decide +kernel
theorem dX6_days_48 : decode cX6_days 48 = .ok (.aload_n 0, 1) := by decide +kernel
theorem dX6_days_49 : decode cX6_days 49 = .ok (.getfield 60, 3) := by decide +kernel
theorem dX6_days_52 : decode cX6_days 52 = .ok (.bipush 33, 2) := by decide +kernel
theorem dX6_days_54 : decode cX6_days 54 = .ok (.lushr, 1) := by decide +kernel
theorem dX6_days_55 : decode cX6_days 55 = .ok (.ldc2_w 258, 3) := by decide +kernel
theorem dX6_days_58 : decode cX6_days 58 = .ok (.lrem, 1) := by decide +kernel
theorem dX6_days_59 : decode cX6_days 59 = .ok (.l2i, 1) := by decide +kernel
theorem dX6_days_60 : decode cX6_days 60 = .ok (.istore_n 3, 1) := by decide +kernel
theorem dX6_days_61 : decode cX6_days 61 = .ok (.iload_n 3, 1) := by decide +kernel
theorem dX6_days_62 : decode cX6_days 62 = .ok (.iconst 5, 1) := by decide +kernel
theorem dX6_days_63 : decode cX6_days 63 = .ok (.if_icmp .lt 13, 3) := by decide +kernel
theorem dX6_days_66 : decode cX6_days 66 = .ok (.aload_n 0, 1) := by decide +kernel
theorem dX6_days_67 : decode cX6_days 67 = .ok (.getfield 32, 3) := by decide +kernel
theorem dX6_days_70 : decode cX6_days 70 = .ok (.invokevirtual 153, 3) := by decide +kernel
theorem dX6_days_73 : decode cX6_days 73 = .ok (.goto 22, 3) := by decide +kernel
theorem dX6_days_76 : decode cX6_days 76 = .ok (.aload_n 0, 1) := by decide +kernel
theorem dX6_days_77 : decode cX6_days 77 = .ok (.getfield 32, 3) := by decide +kernel
theorem dX6_days_80 : decode cX6_days 80 = .ok (.iload_n 3, 1) := by decide +kernel
theorem dX6_days_81 : decode cX6_days 81 = .ok (.invokevirtual 171, 3) := by decide +kernel
theorem dX6_days_84 : decode cX6_days 84 = .ok (.ifCond .eq 11, 3) := by decide +kernel
theorem dX6_days_87 : decode cX6_days 87 = .ok (.aload_n 0, 1) := by decide +kernel
theorem dX6_days_88 : decode cX6_days 88 = .ok (.getfield 32, 3) := by decide +kernel
theorem dX6_days_91 : decode cX6_days 91 = .ok (.iload_n 3, 1) := by decide +kernel
theorem dX6_days_92 : decode cX6_days 92 = .ok (.invokevirtual 174, 3) := by decide +kernel
theorem dX6_days_95 : decode cX6_days 95 = .ok (.iinc 2 1, 3) := by decide +kernel
theorem dX6_days_98 : decode cX6_days 98 = .ok (.goto (-71), 3) := by decide +kernel
theorem dX6_days_101 : decode cX6_days 101 = .ok (.aload_n 0, 1) := by decide +kernel
theorem dX6_days_102 : decode cX6_days 102 = .ok (.getfield 32, 3) := by decide +kernel
theorem dX6_days_105 : decode cX6_days 105 = .ok (.invokevirtual 206, 3) := by decide +kernel
theorem dX6_days_108 : decode cX6_days 108 = .ok (.aload_n 0, 1) := by decide +kernel
theorem dX6_days_109 : decode cX6_days 109 = .ok (.getfield 28, 3) := by decide +kernel
theorem dX6_days_112 : decode cX6_days 112 = .ok (.invokevirtual 206, 3) := by decide +kernel
theorem dX6_days_115 : decode cX6_days 115 = .ok (.isub, 1) := by decide +kernel
theorem dX6_days_116 : decode cX6_days 116 = .ok (.ireturn, 1) := by decide +kernel
theorem dX6_keep_0 : decode cX6_keep 0 = .ok (.iload_n 1, 1) := by decide +kernel
theorem dX6_keep_1 : decode cX6_keep 1 = .ok (.invokestatic 260, 3) := by decide +kernel
theorem dX6_keep_4 : decode cX6_keep 4 = .ok (.ifCond .ne 5, 3) := by decide +kernel
theorem dX6_keep_7 : decode cX6_keep 7 = .ok (.iconst (-1), 1) := by decide +kernel
theorem dX6_keep_8 : decode cX6_keep 8 = .ok (.ireturn, 1) := by decide +kernel
theorem dX6_keep_9 : decode cX6_keep 9 = .ok (.aload_n 0, 1) := by decide +kernel
theorem dX6_keep_10 : decode cX6_keep 10 = .ok (.getfield 45, 3) := by decide +kernel
theorem dX6_keep_13 : decode cX6_keep 13 = .ok (.getfield 263, 3) := by decide +kernel
theorem dX6_keep_16 : decode cX6_keep 16 = .ok (.iload_n 1, 1) := by decide +kernel
theorem dX6_keep_17 : decode cX6_keep 17 = .ok (.aaload, 1) := by decide +kernel
theorem dX6_keep_18 : decode cX6_keep 18 = .ok (.aload_n 0, 1) := by decide +kernel
theorem dX6_keep_19 : decode cX6_keep 19 = .ok (.getfield 28, 3) := by decide +kernel
theorem dX6_keep_22 : decode cX6_keep 22 = .ok (.invokevirtual 209, 3) := by decide +kernel
theorem dX6_keep_25 : decode cX6_keep 25 = .ok (.aload_n 0, 1) := by decide +kernel
theorem dX6_keep_26 : decode cX6_keep 26 = .ok (.getfield 45, 3) := by decide +kernel
theorem dX6_keep_29 : decode cX6_keep 29 = .ok (.getfield 267, 3) := by decide +kernel
theorem dX6_keep_32 : decode cX6_keep 32 = .ok (.iload_n 1, 1) := by decide +kernel
theorem dX6_keep_33 : decode cX6_keep 33 = .ok (.iconst 1, 1) := by decide +kernel
theorem dX6_keep_34 : decode cX6_keep 34 = .ok (.bastore, 1) := by decide +kernel
theorem dX6_keep_35 : decode cX6_keep 35 = .ok (.aload_n 0, 1) := by decide +kernel
theorem dX6_keep_36 : decode cX6_keep 36 = .ok (.getfield 28, 3) := by decide +kernel
theorem dX6_keep_39 : decode cX6_keep 39 = .ok (.getfield 112, 3) := by decide +kernel
theorem dX6_keep_42 : decode cX6_keep 42 = .ok (.ireturn, 1) := by decide +kernel
theorem dX6_again_0 : decode cX6_again 0 = .ok (.iload_n 1, 1) := by decide +kernel
theorem dX6_again_1 : decode cX6_again 1 = .ok (.invokestatic 260, 3) := by decide +kernel
theorem dX6_again_4 : decode cX6_again 4 = .ok (.ifCond .ne 5, 3) := by decide +kernel
theorem dX6_again_7 : decode cX6_again 7 = .ok (.iconst (-1), 1) := by decide +kernel
theorem dX6_again_8 : decode cX6_again 8 = .ok (.ireturn, 1) := by decide +kernel
theorem dX6_again_9 : decode cX6_again 9 = .ok (.aload_n 0, 1) := by decide +kernel
theorem dX6_again_10 : decode cX6_again 10 = .ok (.getfield 45, 3) := by decide +kernel
theorem dX6_again_13 : decode cX6_again 13 = .ok (.getfield 267, 3) := by decide +kernel
theorem dX6_again_16 : decode cX6_again 16 = .ok (.iload_n 1, 1) := by decide +kernel
theorem dX6_again_17 : decode cX6_again 17 = .ok (.baload, 1) := by decide +kernel
theorem dX6_again_18 : decode cX6_again 18 = .ok (.ifCond .ne 6, 3) := by decide +kernel
theorem dX6_again_21 : decode cX6_again 21 = .ok (.bipush (-3), 2) := by decide +kernel
theorem dX6_again_23 : decode cX6_again 23 = .ok (.ireturn, 1) := by decide +kernel
theorem dX6_again_24 : decode cX6_again 24 = .ok (.aload_n 0, 1) := by decide +kernel
theorem dX6_again_25 : decode cX6_again 25 = .ok (.getfield 28, 3) := by decide +kernel
theorem dX6_again_28 : decode cX6_again 28 = .ok (.aload_n 0, 1) := by decide +kernel
theorem dX6_again_29 : decode cX6_again 29 = .ok (.getfield 45, 3) := by decide +kernel
theorem dX6_again_32 : decode cX6_again 32 = .ok (.getfield 263, 3) := by decide +kernel
theorem dX6_again_35 : decode cX6_again 35 = .ok (.iload_n 1, 1) := by decide +kernel
theorem dX6_again_36 : decode cX6_again 36 = .ok (.aaload, 1) := by decide +kernel
theorem dX6_again_37 : decode cX6_again 37 = .ok (.invokevirtual 209, 3) := by decide +kernel
theorem dX6_again_40 : decode cX6_again 40 = .ok (.aload_n 0, 1) := by decide +kernel
theorem dX6_again_41 : decode cX6_again 41 = .ok (.getfield 38, 3) := by decide +kernel
theorem dX6_again_44 : decode cX6_again 44 = .ok (.invokevirtual 83, 3) := by decide +kernel
theorem dX6_again_47 : decode cX6_again 47 = .ok (.aload_n 0, 1) := by decide +kernel
theorem dX6_again_48 : decode cX6_again 48 = .ok (.getfield 28, 3) := by decide +kernel
theorem dX6_again_51 : decode cX6_again 51 = .ok (.getfield 112, 3) := by decide +kernel
theorem dX6_again_54 : decode cX6_again 54 = .ok (.ireturn, 1) := by decide +kernel
theorem dX6_isRule_0 : decode cX6_isRule 0 = .ok (.iload_n 0, 1) := by decide +kernel
theorem dX6_isRule_1 : decode cX6_isRule 1 = .ok (.ifCond .lt 12, 3) := by decide +kernel
theorem dX6_isRule_4 : decode cX6_isRule 4 = .ok (.iload_n 0, 1) := by decide +kernel
theorem dX6_isRule_5 : decode cX6_isRule 5 = .ok (.iconst 4, 1) := by decide +kernel
theorem dX6_isRule_6 : decode cX6_isRule 6 = .ok (.if_icmp .ge 7, 3) := by decide +kernel
theorem dX6_isRule_9 : decode cX6_isRule 9 = .ok (.iconst 1, 1) := by decide +kernel
theorem dX6_isRule_10 : decode cX6_isRule 10 = .ok (.goto 4, 3) := by decide +kernel
theorem dX6_isRule_13 : decode cX6_isRule 13 = .ok (.iconst 0, 1) := by decide +kernel
theorem dX6_isRule_14 : decode cX6_isRule 14 = .ok (.ireturn, 1) := by decide +kernel
theorem dX6_isLength_0 : decode cX6_isLength 0 = .ok (.iload_n 0, 1) := by decide +kernel
theorem dX6_isLength_1 : decode cX6_isLength 1 = .ok (.iconst 1, 1) := by decide +kernel
theorem dX6_isLength_2 : decode cX6_isLength 2 = .ok (.if_icmp .lt 13, 3) := by decide +kernel
theorem dX6_isLength_5 : decode cX6_isLength 5 = .ok (.iload_n 0, 1) := by decide +kernel
theorem dX6_isLength_6 : decode cX6_isLength 6 = .ok (.bipush 9, 2) := by decide +kernel
theorem dX6_isLength_8 : decode cX6_isLength 8 = .ok (.if_icmp .gt 7, 3) := by decide +kernel
theorem dX6_isLength_11 : decode cX6_isLength 11 = .ok (.iconst 1, 1) := by decide +kernel
theorem dX6_isLength_12 : decode cX6_isLength 12 = .ok (.goto 4, 3) := by decide +kernel
theorem dX6_isLength_15 : decode cX6_isLength 15 = .ok (.iconst 0, 1) := by decide +kernel
theorem dX6_isLength_16 : decode cX6_isLength 16 = .ok (.ireturn, 1) := by decide +kernel
theorem dX6_isOutlook_0 : decode cX6_isOutlook 0 = .ok (.iload_n 0, 1) := by decide +kernel
theorem dX6_isOutlook_1 : decode cX6_isOutlook 1 = .ok (.ifCond .lt 12, 3) := by decide +kernel
theorem dX6_isOutlook_4 : decode cX6_isOutlook 4 = .ok (.iload_n 0, 1) := by decide +kernel
theorem dX6_isOutlook_5 : decode cX6_isOutlook 5 = .ok (.iconst 3, 1) := by decide +kernel
theorem dX6_isOutlook_6 : decode cX6_isOutlook 6 = .ok (.if_icmp .gt 7, 3) := by decide +kernel
theorem dX6_isOutlook_9 : decode cX6_isOutlook 9 = .ok (.iconst 1, 1) := by decide +kernel
theorem dX6_isOutlook_10 : decode cX6_isOutlook 10 = .ok (.goto 4, 3) := by decide +kernel
theorem dX6_isOutlook_13 : decode cX6_isOutlook 13 = .ok (.iconst 0, 1) := by decide +kernel
theorem dX6_isOutlook_14 : decode cX6_isOutlook 14 = .ok (.ireturn, 1) := by decide +kernel
theorem dX6_isSlot_0 : decode cX6_isSlot 0 = .ok (.iload_n 0, 1) := by decide +kernel
theorem dX6_isSlot_1 : decode cX6_isSlot 1 = .ok (.ifCond .lt 12, 3) := by decide +kernel
theorem dX6_isSlot_4 : decode cX6_isSlot 4 = .ok (.iload_n 0, 1) := by decide +kernel
theorem dX6_isSlot_5 : decode cX6_isSlot 5 = .ok (.iconst 2, 1) := by decide +kernel
theorem dX6_isSlot_6 : decode cX6_isSlot 6 = .ok (.if_icmp .ge 7, 3) := by decide +kernel
theorem dX6_isSlot_9 : decode cX6_isSlot 9 = .ok (.iconst 1, 1) := by decide +kernel
theorem dX6_isSlot_10 : decode cX6_isSlot 10 = .ok (.goto 4, 3) := by decide +kernel
theorem dX6_isSlot_13 : decode cX6_isSlot 13 = .ok (.iconst 0, 1) := by decide +kernel
theorem dX6_isSlot_14 : decode cX6_isSlot 14 = .ok (.ireturn, 1) := by decide +kernel
theorem dX6_has_0 : decode cX6_has 0 = .ok (.iload_n 0, 1) := by decide +kernel
theorem dX6_has_1 : decode cX6_has 1 = .ok (.iload_n 1, 1) := by decide +kernel
theorem dX6_has_2 : decode cX6_has 2 = .ok (.ishr, 1) := by decide +kernel
theorem dX6_has_3 : decode cX6_has 3 = .ok (.iconst 1, 1) := by decide +kernel
theorem dX6_has_4 : decode cX6_has 4 = .ok (.iand, 1) := by decide +kernel
theorem dX6_has_5 : decode cX6_has 5 = .ok (.iconst 1, 1) := by decide +kernel
theorem dX6_has_6 : decode cX6_has 6 = .ok (.if_icmp .ne 7, 3) := by decide +kernel
theorem dX6_has_9 : decode cX6_has 9 = .ok (.iconst 1, 1) := by decide +kernel
theorem dX6_has_10 : decode cX6_has 10 = .ok (.goto 4, 3) := by decide +kernel
theorem dX6_has_13 : decode cX6_has 13 = .ok (.iconst 0, 1) := by decide +kernel
theorem dX6_has_14 : decode cX6_has 14 = .ok (.ireturn, 1) := by decide +kernel
theorem dX6_look_0 : decode cX6_look 0 = .ok (.aload_n 0, 1) := by decide +kernel
theorem dX6_look_1 : decode cX6_look 1 = .ok (.getfield 32, 3) := by decide +kernel
theorem dX6_look_4 : decode cX6_look 4 = .ok (.aload_n 0, 1) := by decide +kernel
theorem dX6_look_5 : decode cX6_look 5 = .ok (.getfield 28, 3) := by decide +kernel
theorem dX6_look_8 : decode cX6_look 8 = .ok (.invokevirtual 209, 3) := by decide +kernel
theorem dX6_look_11 : decode cX6_look 11 = .ok (.aload_n 0, 1) := by decide +kernel
theorem dX6_look_12 : decode cX6_look 12 = .ok (.getfield 32, 3) := by decide +kernel
theorem dX6_look_15 : decode cX6_look 15 = .ok (.iload_n 1, 1) := by decide +kernel
theorem dX6_look_16 : decode cX6_look 16 = .ok (.iload_n 2, 1) := by decide +kernel
theorem dX6_look_17 : decode cX6_look 17 = .ok (.invokevirtual 183, 3) := by decide +kernel
theorem dX6_look_20 : decode cX6_look 20 = .ok (.aload_n 0, 1) := by decide +kernel
theorem dX6_look_21 : decode cX6_look 21 = .ok (.getfield 32, 3) := by decide +kernel
theorem dX6_look_24 : decode cX6_look 24 = .ok (.iload_n 3, 1) := by decide +kernel
theorem dX6_look_25 : decode cX6_look 25 = .ok (.putfield 94, 3) := by decide +kernel
theorem dX6_look_28 : decode cX6_look 28 = .ok (.iconst 0, 1) := by decide +kernel
theorem dX6_look_29 : decode cX6_look 29 = .ok (.istore 5, 2) := by decide +kernel
theorem dX6_look_31 : decode cX6_look 31 = .ok (.iload 5, 2) := by decide +kernel
theorem dX6_look_33 : decode cX6_look 33 = .ok (.iload 4, 2) := by decide +kernel
theorem dX6_look_35 : decode cX6_look 35 = .ok (.if_icmp .ge 16, 3) := by decide +kernel
theorem dX6_look_38 : decode cX6_look 38 = .ok (.aload_n 0, 1) := by decide +kernel
theorem dX6_look_39 : decode cX6_look 39 = .ok (.getfield 32, 3) := by decide +kernel
theorem dX6_look_42 : decode cX6_look 42 = .ok (.invokevirtual 153, 3) := by decide +kernel
theorem dX6_look_45 : decode cX6_look 45 = .ok (.iinc 5 1, 3) := by decide +kernel
theorem dX6_look_48 : decode cX6_look 48 = .ok (.goto (-17), 3) := by decide +kernel
theorem dX6_look_51 : decode cX6_look 51 = .ok (.return_, 1) := by decide +kernel
theorem dX6_outlook_0 : decode cX6_outlook 0 = .ok (.iload_n 1, 1) := by decide +kernel
theorem dX6_outlook_1 : decode cX6_outlook 1 = .ok (.tableswitch 51 0 2 #[27, 35, 43], 27) := by decide +kernel
theorem dX6_outlook_28 : decode cX6_outlook 28 = .ok (.aload_n 0, 1) := by decide +kernel
theorem dX6_outlook_29 : decode cX6_outlook 29 = .ok (.getfield 32, 3) := by decide +kernel
theorem dX6_outlook_32 : decode cX6_outlook 32 = .ok (.getfield 97, 3) := by decide +kernel
theorem dX6_outlook_35 : decode cX6_outlook 35 = .ok (.ireturn, 1) := by decide +kernel
theorem dX6_outlook_36 : decode cX6_outlook 36 = .ok (.aload_n 0, 1) := by decide +kernel
theorem dX6_outlook_37 : decode cX6_outlook 37 = .ok (.getfield 32, 3) := by decide +kernel
theorem dX6_outlook_40 : decode cX6_outlook 40 = .ok (.invokevirtual 206, 3) := by decide +kernel
theorem dX6_outlook_43 : decode cX6_outlook 43 = .ok (.ireturn, 1) := by decide +kernel
theorem dX6_outlook_44 : decode cX6_outlook 44 = .ok (.aload_n 0, 1) := by decide +kernel
theorem dX6_outlook_45 : decode cX6_outlook 45 = .ok (.getfield 32, 3) := by decide +kernel
theorem dX6_outlook_48 : decode cX6_outlook 48 = .ok (.invokevirtual 203, 3) := by decide +kernel
theorem dX6_outlook_51 : decode cX6_outlook 51 = .ok (.ireturn, 1) := by decide +kernel
theorem dX6_outlook_52 : decode cX6_outlook 52 = .ok (.aload_n 0, 1) := by decide +kernel
theorem dX6_outlook_53 : decode cX6_outlook 53 = .ok (.getfield 32, 3) := by decide +kernel
theorem dX6_outlook_56 : decode cX6_outlook 56 = .ok (.invokevirtual 271, 3) := by decide +kernel
theorem dX6_outlook_59 : decode cX6_outlook 59 = .ok (.ireturn, 1) := by decide +kernel
theorem dX6_riddenByGroup_0 : decode cX6_riddenByGroup 0 = .ok (.aload_n 0, 1) := by decide +kernel
theorem dX6_riddenByGroup_1 : decode cX6_riddenByGroup 1 = .ok (.getfield 32, 3) := by decide +kernel
theorem dX6_riddenByGroup_4 : decode cX6_riddenByGroup 4 = .ok (.aload_n 0, 1) := by decide +kernel
theorem dX6_riddenByGroup_5 : decode cX6_riddenByGroup 5 = .ok (.getfield 28, 3) := by decide +kernel
theorem dX6_riddenByGroup_8 : decode cX6_riddenByGroup 8 = .ok (.invokevirtual 209, 3) := by decide +kernel
theorem dX6_riddenByGroup_11 : decode cX6_riddenByGroup 11 = .ok (.aload_n 0, 1) := by decide +kernel
theorem dX6_riddenByGroup_12 : decode cX6_riddenByGroup 12 = .ok (.getfield 32, 3) := by decide +kernel
theorem dX6_riddenByGroup_15 : decode cX6_riddenByGroup 15 = .ok (.iload_n 1, 1) := by decide +kernel
theorem dX6_riddenByGroup_16 : decode cX6_riddenByGroup 16 = .ok (.invokevirtual 274, 3) := by decide +kernel
theorem dX6_riddenByGroup_19 : decode cX6_riddenByGroup 19 = .ok (.iconst 0, 1) := by decide +kernel
theorem dX6_riddenByGroup_20 : decode cX6_riddenByGroup 20 = .ok (.istore_n 2, 1) := by decide +kernel
theorem dX6_riddenByGroup_21 : decode cX6_riddenByGroup 21 = .ok (.iconst 0, 1) := by decide +kernel
theorem dX6_riddenByGroup_22 : decode cX6_riddenByGroup 22 = .ok (.istore_n 3, 1) := by decide +kernel
theorem dX6_riddenByGroup_23 : decode cX6_riddenByGroup 23 = .ok (.iload_n 3, 1) := by decide +kernel
theorem dX6_riddenByGroup_24 : decode cX6_riddenByGroup 24 = .ok (.bipush 6, 2) := by decide +kernel
theorem dX6_riddenByGroup_26 : decode cX6_riddenByGroup 26 = .ok (.if_icmp .ge 29, 3) := by decide +kernel
theorem dX6_riddenByGroup_29 : decode cX6_riddenByGroup 29 = .ok (.aload_n 0, 1) := by decide +kernel
theorem dX6_riddenByGroup_30 : decode cX6_riddenByGroup 30 = .ok (.getfield 32, 3) := by decide +kernel
theorem dX6_riddenByGroup_33 : decode cX6_riddenByGroup 33 = .ok (.invokevirtual 153, 3) := by decide +kernel
theorem dX6_riddenByGroup_36 : decode cX6_riddenByGroup 36 = .ok (.iload_n 2, 1) := by decide +kernel
theorem dX6_riddenByGroup_37 : decode cX6_riddenByGroup 37 = .ok (.aload_n 0, 1) := by decide +kernel
theorem dX6_riddenByGroup_38 : decode cX6_riddenByGroup 38 = .ok (.getfield 32, 3) := by decide +kernel
theorem dX6_riddenByGroup_41 : decode cX6_riddenByGroup 41 = .ok (.getfield 97, 3) := by decide +kernel
theorem dX6_riddenByGroup_44 : decode cX6_riddenByGroup 44 = .ok (.invokestatic 225, 3) := by decide +kernel
theorem dX6_riddenByGroup_47 : decode cX6_riddenByGroup 47 = .ok (.iadd, 1) := by decide +kernel
theorem dX6_riddenByGroup_48 : decode cX6_riddenByGroup 48 = .ok (.istore_n 2, 1) := by decide +kernel
theorem dX6_riddenByGroup_49 : decode cX6_riddenByGroup 49 = .ok (.iinc 3 1, 3) := by decide +kernel
theorem dX6_riddenByGroup_52 : decode cX6_riddenByGroup 52 = .ok (.goto (-29), 3) := by decide +kernel
theorem dX6_riddenByGroup_55 : decode cX6_riddenByGroup 55 = .ok (.iload_n 2, 1) := by decide +kernel
theorem dX6_riddenByGroup_56 : decode cX6_riddenByGroup 56 = .ok (.ireturn, 1) := by decide +kernel
theorem dX6_allSeenIsSoBy_0 : decode cX6_allSeenIsSoBy 0 = .ok (.aload_n 0, 1) := by decide +kernel
theorem dX6_allSeenIsSoBy_1 : decode cX6_allSeenIsSoBy 1 = .ok (.getfield 32, 3) := by decide +kernel
theorem dX6_allSeenIsSoBy_4 : decode cX6_allSeenIsSoBy 4 = .ok (.aload_n 0, 1) := by decide +kernel
theorem dX6_allSeenIsSoBy_5 : decode cX6_allSeenIsSoBy 5 = .ok (.getfield 28, 3) := by decide +kernel
theorem dX6_allSeenIsSoBy_8 : decode cX6_allSeenIsSoBy 8 = .ok (.invokevirtual 209, 3) := by decide +kernel
theorem dX6_allSeenIsSoBy_11 : decode cX6_allSeenIsSoBy 11 = .ok (.aload_n 0, 1) := by decide +kernel
theorem dX6_allSeenIsSoBy_12 : decode cX6_allSeenIsSoBy 12 = .ok (.getfield 32, 3) := by decide +kernel
theorem dX6_allSeenIsSoBy_15 : decode cX6_allSeenIsSoBy 15 = .ok (.iload_n 1, 1) := by decide +kernel
theorem dX6_allSeenIsSoBy_16 : decode cX6_allSeenIsSoBy 16 = .ok (.aload_n 0, 1) := by decide +kernel
theorem dX6_allSeenIsSoBy_17 : decode cX6_allSeenIsSoBy 17 = .ok (.getfield 28, 3) := by decide +kernel
theorem dX6_allSeenIsSoBy_20 : decode cX6_allSeenIsSoBy 20 = .ok (.getfield 93, 3) := by decide +kernel
theorem dX6_allSeenIsSoBy_23 : decode cX6_allSeenIsSoBy 23 = .ok (.invokevirtual 183, 3) := by decide +kernel
theorem dX6_allSeenIsSoBy_26 : decode cX6_allSeenIsSoBy 26 = .ok (.iconst 1, 1) := by decide +kernel
theorem dX6_allSeenIsSoBy_27 : decode cX6_allSeenIsSoBy 27 = .ok (.istore_n 2, 1) := by decide +kernel
theorem dX6_allSeenIsSoBy_28 : decode cX6_allSeenIsSoBy 28 = .ok (.iload_n 2, 1) := by decide +kernel
theorem dX6_allSeenIsSoBy_29 : decode cX6_allSeenIsSoBy 29 = .ok (.bipush 20, 2) := by decide +kernel
theorem dX6_allSeenIsSoBy_31 : decode cX6_allSeenIsSoBy 31 = .ok (.if_icmp .gt 47, 3) := by decide +kernel
theorem dX6_allSeenIsSoBy_34 : decode cX6_allSeenIsSoBy 34 = .ok (.aload_n 0, 1) := by decide +kernel
theorem dX6_allSeenIsSoBy_35 : decode cX6_allSeenIsSoBy 35 = .ok (.getfield 32, 3) := by decide +kernel
theorem dX6_allSeenIsSoBy_38 : decode cX6_allSeenIsSoBy 38 = .ok (.invokevirtual 153, 3) := by decide +kernel
theorem dX6_allSeenIsSoBy_41 : decode cX6_allSeenIsSoBy 41 = .ok (.aload_n 0, 1) := by decide +kernel
theorem dX6_allSeenIsSoBy_42 : decode cX6_allSeenIsSoBy 42 = .ok (.getfield 52, 3) := by decide +kernel
theorem dX6_allSeenIsSoBy_45 : decode cX6_allSeenIsSoBy 45 = .ok (.iload_n 2, 1) := by decide +kernel
theorem dX6_allSeenIsSoBy_46 : decode cX6_allSeenIsSoBy 46 = .ok (.invokevirtual 277, 3) := by decide +kernel
theorem dX6_allSeenIsSoBy_49 : decode cX6_allSeenIsSoBy 49 = .ok (.aload_n 0, 1) := by decide +kernel
theorem dX6_allSeenIsSoBy_50 : decode cX6_allSeenIsSoBy 50 = .ok (.getfield 32, 3) := by decide +kernel
theorem dX6_allSeenIsSoBy_53 : decode cX6_allSeenIsSoBy 53 = .ok (.getfield 280, 3) := by decide +kernel
theorem dX6_allSeenIsSoBy_56 : decode cX6_allSeenIsSoBy 56 = .ok (.iand, 1) := by decide +kernel
theorem dX6_allSeenIsSoBy_57 : decode cX6_allSeenIsSoBy 57 = .ok (.aload_n 0, 1) := by decide +kernel
theorem dX6_allSeenIsSoBy_58 : decode cX6_allSeenIsSoBy 58 = .ok (.getfield 32, 3) := by decide +kernel
theorem dX6_allSeenIsSoBy_61 : decode cX6_allSeenIsSoBy 61 = .ok (.getfield 97, 3) := by decide +kernel
theorem dX6_allSeenIsSoBy_64 : decode cX6_allSeenIsSoBy 64 = .ok (.iconst (-1), 1) := by decide +kernel
theorem dX6_allSeenIsSoBy_65 : decode cX6_allSeenIsSoBy 65 = .ok (.ixor, 1) := by decide +kernel
theorem dX6_allSeenIsSoBy_66 : decode cX6_allSeenIsSoBy 66 = .ok (.iand, 1) := by decide +kernel
theorem dX6_allSeenIsSoBy_67 : decode cX6_allSeenIsSoBy 67 = .ok (.ifCond .eq 5, 3) := by decide +kernel
theorem dX6_allSeenIsSoBy_70 : decode cX6_allSeenIsSoBy 70 = .ok (.iconst 0, 1) := by decide +kernel
theorem dX6_allSeenIsSoBy_71 : decode cX6_allSeenIsSoBy 71 = .ok (.ireturn, 1) := by decide +kernel
theorem dX6_allSeenIsSoBy_72 : decode cX6_allSeenIsSoBy 72 = .ok (.iinc 2 1, 3) := by decide +kernel
theorem dX6_allSeenIsSoBy_75 : decode cX6_allSeenIsSoBy 75 = .ok (.goto (-47), 3) := by decide +kernel
theorem dX6_allSeenIsSoBy_78 : decode cX6_allSeenIsSoBy 78 = .ok (.iconst 1, 1) := by decide +kernel
theorem dX6_allSeenIsSoBy_79 : decode cX6_allSeenIsSoBy 79 = .ok (.ireturn, 1) := by decide +kernel
theorem dX6_staysWith_0 : decode cX6_staysWith 0 = .ok (.aload_n 0, 1) := by decide +kernel
theorem dX6_staysWith_1 : decode cX6_staysWith 1 = .ok (.iload_n 1, 1) := by decide +kernel
theorem dX6_staysWith_2 : decode cX6_staysWith 2 = .ok (.iload_n 2, 1) := by decide +kernel
theorem dX6_staysWith_3 : decode cX6_staysWith 3 = .ok (.iload_n 3, 1) := by decide +kernel
theorem dX6_staysWith_4 : decode cX6_staysWith 4 = .ok (.iload 4, 2) := by decide +kernel
theorem dX6_staysWith_6 : decode cX6_staysWith 6 = .ok (.invokevirtual 283, 3) := by decide +kernel
theorem dX6_staysWith_9 : decode cX6_staysWith 9 = .ok (.aload_n 0, 1) := by decide +kernel
theorem dX6_staysWith_10 : decode cX6_staysWith 10 = .ok (.iload_n 1, 1) := by decide +kernel
theorem dX6_staysWith_11 : decode cX6_staysWith 11 = .ok (.iconst 1, 1) := by decide +kernel
theorem dX6_staysWith_12 : decode cX6_staysWith 12 = .ok (.iload_n 2, 1) := by decide +kernel
theorem dX6_staysWith_13 : decode cX6_staysWith 13 = .ok (.isub, 1) := by decide +kernel
theorem dX6_staysWith_14 : decode cX6_staysWith 14 = .ok (.iload_n 3, 1) := by decide +kernel
theorem dX6_staysWith_15 : decode cX6_staysWith 15 = .ok (.iload 4, 2) := by decide +kernel
theorem dX6_staysWith_17 : decode cX6_staysWith 17 = .ok (.invokevirtual 283, 3) := by decide +kernel
theorem dX6_staysWith_20 : decode cX6_staysWith 20 = .ok (.if_icmp .lt 7, 3) := by decide +kernel
theorem dX6_staysWith_23 : decode cX6_staysWith 23 = .ok (.iconst 1, 1) := by decide +kernel
theorem dX6_staysWith_24 : decode cX6_staysWith 24 = .ok (.goto 4, 3) := by decide +kernel
theorem dX6_staysWith_27 : decode cX6_staysWith 27 = .ok (.iconst 0, 1) := by decide +kernel
theorem dX6_staysWith_28 : decode cX6_staysWith 28 = .ok (.ireturn, 1) := by decide +kernel
theorem dX6_gain_0 : decode cX6_gain 0 = .ok (.iload_n 2, 1) := by decide +kernel
theorem dX6_gain_1 : decode cX6_gain 1 = .ok (.iconst 1, 1) := by decide +kernel
theorem dX6_gain_2 : decode cX6_gain 2 = .ok (.if_icmp .ne 15, 3) := by decide +kernel
theorem dX6_gain_5 : decode cX6_gain 5 = .ok (.iload 4, 2) := by decide +kernel
theorem dX6_gain_7 : decode cX6_gain 7 = .ok (.iconst 1, 1) := by decide +kernel
theorem dX6_gain_8 : decode cX6_gain 8 = .ok (.if_icmp .ne 7, 3) := by decide +kernel
theorem dX6_gain_11 : decode cX6_gain 11 = .ok (.iconst 3, 1) := by decide +kernel
theorem dX6_gain_12 : decode cX6_gain 12 = .ok (.goto 4, 3) := by decide +kernel
theorem dX6_gain_15 : decode cX6_gain 15 = .ok (.iconst 0, 1) := by decide +kernel
theorem dX6_gain_16 : decode cX6_gain 16 = .ok (.ireturn, 1) := by decide +kernel
theorem dX6_gain_17 : decode cX6_gain 17 = .ok (.iload 4, 2) := by decide +kernel
theorem dX6_gain_19 : decode cX6_gain 19 = .ok (.iconst 1, 1) := by decide +kernel
theorem dX6_gain_20 : decode cX6_gain 20 = .ok (.if_icmp .ne 17, 3) := by decide +kernel
theorem dX6_gain_23 : decode cX6_gain 23 = .ok (.iconst 3, 1) := by decide +kernel
theorem dX6_gain_24 : decode cX6_gain 24 = .ok (.aload_n 0, 1) := by decide +kernel
theorem dX6_gain_25 : decode cX6_gain 25 = .ok (.getfield 28, 3) := by decide +kernel
theorem dX6_gain_28 : decode cX6_gain 28 = .ok (.getfield 121, 3) := by decide +kernel
theorem dX6_gain_31 : decode cX6_gain 31 = .ok (.iload_n 1, 1) := by decide +kernel
theorem dX6_gain_32 : decode cX6_gain 32 = .ok (.iaload, 1) := by decide +kernel
theorem dX6_gain_33 : decode cX6_gain 33 = .ok (.iconst 2, 1) := by decide +kernel
theorem dX6_gain_34 : decode cX6_gain 34 = .ok (.idiv, 1) := by decide +kernel
theorem dX6_gain_35 : decode cX6_gain 35 = .ok (.iadd, 1) := by decide +kernel
theorem dX6_gain_36 : decode cX6_gain 36 = .ok (.ireturn, 1) := by decide +kernel
theorem dX6_gain_37 : decode cX6_gain 37 = .ok (.aload_n 0, 1) := by decide +kernel
theorem dX6_gain_38 : decode cX6_gain 38 = .ok (.getfield 19, 3) := by decide +kernel
theorem dX6_gain_41 : decode cX6_gain 41 = .ok (.iload_n 1, 1) := by decide +kernel
theorem dX6_gain_42 : decode cX6_gain 42 = .ok (.invokevirtual 130, 3) := by decide +kernel
theorem dX6_gain_45 : decode cX6_gain 45 = .ok (.aload_n 0, 1) := by decide +kernel
theorem dX6_gain_46 : decode cX6_gain 46 = .ok (.getfield 19, 3) := by decide +kernel
theorem dX6_gain_49 : decode cX6_gain 49 = .ok (.iload_n 3, 1) := by decide +kernel
theorem dX6_gain_50 : decode cX6_gain 50 = .ok (.invokevirtual 130, 3) := by decide +kernel
theorem dX6_gain_53 : decode cX6_gain 53 = .ok (.isub, 1) := by decide +kernel
theorem dX6_gain_54 : decode cX6_gain 54 = .ok (.istore 5, 2) := by decide +kernel
theorem dX6_gain_56 : decode cX6_gain 56 = .ok (.iload 5, 2) := by decide +kernel
theorem dX6_gain_58 : decode cX6_gain 58 = .ok (.ifCond .ne 5, 3) := by decide +kernel
theorem dX6_gain_61 : decode cX6_gain 61 = .ok (.iconst (-1), 1) := by decide +kernel
theorem dX6_gain_62 : decode cX6_gain 62 = .ok (.ireturn, 1) := by decide +kernel
theorem dX6_gain_63 : decode cX6_gain 63 = .ok (.iload 5, 2) := by decide +kernel
theorem dX6_gain_65 : decode cX6_gain 65 = .ok (.ifCond .le 17, 3) := by decide +kernel
theorem dX6_gain_68 : decode cX6_gain 68 = .ok (.aload_n 0, 1) := by decide +kernel
theorem dX6_gain_69 : decode cX6_gain 69 = .ok (.getfield 28, 3) := by decide +kernel
theorem dX6_gain_72 : decode cX6_gain 72 = .ok (.getfield 121, 3) := by decide +kernel
theorem dX6_gain_75 : decode cX6_gain 75 = .ok (.iload_n 1, 1) := by decide +kernel
theorem dX6_gain_76 : decode cX6_gain 76 = .ok (.iaload, 1) := by decide +kernel
theorem dX6_gain_77 : decode cX6_gain 77 = .ok (.iconst 3, 1) := by decide +kernel
theorem dX6_gain_78 : decode cX6_gain 78 = .ok (.idiv, 1) := by decide +kernel
theorem dX6_gain_79 : decode cX6_gain 79 = .ok (.goto 5, 3) := by decide +kernel
theorem dX6_gain_82 : decode cX6_gain 82 = .ok (.bipush (-2), 2) := by decide +kernel
theorem dX6_gain_84 : decode cX6_gain 84 = .ok (.ireturn, 1) := by decide +kernel
theorem dX6_weightOfWorms_0 : decode cX6_weightOfWorms 0 = .ok (.iconst 1, 1) := by decide +kernel
theorem dX6_weightOfWorms_1 : decode cX6_weightOfWorms 1 = .ok (.istore_n 3, 1) := by decide +kernel
theorem dX6_weightOfWorms_2 : decode cX6_weightOfWorms 2 = .ok (.iconst 0, 1) := by decide +kernel
theorem dX6_weightOfWorms_3 : decode cX6_weightOfWorms 3 = .ok (.istore 4, 2) := by decide +kernel
theorem dX6_weightOfWorms_5 : decode cX6_weightOfWorms 5 = .ok (.iload 4, 2) := by decide +kernel
theorem dX6_weightOfWorms_7 : decode cX6_weightOfWorms 7 = .ok (.iload_n 1, 1) := by decide +kernel
theorem dX6_weightOfWorms_8 : decode cX6_weightOfWorms 8 = .ok (.if_icmp .ge 29, 3) := by decide +kernel
theorem dX6_weightOfWorms_11 : decode cX6_weightOfWorms 11 = .ok (.iload_n 3, 1) := by decide +kernel
theorem dX6_weightOfWorms_12 : decode cX6_weightOfWorms 12 = .ok (.iload_n 0, 1) := by decide +kernel
theorem dX6_weightOfWorms_13 : decode cX6_weightOfWorms 13 = .ok (.iload 4, 2) := by decide +kernel
theorem dX6_weightOfWorms_15 : decode cX6_weightOfWorms 15 = .ok (.invokestatic 222, 3) := by decide +kernel
theorem dX6_weightOfWorms_18 : decode cX6_weightOfWorms 18 = .ok (.ifCond .eq 7, 3) := by decide +kernel
theorem dX6_weightOfWorms_21 : decode cX6_weightOfWorms 21 = .ok (.iload_n 2, 1) := by decide +kernel
theorem dX6_weightOfWorms_22 : decode cX6_weightOfWorms 22 = .ok (.goto 7, 3) := by decide +kernel
theorem dX6_weightOfWorms_25 : decode cX6_weightOfWorms 25 = .ok (.bipush 10, 2) := by decide +kernel
theorem dX6_weightOfWorms_27 : decode cX6_weightOfWorms 27 = .ok (.iload_n 2, 1) := by decide +kernel
theorem dX6_weightOfWorms_28 : decode cX6_weightOfWorms 28 = .ok (.isub, 1) := by decide +kernel
theorem dX6_weightOfWorms_29 : decode cX6_weightOfWorms 29 = .ok (.imul, 1) := by decide +kernel
theorem dX6_weightOfWorms_30 : decode cX6_weightOfWorms 30 = .ok (.istore_n 3, 1) := by decide +kernel
theorem dX6_weightOfWorms_31 : decode cX6_weightOfWorms 31 = .ok (.iinc 4 1, 3) := by decide +kernel
theorem dX6_weightOfWorms_34 : decode cX6_weightOfWorms 34 = .ok (.goto (-29), 3) := by decide +kernel
theorem dX6_weightOfWorms_37 : decode cX6_weightOfWorms 37 = .ok (.iload_n 3, 1) := by decide +kernel
theorem dX6_weightOfWorms_38 : decode cX6_weightOfWorms 38 = .ok (.ireturn, 1) := by decide +kernel
theorem dX6_ridesAfterWorms_0 : decode cX6_ridesAfterWorms 0 = .ok (.aload_n 0, 1) := by decide +kernel
theorem dX6_ridesAfterWorms_1 : decode cX6_ridesAfterWorms 1 = .ok (.getfield 32, 3) := by decide +kernel
theorem dX6_ridesAfterWorms_4 : decode cX6_ridesAfterWorms 4 = .ok (.aload_n 0, 1) := by decide +kernel
theorem dX6_ridesAfterWorms_5 : decode cX6_ridesAfterWorms 5 = .ok (.getfield 28, 3) := by decide +kernel
theorem dX6_ridesAfterWorms_8 : decode cX6_ridesAfterWorms 8 = .ok (.invokevirtual 209, 3) := by decide +kernel
theorem dX6_ridesAfterWorms_11 : decode cX6_ridesAfterWorms 11 = .ok (.iconst 0, 1) := by decide +kernel
theorem dX6_ridesAfterWorms_12 : decode cX6_ridesAfterWorms 12 = .ok (.istore 4, 2) := by decide +kernel
theorem dX6_ridesAfterWorms_14 : decode cX6_ridesAfterWorms 14 = .ok (.iload 4, 2) := by decide +kernel
theorem dX6_ridesAfterWorms_16 : decode cX6_ridesAfterWorms 16 = .ok (.iload_n 3, 1) := by decide +kernel
theorem dX6_ridesAfterWorms_17 : decode cX6_ridesAfterWorms 17 = .ok (.if_icmp .ge 33, 3) := by decide +kernel
theorem dX6_ridesAfterWorms_20 : decode cX6_ridesAfterWorms 20 = .ok (.iload_n 2, 1) := by decide +kernel
theorem dX6_ridesAfterWorms_21 : decode cX6_ridesAfterWorms 21 = .ok (.iload 4, 2) := by decide +kernel
theorem dX6_ridesAfterWorms_23 : decode cX6_ridesAfterWorms 23 = .ok (.invokestatic 222, 3) := by decide +kernel
theorem dX6_ridesAfterWorms_26 : decode cX6_ridesAfterWorms 26 = .ok (.ifCond .eq 11, 3) := by decide +kernel
theorem dX6_ridesAfterWorms_29 : decode cX6_ridesAfterWorms 29 = .ok (.aload_n 0, 1) := by decide +kernel
theorem dX6_ridesAfterWorms_30 : decode cX6_ridesAfterWorms 30 = .ok (.getfield 32, 3) := by decide +kernel
theorem dX6_ridesAfterWorms_33 : decode cX6_ridesAfterWorms 33 = .ok (.iconst 0, 1) := by decide +kernel
theorem dX6_ridesAfterWorms_34 : decode cX6_ridesAfterWorms 34 = .ok (.invokevirtual 287, 3) := by decide +kernel
theorem dX6_ridesAfterWorms_37 : decode cX6_ridesAfterWorms 37 = .ok (.aload_n 0, 1) := by decide +kernel
theorem dX6_ridesAfterWorms_38 : decode cX6_ridesAfterWorms 38 = .ok (.getfield 32, 3) := by decide +kernel
theorem dX6_ridesAfterWorms_41 : decode cX6_ridesAfterWorms 41 = .ok (.invokevirtual 153, 3) := by decide +kernel
theorem dX6_ridesAfterWorms_44 : decode cX6_ridesAfterWorms 44 = .ok (.iinc 4 1, 3) := by decide +kernel
theorem dX6_ridesAfterWorms_47 : decode cX6_ridesAfterWorms 47 = .ok (.goto (-33), 3) := by decide +kernel
theorem dX6_ridesAfterWorms_50 : decode cX6_ridesAfterWorms 50 = .ok (.aload_n 0, 1) := by decide +kernel
theorem dX6_ridesAfterWorms_51 : decode cX6_ridesAfterWorms 51 = .ok (.getfield 32, 3) := by decide +kernel
theorem dX6_ridesAfterWorms_54 : decode cX6_ridesAfterWorms 54 = .ok (.iload_n 1, 1) := by decide +kernel
theorem dX6_ridesAfterWorms_55 : decode cX6_ridesAfterWorms 55 = .ok (.invokevirtual 156, 3) := by decide +kernel
theorem dX6_ridesAfterWorms_58 : decode cX6_ridesAfterWorms 58 = .ok (.ireturn, 1) := by decide +kernel
theorem dX6_fraction_0 : decode cX6_fraction 0 = .ok (.iconst 1, 1) := by decide +kernel
theorem dX6_fraction_1 : decode cX6_fraction 1 = .ok (.iload_n 0, 1) := by decide +kernel
theorem dX6_fraction_2 : decode cX6_fraction 2 = .ok (.invokestatic 290, 3) := by decide +kernel
theorem dX6_fraction_5 : decode cX6_fraction 5 = .ok (.iload_n 1, 1) := by decide +kernel
theorem dX6_fraction_6 : decode cX6_fraction 6 = .ok (.invokestatic 295, 3) := by decide +kernel
theorem dX6_fraction_9 : decode cX6_fraction 9 = .ok (.invokestatic 299, 3) := by decide +kernel
theorem dX6_fraction_12 : decode cX6_fraction 12 = .ok (.istore_n 3, 1) := by decide +kernel
theorem dX6_fraction_13 : decode cX6_fraction 13 = .ok (.iload_n 2, 1) := by decide +kernel
theorem dX6_fraction_14 : decode cX6_fraction 14 = .ok (.ifCond .eq 7, 3) := by decide +kernel
theorem dX6_fraction_17 : decode cX6_fraction 17 = .ok (.iload_n 0, 1) := by decide +kernel
theorem dX6_fraction_18 : decode cX6_fraction 18 = .ok (.goto 4, 3) := by decide +kernel
theorem dX6_fraction_21 : decode cX6_fraction 21 = .ok (.iload_n 1, 1) := by decide +kernel
theorem dX6_fraction_22 : decode cX6_fraction 22 = .ok (.iload_n 3, 1) := by decide +kernel
theorem dX6_fraction_23 : decode cX6_fraction 23 = .ok (.idiv, 1) := by decide +kernel
theorem dX6_fraction_24 : decode cX6_fraction 24 = .ok (.ireturn, 1) := by decide +kernel
theorem dX6_commonDivisor_0 : decode cX6_commonDivisor 0 = .ok (.iload_n 0, 1) := by decide +kernel
theorem dX6_commonDivisor_1 : decode cX6_commonDivisor 1 = .ok (.istore_n 2, 1) := by decide +kernel
theorem dX6_commonDivisor_2 : decode cX6_commonDivisor 2 = .ok (.iload_n 1, 1) := by decide +kernel
theorem dX6_commonDivisor_3 : decode cX6_commonDivisor 3 = .ok (.istore_n 3, 1) := by decide +kernel
theorem dX6_commonDivisor_4 : decode cX6_commonDivisor 4 = .ok (.iconst 0, 1) := by decide +kernel
theorem dX6_commonDivisor_5 : decode cX6_commonDivisor 5 = .ok (.istore 4, 2) := by decide +kernel
theorem dX6_commonDivisor_7 : decode cX6_commonDivisor 7 = .ok (.iload 4, 2) := by decide +kernel
theorem dX6_commonDivisor_9 : decode cX6_commonDivisor 9 = .ok (.bipush 64, 2) := by decide +kernel
theorem dX6_commonDivisor_11 : decode cX6_commonDivisor 11 = .ok (.if_icmp .ge 23, 3) := by decide +kernel
theorem dX6_commonDivisor_14 : decode cX6_commonDivisor 14 = .ok (.iload_n 3, 1) := by decide +kernel
theorem dX6_commonDivisor_15 : decode cX6_commonDivisor 15 = .ok (.ifCond .eq 19, 3) := by decide +kernel
theorem dX6_commonDivisor_18 : decode cX6_commonDivisor 18 = .ok (.iload_n 2, 1) := by decide +kernel
theorem dX6_commonDivisor_19 : decode cX6_commonDivisor 19 = .ok (.iload_n 3, 1) := by decide +kernel
theorem dX6_commonDivisor_20 : decode cX6_commonDivisor 20 = .ok (.irem, 1) := by decide +kernel
theorem dX6_commonDivisor_21 : decode cX6_commonDivisor 21 = .ok (.istore 5, 2) := by decide +kernel
theorem dX6_commonDivisor_23 : decode cX6_commonDivisor 23 = .ok (.iload_n 3, 1) := by decide +kernel
theorem dX6_commonDivisor_24 : decode cX6_commonDivisor 24 = .ok (.istore_n 2, 1) := by decide +kernel
theorem dX6_commonDivisor_25 : decode cX6_commonDivisor 25 = .ok (.iload 5, 2) := by decide +kernel
theorem dX6_commonDivisor_27 : decode cX6_commonDivisor 27 = .ok (.istore_n 3, 1) := by decide +kernel
theorem dX6_commonDivisor_28 : decode cX6_commonDivisor 28 = .ok (.iinc 4 1, 3) := by decide +kernel
theorem dX6_commonDivisor_31 : decode cX6_commonDivisor 31 = .ok (.goto (-24), 3) := by decide +kernel
theorem dX6_commonDivisor_34 : decode cX6_commonDivisor 34 = .ok (.iload_n 2, 1) := by decide +kernel
theorem dX6_commonDivisor_35 : decode cX6_commonDivisor 35 = .ok (.ireturn, 1) := by decide +kernel
