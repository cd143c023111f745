theorem dX2_init_0 : decode cX2_init 0 = .ok (.aload_n 0, 1) := by decide +kernel
theorem dX2_init_1 : decode cX2_init 1 = .ok (.invokespecial 3, 3) := by decide +kernel
theorem dX2_init_4 : decode cX2_init 4 = .ok (.aload_n 0, 1) := by decide +kernel
theorem dX2_init_5 : decode cX2_init 5 = .ok (.iconst 0, 1) := by decide +kernel
theorem dX2_init_6 : decode cX2_init 6 = .ok (.putfield 9, 3) := by decide +kernel
theorem dX2_init_9 : decode cX2_init 9 = .ok (.aload_n 0, 1) := by decide +kernel
theorem dX2_init_10 : decode cX2_init 10 = .ok (.iconst 0, 1) := by decide +kernel
theorem dX2_init_11 : decode cX2_init 11 = .ok (.putfield 15, 3) := by decide +kernel
theorem dX2_init_14 : decode cX2_init 14 = .ok (.aload_n 0, 1) := by decide +kernel
theorem dX2_init_15 : decode cX2_init 15 = .ok (.bipush (-9), 2) := by decide +kernel
theorem dX2_init_17 : decode cX2_init 17 = .ok (.putfield 18, 3) := by decide +kernel
theorem dX2_init_20 : decode cX2_init 20 = .ok (.aload_n 0, 1) := by decide +kernel
theorem dX2_init_21 : decode cX2_init 21 = .ok (.iconst 0, 1) := by decide +kernel
theorem dX2_init_22 : decode cX2_init 22 = .ok (.putfield 21, 3) := by decide +kernel
theorem dX2_init_25 : decode cX2_init 25 = .ok (.aload_n 0, 1) := by decide +kernel
theorem dX2_init_26 : decode cX2_init 26 = .ok (.iconst 1, 1) := by decide +kernel
theorem dX2_init_27 : decode cX2_init 27 = .ok (.putfield 24, 3) := by decide +kernel
theorem dX2_init_30 : decode cX2_init 30 = .ok (.aload_n 0, 1) := by decide +kernel
theorem dX2_init_31 : decode cX2_init 31 = .ok (.iconst 1, 1) := by decide +kernel
theorem dX2_init_32 : decode cX2_init 32 = .ok (.putfield 27, 3) := by decide +kernel
theorem dX2_init_35 : decode cX2_init 35 = .ok (.aload_n 0, 1) := by decide +kernel
theorem dX2_init_36 : decode cX2_init 36 = .ok (.iconst 0, 1) := by decide +kernel
theorem dX2_init_37 : decode cX2_init 37 = .ok (.putfield 30, 3) := by decide +kernel
theorem dX2_init_40 : decode cX2_init 40 = .ok (.aload_n 0, 1) := by decide +kernel
theorem dX2_init_41 : decode cX2_init 41 = .ok (.iconst 5, 1) := by decide +kernel
theorem dX2_init_42 : decode cX2_init 42 = .ok (.newarray .int, 2) := by decide +kernel
theorem dX2_init_44 : decode cX2_init 44 = .ok (.putfield 33, 3) := by decide +kernel
theorem dX2_init_47 : decode cX2_init 47 = .ok (.aload_n 0, 1) := by decide +kernel
theorem dX2_init_48 : decode cX2_init 48 = .ok (.iconst 5, 1) := by decide +kernel
theorem dX2_init_49 : decode cX2_init 49 = .ok (.newarray .int, 2) := by decide +kernel
theorem dX2_init_51 : decode cX2_init 51 = .ok (.putfield 37, 3) := by decide +kernel
theorem dX2_init_54 : decode cX2_init 54 = .ok (.aload_n 0, 1) := by decide +kernel
theorem dX2_init_55 : decode cX2_init 55 = .ok (.iconst 5, 1) := by decide +kernel
theorem dX2_init_56 : decode cX2_init 56 = .ok (.newarray .int, 2) := by decide +kernel
theorem dX2_init_58 : decode cX2_init 58 = .ok (.putfield 40, 3) := by decide +kernel
theorem dX2_init_61 : decode cX2_init 61 = .ok (.aload_n 0, 1) := by decide +kernel
theorem dX2_init_62 : decode cX2_init 62 = .ok (.iconst 5, 1) := by decide +kernel
theorem dX2_init_63 : decode cX2_init 63 = .ok (.newarray .int, 2) := by decide +kernel
theorem dX2_init_65 : decode cX2_init 65 = .ok (.putfield 43, 3) := by decide +kernel
theorem dX2_init_68 : decode cX2_init 68 = .ok (.aload_n 0, 1) := by decide +kernel
theorem dX2_init_69 : decode cX2_init 69 = .ok (.iconst 5, 1) := by decide +kernel
theorem dX2_init_70 : decode cX2_init 70 = .ok (.newarray .int, 2) := by decide +kernel
theorem dX2_init_72 : decode cX2_init 72 = .ok (.putfield 46, 3) := by decide +kernel
theorem dX2_init_75 : decode cX2_init 75 = .ok (.aload_n 0, 1) := by decide +kernel
theorem dX2_init_76 : decode cX2_init 76 = .ok (.iconst 5, 1) := by decide +kernel
theorem dX2_init_77 : decode cX2_init 77 = .ok (.newarray .int, 2) := by decide +kernel
theorem dX2_init_79 : decode cX2_init 79 = .ok (.putfield 49, 3) := by decide +kernel
theorem dX2_init_82 : decode cX2_init 82 = .ok (.aload_n 0, 1) := by decide +kernel
theorem dX2_init_83 : decode cX2_init 83 = .ok (.aload_n 1, 1) := by decide +kernel
theorem dX2_init_84 : decode cX2_init 84 = .ok (.putfield 52, 3) := by decide +kernel
theorem dX2_init_87 : decode cX2_init 87 = .ok (.return_, 1) := by decide +kernel
theorem dX2_startFrom_0 : decode cX2_startFrom 0 = .ok (.aload_n 0, 1) := by decide +kernel
theorem dX2_startFrom_1 : decode cX2_startFrom 1 = .ok (.iconst 1, 1) := by decide +kernel
theorem dX2_startFrom_2 : decode cX2_startFrom 2 = .ok (.aload_n 1, 1) := by decide +kernel
theorem dX2_startFrom_3 : decode cX2_startFrom 3 = .ok (.invokevirtual 56, 3) := by decide +kernel
theorem dX2_startFrom_6 : decode cX2_startFrom 6 = .ok (.ishl, 1) := by decide +kernel
theorem dX2_startFrom_7 : decode cX2_startFrom 7 = .ok (.iconst 1, 1) := by decide +kernel
theorem dX2_startFrom_8 : decode cX2_startFrom 8 = .ok (.isub, 1) := by decide +kernel
theorem dX2_startFrom_9 : decode cX2_startFrom 9 = .ok (.putfield 9, 3) := by decide +kernel
theorem dX2_startFrom_12 : decode cX2_startFrom 12 = .ok (.aload_n 0, 1) := by decide +kernel
theorem dX2_startFrom_13 : decode cX2_startFrom 13 = .ok (.iconst 0, 1) := by decide +kernel
theorem dX2_startFrom_14 : decode cX2_startFrom 14 = .ok (.putfield 15, 3) := by decide +kernel
theorem dX2_startFrom_17 : decode cX2_startFrom 17 = .ok (.aload_n 0, 1) := by decide +kernel
theorem dX2_startFrom_18 : decode cX2_startFrom 18 = .ok (.bipush (-9), 2) := by decide +kernel
theorem dX2_startFrom_20 : decode cX2_startFrom 20 = .ok (.putfield 18, 3) := by decide +kernel
theorem dX2_startFrom_23 : decode cX2_startFrom 23 = .ok (.aload_n 0, 1) := by decide +kernel
theorem dX2_startFrom_24 : decode cX2_startFrom 24 = .ok (.aload_n 1, 1) := by decide +kernel
theorem dX2_startFrom_25 : decode cX2_startFrom 25 = .ok (.iconst 1, 1) := by decide +kernel
theorem dX2_startFrom_26 : decode cX2_startFrom 26 = .ok (.invokevirtual 62, 3) := by decide +kernel
theorem dX2_startFrom_29 : decode cX2_startFrom 29 = .ok (.putfield 21, 3) := by decide +kernel
theorem dX2_startFrom_32 : decode cX2_startFrom 32 = .ok (.aload_n 0, 1) := by decide +kernel
theorem dX2_startFrom_33 : decode cX2_startFrom 33 = .ok (.aload_n 1, 1) := by decide +kernel
theorem dX2_startFrom_34 : decode cX2_startFrom 34 = .ok (.iconst 2, 1) := by decide +kernel
theorem dX2_startFrom_35 : decode cX2_startFrom 35 = .ok (.invokevirtual 62, 3) := by decide +kernel
theorem dX2_startFrom_38 : decode cX2_startFrom 38 = .ok (.putfield 24, 3) := by decide +kernel
theorem dX2_startFrom_41 : decode cX2_startFrom 41 = .ok (.aload_n 0, 1) := by decide +kernel
theorem dX2_startFrom_42 : decode cX2_startFrom 42 = .ok (.aload_n 1, 1) := by decide +kernel
theorem dX2_startFrom_43 : decode cX2_startFrom 43 = .ok (.iconst 3, 1) := by decide +kernel
theorem dX2_startFrom_44 : decode cX2_startFrom 44 = .ok (.invokevirtual 62, 3) := by decide +kernel
theorem dX2_startFrom_47 : decode cX2_startFrom 47 = .ok (.putfield 27, 3) := by decide +kernel
theorem dX2_startFrom_50 : decode cX2_startFrom 50 = .ok (.aload_n 0, 1) := by decide +kernel
theorem dX2_startFrom_51 : decode cX2_startFrom 51 = .ok (.iconst 0, 1) := by decide +kernel
theorem dX2_startFrom_52 : decode cX2_startFrom 52 = .ok (.putfield 30, 3) := by decide +kernel
theorem dX2_startFrom_55 : decode cX2_startFrom 55 = .ok (.iconst 0, 1) := by decide +kernel
theorem dX2_startFrom_56 : decode cX2_startFrom 56 = .ok (.istore_n 2, 1) := by decide +kernel
theorem dX2_startFrom_57 : decode cX2_startFrom 57 = .ok (.iload_n 2, 1) := by decide +kernel
theorem dX2_startFrom_58 : decode cX2_startFrom 58 = .ok (.iconst 5, 1) := by decide +kernel
theorem dX2_startFrom_59 : decode cX2_startFrom 59 = .ok (.if_icmp .ge 56, 3) := by decide +kernel
theorem dX2_startFrom_62 : decode cX2_startFrom 62 = .ok (.aload_n 0, 1) := by decide +kernel
theorem dX2_startFrom_63 : decode cX2_startFrom 63 = .ok (.getfield 33, 3) := by decide +kernel
theorem dX2_startFrom_66 : decode cX2_startFrom 66 = .ok (.iload_n 2, 1) := by decide +kernel
theorem dX2_startFrom_67 : decode cX2_startFrom 67 = .ok (.aload_n 1, 1) := by decide +kernel
theorem dX2_startFrom_68 : decode cX2_startFrom 68 = .ok (.iload_n 2, 1) := by decide +kernel
theorem dX2_startFrom_69 : decode cX2_startFrom 69 = .ok (.iconst 1, 1) := by decide +kernel
theorem dX2_startFrom_70 : decode cX2_startFrom 70 = .ok (.invokevirtual 66, 3) := by decide +kernel
theorem dX2_startFrom_73 : decode cX2_startFrom 73 = .ok (.iastore, 1) := by decide +kernel
theorem dX2_startFrom_74 : decode cX2_startFrom 74 = .ok (.aload_n 0, 1) := by decide +kernel
theorem dX2_startFrom_75 : decode cX2_startFrom 75 = .ok (.getfield 37, 3) := by decide +kernel
theorem dX2_startFrom_78 : decode cX2_startFrom 78 = .ok (.iload_n 2, 1) := by decide +kernel
theorem dX2_startFrom_79 : decode cX2_startFrom 79 = .ok (.iconst 0, 1) := by decide +kernel
theorem dX2_startFrom_80 : decode cX2_startFrom 80 = .ok (.iastore, 1) := by decide +kernel
theorem dX2_startFrom_81 : decode cX2_startFrom 81 = .ok (.aload_n 0, 1) := by decide +kernel
theorem dX2_startFrom_82 : decode cX2_startFrom 82 = .ok (.getfield 40, 3) := by decide +kernel
theorem dX2_startFrom_85 : decode cX2_startFrom 85 = .ok (.iload_n 2, 1) := by decide +kernel
theorem dX2_startFrom_86 : decode cX2_startFrom 86 = .ok (.iconst 0, 1) := by decide +kernel
theorem dX2_startFrom_87 : decode cX2_startFrom 87 = .ok (.iastore, 1) := by decide +kernel
theorem dX2_startFrom_88 : decode cX2_startFrom 88 = .ok (.aload_n 0, 1) := by decide +kernel
theorem dX2_startFrom_89 : decode cX2_startFrom 89 = .ok (.getfield 43, 3) := by decide +kernel
theorem dX2_startFrom_92 : decode cX2_startFrom 92 = .ok (.iload_n 2, 1) := by decide +kernel
theorem dX2_startFrom_93 : decode cX2_startFrom 93 = .ok (.iconst 0, 1) := by decide +kernel
theorem dX2_startFrom_94 : decode cX2_startFrom 94 = .ok (.iastore, 1) := by decide +kernel
theorem dX2_startFrom_95 : decode cX2_startFrom 95 = .ok (.aload_n 0, 1) := by decide +kernel
theorem dX2_startFrom_96 : decode cX2_startFrom 96 = .ok (.getfield 46, 3) := by decide +kernel
theorem dX2_startFrom_99 : decode cX2_startFrom 99 = .ok (.iload_n 2, 1) := by decide +kernel
theorem dX2_startFrom_100 : decode cX2_startFrom 100 = .ok (.iconst 0, 1) := by decide +kernel
theorem dX2_startFrom_101 : decode cX2_startFrom 101 = .ok (.iastore, 1) := by decide +kernel
theorem dX2_startFrom_102 : decode cX2_startFrom 102 = .ok (.aload_n 0, 1) := by decide +kernel
theorem dX2_startFrom_103 : decode cX2_startFrom 103 = .ok (.getfield 49, 3) := by decide +kernel
theorem dX2_startFrom_106 : decode cX2_startFrom 106 = .ok (.iload_n 2, 1) := by decide +kernel
theorem dX2_startFrom_107 : decode cX2_startFrom 107 = .ok (.iconst 0, 1) := by decide +kernel
theorem dX2_startFrom_108 : decode cX2_startFrom 108 = .ok (.iastore, 1) := by decide +kernel
theorem dX2_startFrom_109 : decode cX2_startFrom 109 = .ok (.iinc 2 1, 3) := by decide +kernel
theorem dX2_startFrom_112 : decode cX2_startFrom 112 = .ok (.goto (-55), 3) := by decide +kernel
theorem dX2_startFrom_115 : decode cX2_startFrom 115 = .ok (.return_, 1) := by decide +kernel
theorem dX2_copyFrom_0 : decode cX2_copyFrom 0 = .ok (.aload_n 0, 1) := by decide +kernel
theorem dX2_copyFrom_1 : decode cX2_copyFrom 1 = .ok (.aload_n 1, 1) := by decide +kernel
theorem dX2_copyFrom_2 : decode cX2_copyFrom 2 = .ok (.getfield 9, 3) := by decide +kernel
theorem dX2_copyFrom_5 : decode cX2_copyFrom 5 = .ok (.putfield 9, 3) := by decide +kernel
theorem dX2_copyFrom_8 : decode cX2_copyFrom 8 = .ok (.aload_n 0, 1) := by decide +kernel
theorem dX2_copyFrom_9 : decode cX2_copyFrom 9 = .ok (.aload_n 1, 1) := by decide +kernel
theorem dX2_copyFrom_10 : decode cX2_copyFrom 10 = .ok (.getfield 15, 3) := by decide +kernel
theorem dX2_copyFrom_13 : decode cX2_copyFrom 13 = .ok (.putfield 15, 3) := by decide +kernel
theorem dX2_copyFrom_16 : decode cX2_copyFrom 16 = .ok (.aload_n 0, 1) := by decide +kernel
theorem dX2_copyFrom_17 : decode cX2_copyFrom 17 = .ok (.aload_n 1, 1) := by decide +kernel
theorem dX2_copyFrom_18 : decode cX2_copyFrom 18 = .ok (.getfield 18, 3) := by decide +kernel
theorem dX2_copyFrom_21 : decode cX2_copyFrom 21 = .ok (.putfield 18, 3) := by decide +kernel
theorem dX2_copyFrom_24 : decode cX2_copyFrom 24 = .ok (.aload_n 0, 1) := by decide +kernel
theorem dX2_copyFrom_25 : decode cX2_copyFrom 25 = .ok (.aload_n 1, 1) := by decide +kernel
theorem dX2_copyFrom_26 : decode cX2_copyFrom 26 = .ok (.getfield 21, 3) := by decide +kernel
theorem dX2_copyFrom_29 : decode cX2_copyFrom 29 = .ok (.putfield 21, 3) := by decide +kernel
theorem dX2_copyFrom_32 : decode cX2_copyFrom 32 = .ok (.aload_n 0, 1) := by decide +kernel
theorem dX2_copyFrom_33 : decode cX2_copyFrom 33 = .ok (.aload_n 1, 1) := by decide +kernel
theorem dX2_copyFrom_34 : decode cX2_copyFrom 34 = .ok (.getfield 24, 3) := by decide +kernel
theorem dX2_copyFrom_37 : decode cX2_copyFrom 37 = .ok (.putfield 24, 3) := by decide +kernel
theorem dX2_copyFrom_40 : decode cX2_copyFrom 40 = .ok (.aload_n 0, 1) := by decide +kernel
theorem dX2_copyFrom_41 : decode cX2_copyFrom 41 = .ok (.aload_n 1, 1) := by decide +kernel
theorem dX2_copyFrom_42 : decode cX2_copyFrom 42 = .ok (.getfield 27, 3) := by decide +kernel
theorem dX2_copyFrom_45 : decode cX2_copyFrom 45 = .ok (.putfield 27, 3) := by decide +kernel
theorem dX2_copyFrom_48 : decode cX2_copyFrom 48 = .ok (.aload_n 0, 1) := by decide +kernel
theorem dX2_copyFrom_49 : decode cX2_copyFrom 49 = .ok (.aload_n 1, 1) := by decide +kernel
theorem dX2_copyFrom_50 : decode cX2_copyFrom 50 = .ok (.getfield 30, 3) := by decide +kernel
theorem dX2_copyFrom_53 : decode cX2_copyFrom 53 = .ok (.putfield 30, 3) := by decide +kernel
theorem dX2_copyFrom_56 : decode cX2_copyFrom 56 = .ok (.iconst 0, 1) := by decide +kernel
theorem dX2_copyFrom_57 : decode cX2_copyFrom 57 = .ok (.istore_n 2, 1) := by decide +kernel
theorem dX2_copyFrom_58 : decode cX2_copyFrom 58 = .ok (.iload_n 2, 1) := by decide +kernel
theorem dX2_copyFrom_59 : decode cX2_copyFrom 59 = .ok (.iconst 5, 1) := by decide +kernel
theorem dX2_copyFrom_60 : decode cX2_copyFrom 60 = .ok (.if_icmp .ge 81, 3) := by decide +kernel
theorem dX2_copyFrom_63 : decode cX2_copyFrom 63 = .ok (.aload_n 0, 1) := by decide +kernel
theorem dX2_copyFrom_64 : decode cX2_copyFrom 64 = .ok (.getfield 33, 3) := by decide +kernel
theorem dX2_copyFrom_67 : decode cX2_copyFrom 67 = .ok (.iload_n 2, 1) := by decide +kernel
theorem dX2_copyFrom_68 : decode cX2_copyFrom 68 = .ok (.aload_n 1, 1) := by decide +kernel
theorem dX2_copyFrom_69 : decode cX2_copyFrom 69 = .ok (.getfield 33, 3) := by decide +kernel
theorem dX2_copyFrom_72 : decode cX2_copyFrom 72 = .ok (.iload_n 2, 1) := by decide +kernel
theorem dX2_copyFrom_73 : decode cX2_copyFrom 73 = .ok (.iaload, 1) := by decide +kernel
theorem dX2_copyFrom_74 : decode cX2_copyFrom 74 = .ok (.iastore, 1) := by decide +kernel
theorem dX2_copyFrom_75 : decode cX2_copyFrom 75 = .ok (.aload_n 0, 1) := by decide +kernel
theorem dX2_copyFrom_76 : decode cX2_copyFrom 76 = .ok (.getfield 37, 3) := by decide +kernel
theorem dX2_copyFrom_79 : decode cX2_copyFrom 79 = .ok (.iload_n 2, 1) := by decide +kernel
theorem dX2_copyFrom_80 : decode cX2_copyFrom 80 = .ok (.aload_n 1, 1) := by decide +kernel
theorem dX2_copyFrom_81 : decode cX2_copyFrom 81 = .ok (.getfield 37, 3) := by decide +kernel
theorem dX2_copyFrom_84 : decode cX2_copyFrom 84 = .ok (.iload_n 2, 1) := by decide +kernel
theorem dX2_copyFrom_85 : decode cX2_copyFrom 85 = .ok (.iaload, 1) := by decide +kernel
theorem dX2_copyFrom_86 : decode cX2_copyFrom 86 = .ok (.iastore, 1) := by decide +kernel
theorem dX2_copyFrom_87 : decode cX2_copyFrom 87 = .ok (.aload_n 0, 1) := by decide +kernel
theorem dX2_copyFrom_88 : decode cX2_copyFrom 88 = .ok (.getfield 40, 3) := by decide +kernel
theorem dX2_copyFrom_91 : decode cX2_copyFrom 91 = .ok (.iload_n 2, 1) := by decide +kernel
theorem dX2_copyFrom_92 : decode cX2_copyFrom 92 = .ok (.aload_n 1, 1) := by decide +kernel
theorem dX2_copyFrom_93 : decode cX2_copyFrom 93 = .ok (.getfield 40, 3) := by decide +kernel
theorem dX2_copyFrom_96 : decode cX2_copyFrom 96 = .ok (.iload_n 2, 1) := by decide +kernel
theorem dX2_copyFrom_97 : decode cX2_copyFrom 97 = .ok (.iaload, 1) := by decide +kernel
theorem dX2_copyFrom_98 : decode cX2_copyFrom 98 = .ok (.iastore, 1) := by decide +kernel
theorem dX2_copyFrom_99 : decode cX2_copyFrom 99 = .ok (.aload_n 0, 1) := by decide +kernel
theorem dX2_copyFrom_100 : decode cX2_copyFrom 100 = .ok (.getfield 43, 3) := by decide +kernel
theorem dX2_copyFrom_103 : decode cX2_copyFrom 103 = .ok (.iload_n 2, 1) := by decide +kernel
theorem dX2_copyFrom_104 : decode cX2_copyFrom 104 = .ok (.aload_n 1, 1) := by decide +kernel
theorem dX2_copyFrom_105 : decode cX2_copyFrom 105 = .ok (.getfield 43, 3) := by decide +kernel
theorem dX2_copyFrom_108 : decode cX2_copyFrom 108 = .ok (.iload_n 2, 1) := by decide +kernel
theorem dX2_copyFrom_109 : decode cX2_copyFrom 109 = .ok (.iaload, 1) := by decide +kernel
theorem dX2_copyFrom_110 : decode cX2_copyFrom 110 = .ok (.iastore, 1) := by decide +kernel
theorem dX2_copyFrom_111 : decode cX2_copyFrom 111 = .ok (.aload_n 0, 1) := by decide +kernel
theorem dX2_copyFrom_112 : decode cX2_copyFrom 112 = .ok (.getfield 46, 3) := by decide +kernel
theorem dX2_copyFrom_115 : decode cX2_copyFrom 115 = .ok (.iload_n 2, 1) := by decide +kernel
theorem dX2_copyFrom_116 : decode cX2_copyFrom 116 = .ok (.aload_n 1, 1) := by decide +kernel
theorem dX2_copyFrom_117 : decode cX2_copyFrom 117 = .ok (.getfield 46, 3) := by decide +kernel
theorem dX2_copyFrom_120 : decode cX2_copyFrom 120 = .ok (.iload_n 2, 1) := by decide +kernel
theorem dX2_copyFrom_121 : decode cX2_copyFrom 121 = .ok (.iaload, 1) := by decide +kernel
theorem dX2_copyFrom_122 : decode cX2_copyFrom 122 = .ok (.iastore, 1) := by decide +kernel
theorem dX2_copyFrom_123 : decode cX2_copyFrom 123 = .ok (.aload_n 0, 1) := by decide +kernel
theorem dX2_copyFrom_124 : decode cX2_copyFrom 124 = .ok (.getfield 49, 3) := by decide +kernel
theorem dX2_copyFrom_127 : decode cX2_copyFrom 127 = .ok (.iload_n 2, 1) := by decide +kernel
theorem dX2_copyFrom_128 : decode cX2_copyFrom 128 = .ok (.aload_n 1, 1) := by decide +kernel
theorem dX2_copyFrom_129 : decode cX2_copyFrom 129 = .ok (.getfield 49, 3) := by decide +kernel
theorem dX2_copyFrom_132 : decode cX2_copyFrom 132 = .ok (.iload_n 2, 1) := by decide +kernel
theorem dX2_copyFrom_133 : decode cX2_copyFrom 133 = .ok (.iaload, 1) := by decide +kernel
theorem dX2_copyFrom_134 : decode cX2_copyFrom 134 = .ok (.iastore, 1) := by decide +kernel
theorem dX2_copyFrom_135 : decode cX2_copyFrom 135 = .ok (.iinc 2 1, 3) := by decide +kernel
theorem dX2_copyFrom_138 : decode cX2_copyFrom 138 = .ok (.goto (-80), 3) := by decide +kernel
theorem dX2_copyFrom_141 : decode cX2_copyFrom 141 = .ok (.return_, 1) := by decide +kernel
theorem dX2_isThere_0 : decode cX2_isThere 0 = .ok (.iload_n 1, 1) := by decide +kernel
theorem dX2_isThere_1 : decode cX2_isThere 1 = .ok (.ifCond .lt 23, 3) := by decide +kernel
theorem dX2_isThere_4 : decode cX2_isThere 4 = .ok (.iload_n 1, 1) := by decide +kernel
theorem dX2_isThere_5 : decode cX2_isThere 5 = .ok (.iconst 5, 1) := by decide +kernel
theorem dX2_isThere_6 : decode cX2_isThere 6 = .ok (.if_icmp .ge 18, 3) := by decide +kernel
theorem dX2_isThere_9 : decode cX2_isThere 9 = .ok (.aload_n 0, 1) := by decide +kernel
theorem dX2_isThere_10 : decode cX2_isThere 10 = .ok (.getfield 9, 3) := by decide +kernel
theorem dX2_isThere_13 : decode cX2_isThere 13 = .ok (.iload_n 1, 1) := by decide +kernel
theorem dX2_isThere_14 : decode cX2_isThere 14 = .ok (.invokestatic 70, 3) := by decide +kernel
theorem dX2_isThere_17 : decode cX2_isThere 17 = .ok (.ifCond .eq 7, 3) := by decide +kernel
theorem dX2_isThere_20 : decode cX2_isThere 20 = .ok (.iconst 1, 1) := by decide +kernel
theorem dX2_isThere_21 : decode cX2_isThere 21 = .ok (.goto 4, 3) := by decide +kernel
theorem dX2_isThere_24 : decode cX2_isThere 24 = .ok (.iconst 0, 1) := by decide +kernel
theorem dX2_isThere_25 : decode cX2_isThere 25 = .ok (.ireturn, 1) := by decide +kernel
theorem dX2_rides_0 : decode cX2_rides 0 = .ok (.aload_n 0, 1) := by decide +kernel
theorem dX2_rides_1 : decode cX2_rides 1 = .ok (.getfield 15, 3) := by decide +kernel
theorem dX2_rides_4 : decode cX2_rides 4 = .ok (.iload_n 1, 1) := by decide +kernel
theorem dX2_rides_5 : decode cX2_rides 5 = .ok (.invokestatic 70, 3) := by decide +kernel
theorem dX2_rides_8 : decode cX2_rides 8 = .ok (.ireturn, 1) := by decide +kernel
theorem dX2_wanting_0 : decode cX2_wanting 0 = .ok (.iconst 0, 1) := by decide +kernel
theorem dX2_wanting_1 : decode cX2_wanting 1 = .ok (.istore_n 1, 1) := by decide +kernel
theorem dX2_wanting_2 : decode cX2_wanting 2 = .ok (.iconst 0, 1) := by decide +kernel
theorem dX2_wanting_3 : decode cX2_wanting 3 = .ok (.istore_n 2, 1) := by decide +kernel
theorem dX2_wanting_4 : decode cX2_wanting 4 = .ok (.iload_n 2, 1) := by decide +kernel
theorem dX2_wanting_5 : decode cX2_wanting 5 = .ok (.iconst 5, 1) := by decide +kernel
theorem dX2_wanting_6 : decode cX2_wanting 6 = .ok (.if_icmp .ge 25, 3) := by decide +kernel
theorem dX2_wanting_9 : decode cX2_wanting 9 = .ok (.aload_n 0, 1) := by decide +kernel
theorem dX2_wanting_10 : decode cX2_wanting 10 = .ok (.getfield 33, 3) := by decide +kernel
theorem dX2_wanting_13 : decode cX2_wanting 13 = .ok (.iload_n 2, 1) := by decide +kernel
theorem dX2_wanting_14 : decode cX2_wanting 14 = .ok (.iaload, 1) := by decide +kernel
theorem dX2_wanting_15 : decode cX2_wanting 15 = .ok (.iconst 5, 1) := by decide +kernel
theorem dX2_wanting_16 : decode cX2_wanting 16 = .ok (.if_icmp .lt 9, 3) := by decide +kernel
theorem dX2_wanting_19 : decode cX2_wanting 19 = .ok (.iload_n 1, 1) := by decide +kernel
theorem dX2_wanting_20 : decode cX2_wanting 20 = .ok (.iconst 1, 1) := by decide +kernel
theorem dX2_wanting_21 : decode cX2_wanting 21 = .ok (.iload_n 2, 1) := by decide +kernel
theorem dX2_wanting_22 : decode cX2_wanting 22 = .ok (.ishl, 1) := by decide +kernel
theorem dX2_wanting_23 : decode cX2_wanting 23 = .ok (.ior, 1) := by decide +kernel
theorem dX2_wanting_24 : decode cX2_wanting 24 = .ok (.istore_n 1, 1) := by decide +kernel
theorem dX2_wanting_25 : decode cX2_wanting 25 = .ok (.iinc 2 1, 3) := by decide +kernel
theorem dX2_wanting_28 : decode cX2_wanting 28 = .ok (.goto (-24), 3) := by decide +kernel
theorem dX2_wanting_31 : decode cX2_wanting 31 = .ok (.iload_n 1, 1) := by decide +kernel
theorem dX2_wanting_32 : decode cX2_wanting 32 = .ok (.aload_n 0, 1) := by decide +kernel
theorem dX2_wanting_33 : decode cX2_wanting 33 = .ok (.getfield 9, 3) := by decide +kernel
theorem dX2_wanting_36 : decode cX2_wanting 36 = .ok (.iand, 1) := by decide +kernel
theorem dX2_wanting_37 : decode cX2_wanting 37 = .ok (.aload_n 0, 1) := by decide +kernel
theorem dX2_wanting_38 : decode cX2_wanting 38 = .ok (.getfield 15, 3) := by decide +kernel
theorem dX2_wanting_41 : decode cX2_wanting 41 = .ok (.iconst (-1), 1) := by decide +kernel
theorem dX2_wanting_42 : decode cX2_wanting 42 = .ok (.ixor, 1) := by decide +kernel
theorem dX2_wanting_43 : decode cX2_wanting 43 = .ok (.iand, 1) := by decide +kernel
theorem dX2_wanting_44 : decode cX2_wanting 44 = .ok (.ireturn, 1) := by decide +kernel
theorem dX2_asking_0 : decode cX2_asking 0 = .ok (.aload_n 0, 1) := by decide +kernel
theorem dX2_asking_1 : decode cX2_asking 1 = .ok (.invokevirtual 74, 3) := by decide +kernel
theorem dX2_asking_4 : decode cX2_asking 4 = .ok (.istore_n 1, 1) := by decide +kernel
theorem dX2_asking_5 : decode cX2_asking 5 = .ok (.iconst 0, 1) := by decide +kernel
theorem dX2_asking_6 : decode cX2_asking 6 = .ok (.istore_n 2, 1) := by decide +kernel
theorem dX2_asking_7 : decode cX2_asking 7 = .ok (.iload_n 2, 1) := by decide +kernel
theorem dX2_asking_8 : decode cX2_asking 8 = .ok (.iconst 5, 1) := by decide +kernel
theorem dX2_asking_9 : decode cX2_asking 9 = .ok (.if_icmp .ge 38, 3) := by decide +kernel
theorem dX2_asking_12 : decode cX2_asking 12 = .ok (.aload_n 0, 1) := by decide +kernel
theorem dX2_asking_13 : decode cX2_asking 13 = .ok (.getfield 21, 3) := by decide +kernel
theorem dX2_asking_16 : decode cX2_asking 16 = .ok (.iconst 3, 1) := by decide +kernel
theorem dX2_asking_17 : decode cX2_asking 17 = .ok (.if_icmp .eq 24, 3) := by decide +kernel
theorem dX2_asking_20 : decode cX2_asking 20 = .ok (.aload_n 0, 1) := by decide +kernel
theorem dX2_asking_21 : decode cX2_asking 21 = .ok (.getfield 52, 3) := by decide +kernel
theorem dX2_asking_24 : decode cX2_asking 24 = .ok (.getfield 77, 3) := by decide +kernel
theorem dX2_asking_27 : decode cX2_asking 27 = .ok (.iload_n 2, 1) := by decide +kernel
theorem dX2_asking_28 : decode cX2_asking 28 = .ok (.iaload, 1) := by decide +kernel
theorem dX2_asking_29 : decode cX2_asking 29 = .ok (.iconst 2, 1) := by decide +kernel
theorem dX2_asking_30 : decode cX2_asking 30 = .ok (.if_icmp .ne 11, 3) := by decide +kernel
theorem dX2_asking_33 : decode cX2_asking 33 = .ok (.iload_n 1, 1) := by decide +kernel
theorem dX2_asking_34 : decode cX2_asking 34 = .ok (.iconst 1, 1) := by decide +kernel
theorem dX2_asking_35 : decode cX2_asking 35 = .ok (.iload_n 2, 1) := by decide +kernel
theorem dX2_asking_36 : decode cX2_asking 36 = .ok (.ishl, 1) := by decide +kernel
theorem dX2_asking_37 : decode cX2_asking 37 = .ok (.iconst (-1), 1) := by decide +kernel
theorem dX2_asking_38 : decode cX2_asking 38 = .ok (.ixor, 1) := by decide +kernel
theorem dX2_asking_39 : decode cX2_asking 39 = .ok (.iand, 1) := by decide +kernel
theorem dX2_asking_40 : decode cX2_asking 40 = .ok (.istore_n 1, 1) := by decide +kernel
theorem dX2_asking_41 : decode cX2_asking 41 = .ok (.iinc 2 1, 3) := by decide +kernel
theorem dX2_asking_44 : decode cX2_asking 44 = .ok (.goto (-37), 3) := by decide +kernel
theorem dX2_asking_47 : decode cX2_asking 47 = .ok (.iload_n 1, 1) := by decide +kernel
theorem dX2_asking_48 : decode cX2_asking 48 = .ok (.ireturn, 1) := by decide +kernel
theorem dX2_next_0 : decode cX2_next 0 = .ok (.aload_n 0, 1) := by decide +kernel
theorem dX2_next_1 : decode cX2_next 1 = .ok (.invokevirtual 82, 3) := by decide +kernel
theorem dX2_next_4 : decode cX2_next 4 = .ok (.istore_n 1, 1) := by decide +kernel
theorem dX2_next_5 : decode cX2_next 5 = .ok (.aload_n 0, 1) := by decide +kernel
theorem dX2_next_6 : decode cX2_next 6 = .ok (.getfield 21, 3) := by decide +kernel
theorem dX2_next_9 : decode cX2_next 9 = .ok (.iconst 3, 1) := by decide +kernel
theorem dX2_next_10 : decode cX2_next 10 = .ok (.if_icmp .ne 21, 3) := by decide +kernel
theorem dX2_next_13 : decode cX2_next 13 = .ok (.aload_n 0, 1) := by decide +kernel
theorem dX2_next_14 : decode cX2_next 14 = .ok (.getfield 18, 3) := by decide +kernel
theorem dX2_next_17 : decode cX2_next 17 = .ok (.bipush (-9), 2) := by decide +kernel
theorem dX2_next_19 : decode cX2_next 19 = .ok (.if_icmp .eq 12, 3) := by decide +kernel
theorem dX2_next_22 : decode cX2_next 22 = .ok (.aload_n 0, 1) := by decide +kernel
theorem dX2_next_23 : decode cX2_next 23 = .ok (.getfield 18, 3) := by decide +kernel
theorem dX2_next_26 : decode cX2_next 26 = .ok (.iconst 1, 1) := by decide +kernel
theorem dX2_next_27 : decode cX2_next 27 = .ok (.iadd, 1) := by decide +kernel
theorem dX2_next_28 : decode cX2_next 28 = .ok (.goto 4, 3) := by decide +kernel
theorem dX2_next_31 : decode cX2_next 31 = .ok (.iconst 0, 1) := by decide +kernel
theorem dX2_next_32 : decode cX2_next 32 = .ok (.istore_n 2, 1) := by decide +kernel
theorem dX2_next_33 : decode cX2_next 33 = .ok (.bipush (-9), 2) := by decide +kernel
theorem dX2_next_35 : decode cX2_next 35 = .ok (.istore_n 3, 1) := by decide +kernel
theorem dX2_next_36 : decode cX2_next 36 = .ok (.iconst 0, 1) := by decide +kernel
theorem dX2_next_37 : decode cX2_next 37 = .ok (.istore 4, 2) := by decide +kernel
theorem dX2_next_39 : decode cX2_next 39 = .ok (.iload 4, 2) := by decide +kernel
theorem dX2_next_41 : decode cX2_next 41 = .ok (.iconst 5, 1) := by decide +kernel
theorem dX2_next_42 : decode cX2_next 42 = .ok (.if_icmp .ge 45, 3) := by decide +kernel
theorem dX2_next_45 : decode cX2_next 45 = .ok (.iload_n 2, 1) := by decide +kernel
theorem dX2_next_46 : decode cX2_next 46 = .ok (.iload 4, 2) := by decide +kernel
theorem dX2_next_48 : decode cX2_next 48 = .ok (.iadd, 1) := by decide +kernel
theorem dX2_next_49 : decode cX2_next 49 = .ok (.iconst 5, 1) := by decide +kernel
theorem dX2_next_50 : decode cX2_next 50 = .ok (.irem, 1) := by decide +kernel
theorem dX2_next_51 : decode cX2_next 51 = .ok (.istore 5, 2) := by decide +kernel
theorem dX2_next_53 : decode cX2_next 53 = .ok (.iload_n 1, 1) := by decide +kernel
theorem dX2_next_54 : decode cX2_next 54 = .ok (.iload 5, 2) := by decide +kernel
theorem dX2_next_56 : decode cX2_next 56 = .ok (.invokestatic 70, 3) := by decide +kernel
theorem dX2_next_59 : decode cX2_next 59 = .ok (.ifCond .eq 22, 3) := by decide +kernel
theorem dX2_next_62 : decode cX2_next 62 = .ok (.iload_n 3, 1) := by decide +kernel
theorem dX2_next_63 : decode cX2_next 63 = .ok (.bipush (-9), 2) := by decide +kernel
theorem dX2_next_65 : decode cX2_next 65 = .ok (.if_icmp .eq 13, 3) := by decide +kernel
theorem dX2_next_68 : decode cX2_next 68 = .ok (.aload_n 0, 1) := by decide +kernel
theorem dX2_next_69 : decode cX2_next 69 = .ok (.iload 5, 2) := by decide +kernel
theorem dX2_next_71 : decode cX2_next 71 = .ok (.iload_n 3, 1) := by decide +kernel
theorem dX2_next_72 : decode cX2_next 72 = .ok (.invokevirtual 85, 3) := by decide +kernel
theorem dX2_next_75 : decode cX2_next 75 = .ok (.ifCond .eq 6, 3) := by decide +kernel
theorem dX2_next_78 : decode cX2_next 78 = .ok (.iload 5, 2) := by decide +kernel
theorem dX2_next_80 : decode cX2_next 80 = .ok (.istore_n 3, 1) := by decide +kernel
theorem dX2_next_81 : decode cX2_next 81 = .ok (.iinc 4 1, 3) := by decide +kernel
theorem dX2_next_84 : decode cX2_next 84 = .ok (.goto (-45), 3) := by decide +kernel
theorem dX2_next_87 : decode cX2_next 87 = .ok (.iload_n 3, 1) := by decide +kernel
theorem dX2_next_88 : decode cX2_next 88 = .ok (.ireturn, 1) := by decide +kernel
theorem dX2_comesAhead_0 : decode cX2_comesAhead 0 = .ok (.aload_n 0, 1) := by decide +kernel
theorem dX2_comesAhead_1 : decode cX2_comesAhead 1 = .ok (.getfield 21, 3) := by decide +kernel
theorem dX2_comesAhead_4 : decode cX2_comesAhead 4 = .ok (.tableswitch 95 0 2 #[28, 53, 74], 28) := by decide +kernel
theorem dX2_comesAhead_32 : decode cX2_comesAhead 32 = .ok (.aload_n 0, 1) := by decide +kernel
theorem dX2_comesAhead_33 : decode cX2_comesAhead 33 = .ok (.getfield 52, 3) := by decide +kernel
theorem dX2_comesAhead_36 : decode cX2_comesAhead 36 = .ok (.iload_n 1, 1) := by decide +kernel
theorem dX2_comesAhead_37 : decode cX2_comesAhead 37 = .ok (.invokevirtual 88, 3) := by decide +kernel
theorem dX2_comesAhead_40 : decode cX2_comesAhead 40 = .ok (.aload_n 0, 1) := by decide +kernel
theorem dX2_comesAhead_41 : decode cX2_comesAhead 41 = .ok (.getfield 52, 3) := by decide +kernel
theorem dX2_comesAhead_44 : decode cX2_comesAhead 44 = .ok (.iload_n 2, 1) := by decide +kernel
theorem dX2_comesAhead_45 : decode cX2_comesAhead 45 = .ok (.invokevirtual 88, 3) := by decide +kernel
theorem dX2_comesAhead_48 : decode cX2_comesAhead 48 = .ok (.if_icmp .le 7, 3) := by decide +kernel
theorem dX2_comesAhead_51 : decode cX2_comesAhead 51 = .ok (.iconst 1, 1) := by decide +kernel
theorem dX2_comesAhead_52 : decode cX2_comesAhead 52 = .ok (.goto 4, 3) := by decide +kernel
theorem dX2_comesAhead_55 : decode cX2_comesAhead 55 = .ok (.iconst 0, 1) := by decide +kernel
theorem dX2_comesAhead_56 : decode cX2_comesAhead 56 = .ok (.ireturn, 1) := by decide +kernel
theorem dX2_comesAhead_57 : decode cX2_comesAhead 57 = .ok (.aload_n 0, 1) := by decide +kernel
theorem dX2_comesAhead_58 : decode cX2_comesAhead 58 = .ok (.getfield 40, 3) := by decide +kernel
theorem dX2_comesAhead_61 : decode cX2_comesAhead 61 = .ok (.iload_n 1, 1) := by decide +kernel
theorem dX2_comesAhead_62 : decode cX2_comesAhead 62 = .ok (.iaload, 1) := by decide +kernel
theorem dX2_comesAhead_63 : decode cX2_comesAhead 63 = .ok (.aload_n 0, 1) := by decide +kernel
theorem dX2_comesAhead_64 : decode cX2_comesAhead 64 = .ok (.getfield 40, 3) := by decide +kernel
theorem dX2_comesAhead_67 : decode cX2_comesAhead 67 = .ok (.iload_n 2, 1) := by decide +kernel
theorem dX2_comesAhead_68 : decode cX2_comesAhead 68 = .ok (.iaload, 1) := by decide +kernel
theorem dX2_comesAhead_69 : decode cX2_comesAhead 69 = .ok (.if_icmp .ge 7, 3) := by decide +kernel
theorem dX2_comesAhead_72 : decode cX2_comesAhead 72 = .ok (.iconst 1, 1) := by decide +kernel
theorem dX2_comesAhead_73 : decode cX2_comesAhead 73 = .ok (.goto 4, 3) := by decide +kernel
theorem dX2_comesAhead_76 : decode cX2_comesAhead 76 = .ok (.iconst 0, 1) := by decide +kernel
theorem dX2_comesAhead_77 : decode cX2_comesAhead 77 = .ok (.ireturn, 1) := by decide +kernel
theorem dX2_comesAhead_78 : decode cX2_comesAhead 78 = .ok (.aload_n 0, 1) := by decide +kernel
theorem dX2_comesAhead_79 : decode cX2_comesAhead 79 = .ok (.getfield 46, 3) := by decide +kernel
theorem dX2_comesAhead_82 : decode cX2_comesAhead 82 = .ok (.iload_n 1, 1) := by decide +kernel
theorem dX2_comesAhead_83 : decode cX2_comesAhead 83 = .ok (.iaload, 1) := by decide +kernel
theorem dX2_comesAhead_84 : decode cX2_comesAhead 84 = .ok (.aload_n 0, 1) := by decide +kernel
theorem dX2_comesAhead_85 : decode cX2_comesAhead 85 = .ok (.getfield 46, 3) := by decide +kernel
theorem dX2_comesAhead_88 : decode cX2_comesAhead 88 = .ok (.iload_n 2, 1) := by decide +kernel
theorem dX2_comesAhead_89 : decode cX2_comesAhead 89 = .ok (.iaload, 1) := by decide +kernel
theorem dX2_comesAhead_90 : decode cX2_comesAhead 90 = .ok (.if_icmp .le 7, 3) := by decide +kernel
theorem dX2_comesAhead_93 : decode cX2_comesAhead 93 = .ok (.iconst 1, 1) := by decide +kernel
theorem dX2_comesAhead_94 : decode cX2_comesAhead 94 = .ok (.goto 4, 3) := by decide +kernel
theorem dX2_comesAhead_97 : decode cX2_comesAhead 97 = .ok (.iconst 0, 1) := by decide +kernel
theorem dX2_comesAhead_98 : decode cX2_comesAhead 98 = .ok (.ireturn, 1) := by decide +kernel
theorem dX2_comesAhead_99 : decode cX2_comesAhead 99 = .ok (.iconst 0, 1) := by decide +kernel
theorem dX2_comesAhead_100 : decode cX2_comesAhead 100 = .ok (.ireturn, 1) := by decide +kernel
theorem dX2_passMinute_0 : decode cX2_passMinute 0 = .ok (.iconst 0, 1) := by decide +kernel
theorem dX2_passMinute_1 : decode cX2_passMinute 1 = .ok (.istore_n 1, 1) := by decide +kernel
theorem dX2_passMinute_2 : decode cX2_passMinute 2 = .ok (.iload_n 1, 1) := by decide +kernel
theorem dX2_passMinute_3 : decode cX2_passMinute 3 = .ok (.iconst 5, 1) := by decide +kernel
theorem dX2_passMinute_4 : decode cX2_passMinute 4 = .ok (.if_icmp .ge 22, 3) := by decide +kernel
theorem dX2_passMinute_7 : decode cX2_passMinute 7 = .ok (.aload_n 0, 1) := by decide +kernel
theorem dX2_passMinute_8 : decode cX2_passMinute 8 = .ok (.iload_n 1, 1) := by decide +kernel
theorem dX2_passMinute_9 : decode cX2_passMinute 9 = .ok (.invokevirtual 91, 3) := by decide +kernel
theorem dX2_passMinute_12 : decode cX2_passMinute 12 = .ok (.ifCond .eq 8, 3) := by decide +kernel
theorem dX2_passMinute_15 : decode cX2_passMinute 15 = .ok (.aload_n 0, 1) := by decide +kernel
theorem dX2_passMinute_16 : decode cX2_passMinute 16 = .ok (.iload_n 1, 1) := by decide +kernel
theorem dX2_passMinute_17 : decode cX2_passMinute 17 = .ok (.invokevirtual 95, 3) := by decide +kernel
theorem dX2_passMinute_20 : decode cX2_passMinute 20 = .ok (.iinc 1 1, 3) := by decide +kernel
theorem dX2_passMinute_23 : decode cX2_passMinute 23 = .ok (.goto (-21), 3) := by decide +kernel
theorem dX2_passMinute_26 : decode cX2_passMinute 26 = .ok (.aload_n 0, 1) := by decide +kernel
theorem dX2_passMinute_27 : decode cX2_passMinute 27 = .ok (.getfield 27, 3) := by decide +kernel
theorem dX2_passMinute_30 : decode cX2_passMinute 30 = .ok (.aload_n 0, 1) := by decide +kernel
theorem dX2_passMinute_31 : decode cX2_passMinute 31 = .ok (.getfield 15, 3) := by decide +kernel
theorem dX2_passMinute_34 : decode cX2_passMinute 34 = .ok (.invokestatic 99, 3) := by decide +kernel
theorem dX2_passMinute_37 : decode cX2_passMinute 37 = .ok (.isub, 1) := by decide +kernel
theorem dX2_passMinute_38 : decode cX2_passMinute 38 = .ok (.istore_n 1, 1) := by decide +kernel
theorem dX2_passMinute_39 : decode cX2_passMinute 39 = .ok (.iload_n 1, 1) := by decide +kernel
theorem dX2_passMinute_40 : decode cX2_passMinute 40 = .ok (.ifCond .le 28, 3) := by decide +kernel
theorem dX2_passMinute_43 : decode cX2_passMinute 43 = .ok (.aload_n 0, 1) := by decide +kernel
theorem dX2_passMinute_44 : decode cX2_passMinute 44 = .ok (.invokevirtual 104, 3) := by decide +kernel
theorem dX2_passMinute_47 : decode cX2_passMinute 47 = .ok (.istore_n 2, 1) := by decide +kernel
theorem dX2_passMinute_48 : decode cX2_passMinute 48 = .ok (.iload_n 2, 1) := by decide +kernel
theorem dX2_passMinute_49 : decode cX2_passMinute 49 = .ok (.bipush (-9), 2) := by decide +kernel
theorem dX2_passMinute_51 : decode cX2_passMinute 51 = .ok (.if_icmp .ne 6, 3) := by decide +kernel
theorem dX2_passMinute_54 : decode cX2_passMinute 54 = .ok (.goto 14, 3) := by decide +kernel
theorem dX2_passMinute_57 : decode cX2_passMinute 57 = .ok (.aload_n 0, 1) := by decide +kernel
theorem dX2_passMinute_58 : decode cX2_passMinute 58 = .ok (.iload_n 2, 1) := by decide +kernel
theorem dX2_passMinute_59 : decode cX2_passMinute 59 = .ok (.invokevirtual 107, 3) := by decide +kernel
theorem dX2_passMinute_62 : decode cX2_passMinute 62 = .ok (.iinc 1 (-1), 3) := by decide +kernel
theorem dX2_passMinute_65 : decode cX2_passMinute 65 = .ok (.goto (-26), 3) := by decide +kernel
theorem dX2_passMinute_68 : decode cX2_passMinute 68 = .ok (.aload_n 0, 1) := by decide +kernel
theorem dX2_passMinute_69 : decode cX2_passMinute 69 = .ok (.invokevirtual 110, 3) := by decide +kernel
theorem dX2_passMinute_72 : decode cX2_passMinute 72 = .ok (.aload_n 0, 1) := by decide +kernel
theorem dX2_passMinute_73 : decode cX2_passMinute 73 = .ok (.dup, 1) := by decide +kernel
theorem dX2_passMinute_74 : decode cX2_passMinute 74 = .ok (.getfield 30, 3) := by decide +kernel
theorem dX2_passMinute_77 : decode cX2_passMinute 77 = .ok (.iconst 1, 1) := by decide +kernel
theorem dX2_passMinute_78 : decode cX2_passMinute 78 = .ok (.iadd, 1) := by decide +kernel
theorem dX2_passMinute_79 : decode cX2_passMinute 79 = .ok (.putfield 30, 3) := by decide +kernel
theorem dX2_passMinute_82 : decode cX2_passMinute 82 = .ok (.return_, 1) := by decide +kernel
theorem dX2_getOffIfDue_0 : decode cX2_getOffIfDue 0 = .ok (.aload_n 0, 1) := by decide +kernel
theorem dX2_getOffIfDue_1 : decode cX2_getOffIfDue 1 = .ok (.getfield 33, 3) := by decide +kernel
theorem dX2_getOffIfDue_4 : decode cX2_getOffIfDue 4 = .ok (.iload_n 1, 1) := by decide +kernel
theorem dX2_getOffIfDue_5 : decode cX2_getOffIfDue 5 = .ok (.iaload, 1) := by decide +kernel
theorem dX2_getOffIfDue_6 : decode cX2_getOffIfDue 6 = .ok (.ifCond .ne 9, 3) := by decide +kernel
theorem dX2_getOffIfDue_9 : decode cX2_getOffIfDue 9 = .ok (.aload_n 0, 1) := by decide +kernel
theorem dX2_getOffIfDue_10 : decode cX2_getOffIfDue 10 = .ok (.iload_n 1, 1) := by decide +kernel
theorem dX2_getOffIfDue_11 : decode cX2_getOffIfDue 11 = .ok (.invokevirtual 113, 3) := by decide +kernel
theorem dX2_getOffIfDue_14 : decode cX2_getOffIfDue 14 = .ok (.return_, 1) := by decide +kernel
theorem dX2_getOffIfDue_15 : decode cX2_getOffIfDue 15 = .ok (.aload_n 0, 1) := by decide +kernel
theorem dX2_getOffIfDue_16 : decode cX2_getOffIfDue 16 = .ok (.invokevirtual 104, 3) := by decide +kernel
theorem dX2_getOffIfDue_19 : decode cX2_getOffIfDue 19 = .ok (.istore_n 2, 1) := by decide +kernel
theorem dX2_getOffIfDue_20 : decode cX2_getOffIfDue 20 = .ok (.iload_n 2, 1) := by decide +kernel
theorem dX2_getOffIfDue_21 : decode cX2_getOffIfDue 21 = .ok (.bipush (-9), 2) := by decide +kernel
theorem dX2_getOffIfDue_23 : decode cX2_getOffIfDue 23 = .ok (.if_icmp .ne 4, 3) := by decide +kernel
theorem dX2_getOffIfDue_26 : decode cX2_getOffIfDue 26 = .ok (.return_, 1) := by decide +kernel
theorem dX2_getOffIfDue_27 : decode cX2_getOffIfDue 27 = .ok (.aload_n 0, 1) := by decide +kernel
theorem dX2_getOffIfDue_28 : decode cX2_getOffIfDue 28 = .ok (.getfield 21, 3) := by decide +kernel
theorem dX2_getOffIfDue_31 : decode cX2_getOffIfDue 31 = .ok (.ifCond .ne 30, 3) := by decide +kernel
theorem dX2_getOffIfDue_34 : decode cX2_getOffIfDue 34 = .ok (.aload_n 0, 1) := by decide +kernel
theorem dX2_getOffIfDue_35 : decode cX2_getOffIfDue 35 = .ok (.getfield 52, 3) := by decide +kernel
theorem dX2_getOffIfDue_38 : decode cX2_getOffIfDue 38 = .ok (.iload_n 2, 1) := by decide +kernel
theorem dX2_getOffIfDue_39 : decode cX2_getOffIfDue 39 = .ok (.invokevirtual 88, 3) := by decide +kernel
theorem dX2_getOffIfDue_42 : decode cX2_getOffIfDue 42 = .ok (.aload_n 0, 1) := by decide +kernel
theorem dX2_getOffIfDue_43 : decode cX2_getOffIfDue 43 = .ok (.getfield 52, 3) := by decide +kernel
theorem dX2_getOffIfDue_46 : decode cX2_getOffIfDue 46 = .ok (.iload_n 1, 1) := by decide +kernel
theorem dX2_getOffIfDue_47 : decode cX2_getOffIfDue 47 = .ok (.invokevirtual 88, 3) := by decide +kernel
theorem dX2_getOffIfDue_50 : decode cX2_getOffIfDue 50 = .ok (.if_icmp .le 11, 3) := by decide +kernel
theorem dX2_getOffIfDue_53 : decode cX2_getOffIfDue 53 = .ok (.aload_n 0, 1) := by decide +kernel
theorem dX2_getOffIfDue_54 : decode cX2_getOffIfDue 54 = .ok (.iload_n 1, 1) := by decide +kernel
theorem dX2_getOffIfDue_55 : decode cX2_getOffIfDue 55 = .ok (.invokevirtual 116, 3) := by decide +kernel
theorem dX2_getOffIfDue_58 : decode cX2_getOffIfDue 58 = .ok (.goto 41, 3) := by decide +kernel
theorem dX2_getOffIfDue_61 : decode cX2_getOffIfDue 61 = .ok (.aload_n 0, 1) := by decide +kernel
theorem dX2_getOffIfDue_62 : decode cX2_getOffIfDue 62 = .ok (.getfield 37, 3) := by decide +kernel
theorem dX2_getOffIfDue_65 : decode cX2_getOffIfDue 65 = .ok (.iload_n 1, 1) := by decide +kernel
theorem dX2_getOffIfDue_66 : decode cX2_getOffIfDue 66 = .ok (.iaload, 1) := by decide +kernel
theorem dX2_getOffIfDue_67 : decode cX2_getOffIfDue 67 = .ok (.aload_n 0, 1) := by decide +kernel
theorem dX2_getOffIfDue_68 : decode cX2_getOffIfDue 68 = .ok (.getfield 24, 3) := by decide +kernel
theorem dX2_getOffIfDue_71 : decode cX2_getOffIfDue 71 = .ok (.if_icmp .lt 28, 3) := by decide +kernel
theorem dX2_getOffIfDue_74 : decode cX2_getOffIfDue 74 = .ok (.aload_n 0, 1) := by decide +kernel
theorem dX2_getOffIfDue_75 : decode cX2_getOffIfDue 75 = .ok (.getfield 21, 3) := by decide +kernel
theorem dX2_getOffIfDue_78 : decode cX2_getOffIfDue 78 = .ok (.ifCond .ne 16, 3) := by decide +kernel
theorem dX2_getOffIfDue_81 : decode cX2_getOffIfDue 81 = .ok (.aload_n 0, 1) := by decide +kernel
theorem dX2_getOffIfDue_82 : decode cX2_getOffIfDue 82 = .ok (.getfield 52, 3) := by decide +kernel
theorem dX2_getOffIfDue_85 : decode cX2_getOffIfDue 85 = .ok (.getfield 77, 3) := by decide +kernel
theorem dX2_getOffIfDue_88 : decode cX2_getOffIfDue 88 = .ok (.iload_n 1, 1) := by decide +kernel
theorem dX2_getOffIfDue_89 : decode cX2_getOffIfDue 89 = .ok (.iaload, 1) := by decide +kernel
theorem dX2_getOffIfDue_90 : decode cX2_getOffIfDue 90 = .ok (.iconst 3, 1) := by decide +kernel
theorem dX2_getOffIfDue_91 : decode cX2_getOffIfDue 91 = .ok (.if_icmp .ne 8, 3) := by decide +kernel
theorem dX2_getOffIfDue_94 : decode cX2_getOffIfDue 94 = .ok (.aload_n 0, 1) := by decide +kernel
theorem dX2_getOffIfDue_95 : decode cX2_getOffIfDue 95 = .ok (.iload_n 1, 1) := by decide +kernel
theorem dX2_getOffIfDue_96 : decode cX2_getOffIfDue 96 = .ok (.invokevirtual 113, 3) := by decide +kernel
theorem dX2_getOffIfDue_99 : decode cX2_getOffIfDue 99 = .ok (.return_, 1) := by decide +kernel
theorem dX2_rideAndStare_0 : decode cX2_rideAndStare 0 = .ok (.iconst 0, 1) := by decide +kernel
theorem dX2_rideAndStare_1 : decode cX2_rideAndStare 1 = .ok (.istore_n 1, 1) := by decide +kernel
theorem dX2_rideAndStare_2 : decode cX2_rideAndStare 2 = .ok (.iload_n 1, 1) := by decide +kernel
theorem dX2_rideAndStare_3 : decode cX2_rideAndStare 3 = .ok (.iconst 5, 1) := by decide +kernel
theorem dX2_rideAndStare_4 : decode cX2_rideAndStare 4 = .ok (.if_icmp .ge 125, 3) := by decide +kernel
theorem dX2_rideAndStare_7 : decode cX2_rideAndStare 7 = .ok (.aload_n 0, 1) := by decide +kernel
theorem dX2_rideAndStare_8 : decode cX2_rideAndStare 8 = .ok (.iload_n 1, 1) := by decide +kernel
theorem dX2_rideAndStare_9 : decode cX2_rideAndStare 9 = .ok (.invokevirtual 91, 3) := by decide +kernel
theorem dX2_rideAndStare_12 : decode cX2_rideAndStare 12 = .ok (.ifCond .eq 44, 3) := by decide +kernel
theorem dX2_rideAndStare_15 : decode cX2_rideAndStare 15 = .ok (.aload_n 0, 1) := by decide +kernel
theorem dX2_rideAndStare_16 : decode cX2_rideAndStare 16 = .ok (.getfield 40, 3) := by decide +kernel
theorem dX2_rideAndStare_19 : decode cX2_rideAndStare 19 = .ok (.iload_n 1, 1) := by decide +kernel
theorem dX2_rideAndStare_20 : decode cX2_rideAndStare 20 = .ok (.dup2, 1) := by decide +kernel
theorem dX2_rideAndStare_21 : decode cX2_rideAndStare 21 = .ok (.iaload, 1) := by decide +kernel
theorem dX2_rideAndStare_22 : decode cX2_rideAndStare 22 = .ok (.iconst 1, 1) := by decide +kernel
theorem dX2_rideAndStare_23 : decode cX2_rideAndStare 23 = .ok (.iadd, 1) := by decide +kernel
theorem dX2_rideAndStare_24 : decode cX2_rideAndStare 24 = .ok (.iastore, 1) := by decide +kernel
theorem dX2_rideAndStare_25 : decode cX2_rideAndStare 25 = .ok (.aload_n 0, 1) := by decide +kernel
theorem dX2_rideAndStare_26 : decode cX2_rideAndStare 26 = .ok (.getfield 37, 3) := by decide +kernel
theorem dX2_rideAndStare_29 : decode cX2_rideAndStare 29 = .ok (.iload_n 1, 1) := by decide +kernel
theorem dX2_rideAndStare_30 : decode cX2_rideAndStare 30 = .ok (.dup2, 1) := by decide +kernel
theorem dX2_rideAndStare_31 : decode cX2_rideAndStare 31 = .ok (.iaload, 1) := by decide +kernel
theorem dX2_rideAndStare_32 : decode cX2_rideAndStare 32 = .ok (.iconst 1, 1) := by decide +kernel
theorem dX2_rideAndStare_33 : decode cX2_rideAndStare 33 = .ok (.iadd, 1) := by decide +kernel
theorem dX2_rideAndStare_34 : decode cX2_rideAndStare 34 = .ok (.iastore, 1) := by decide +kernel
theorem dX2_rideAndStare_35 : decode cX2_rideAndStare 35 = .ok (.aload_n 0, 1) := by decide +kernel
theorem dX2_rideAndStare_36 : decode cX2_rideAndStare 36 = .ok (.getfield 33, 3) := by decide +kernel
theorem dX2_rideAndStare_39 : decode cX2_rideAndStare 39 = .ok (.iload_n 1, 1) := by decide +kernel
theorem dX2_rideAndStare_40 : decode cX2_rideAndStare 40 = .ok (.iconst 0, 1) := by decide +kernel
theorem dX2_rideAndStare_41 : decode cX2_rideAndStare 41 = .ok (.aload_n 0, 1) := by decide +kernel
theorem dX2_rideAndStare_42 : decode cX2_rideAndStare 42 = .ok (.getfield 33, 3) := by decide +kernel
theorem dX2_rideAndStare_45 : decode cX2_rideAndStare 45 = .ok (.iload_n 1, 1) := by decide +kernel
theorem dX2_rideAndStare_46 : decode cX2_rideAndStare 46 = .ok (.iaload, 1) := by decide +kernel
theorem dX2_rideAndStare_47 : decode cX2_rideAndStare 47 = .ok (.iconst 1, 1) := by decide +kernel
theorem dX2_rideAndStare_48 : decode cX2_rideAndStare 48 = .ok (.isub, 1) := by decide +kernel
theorem dX2_rideAndStare_49 : decode cX2_rideAndStare 49 = .ok (.invokestatic 119, 3) := by decide +kernel
theorem dX2_rideAndStare_52 : decode cX2_rideAndStare 52 = .ok (.iastore, 1) := by decide +kernel
theorem dX2_rideAndStare_53 : decode cX2_rideAndStare 53 = .ok (.goto 70, 3) := by decide +kernel
theorem dX2_rideAndStare_56 : decode cX2_rideAndStare 56 = .ok (.aload_n 0, 1) := by decide +kernel
theorem dX2_rideAndStare_57 : decode cX2_rideAndStare 57 = .ok (.getfield 15, 3) := by decide +kernel
theorem dX2_rideAndStare_60 : decode cX2_rideAndStare 60 = .ok (.ifCond .eq 63, 3) := by decide +kernel
theorem dX2_rideAndStare_63 : decode cX2_rideAndStare 63 = .ok (.aload_n 0, 1) := by decide +kernel
theorem dX2_rideAndStare_64 : decode cX2_rideAndStare 64 = .ok (.getfield 9, 3) := by decide +kernel
theorem dX2_rideAndStare_67 : decode cX2_rideAndStare 67 = .ok (.iload_n 1, 1) := by decide +kernel
theorem dX2_rideAndStare_68 : decode cX2_rideAndStare 68 = .ok (.invokestatic 70, 3) := by decide +kernel
theorem dX2_rideAndStare_71 : decode cX2_rideAndStare 71 = .ok (.ifCond .eq 52, 3) := by decide +kernel
theorem dX2_rideAndStare_74 : decode cX2_rideAndStare 74 = .ok (.aload_n 0, 1) := by decide +kernel
theorem dX2_rideAndStare_75 : decode cX2_rideAndStare 75 = .ok (.getfield 33, 3) := by decide +kernel
theorem dX2_rideAndStare_78 : decode cX2_rideAndStare 78 = .ok (.iload_n 1, 1) := by decide +kernel
theorem dX2_rideAndStare_79 : decode cX2_rideAndStare 79 = .ok (.bipush 9, 2) := by decide +kernel
theorem dX2_rideAndStare_81 : decode cX2_rideAndStare 81 = .ok (.aload_n 0, 1) := by decide +kernel
theorem dX2_rideAndStare_82 : decode cX2_rideAndStare 82 = .ok (.getfield 33, 3) := by decide +kernel
theorem dX2_rideAndStare_85 : decode cX2_rideAndStare 85 = .ok (.iload_n 1, 1) := by decide +kernel
theorem dX2_rideAndStare_86 : decode cX2_rideAndStare 86 = .ok (.iaload, 1) := by decide +kernel
theorem dX2_rideAndStare_87 : decode cX2_rideAndStare 87 = .ok (.iconst 1, 1) := by decide +kernel
theorem dX2_rideAndStare_88 : decode cX2_rideAndStare 88 = .ok (.iadd, 1) := by decide +kernel
theorem dX2_rideAndStare_89 : decode cX2_rideAndStare 89 = .ok (.invokestatic 124, 3) := by decide +kernel
theorem dX2_rideAndStare_92 : decode cX2_rideAndStare 92 = .ok (.iastore, 1) := by decide +kernel
theorem dX2_rideAndStare_93 : decode cX2_rideAndStare 93 = .ok (.aload_n 0, 1) := by decide +kernel
theorem dX2_rideAndStare_94 : decode cX2_rideAndStare 94 = .ok (.getfield 33, 3) := by decide +kernel
theorem dX2_rideAndStare_97 : decode cX2_rideAndStare 97 = .ok (.iload_n 1, 1) := by decide +kernel
theorem dX2_rideAndStare_98 : decode cX2_rideAndStare 98 = .ok (.iaload, 1) := by decide +kernel
theorem dX2_rideAndStare_99 : decode cX2_rideAndStare 99 = .ok (.iconst 5, 1) := by decide +kernel
theorem dX2_rideAndStare_100 : decode cX2_rideAndStare 100 = .ok (.if_icmp .lt 23, 3) := by decide +kernel
theorem dX2_rideAndStare_103 : decode cX2_rideAndStare 103 = .ok (.aload_n 0, 1) := by decide +kernel
theorem dX2_rideAndStare_104 : decode cX2_rideAndStare 104 = .ok (.getfield 43, 3) := by decide +kernel
theorem dX2_rideAndStare_107 : decode cX2_rideAndStare 107 = .ok (.iload_n 1, 1) := by decide +kernel
theorem dX2_rideAndStare_108 : decode cX2_rideAndStare 108 = .ok (.dup2, 1) := by decide +kernel
theorem dX2_rideAndStare_109 : decode cX2_rideAndStare 109 = .ok (.iaload, 1) := by decide +kernel
theorem dX2_rideAndStare_110 : decode cX2_rideAndStare 110 = .ok (.iconst 1, 1) := by decide +kernel
theorem dX2_rideAndStare_111 : decode cX2_rideAndStare 111 = .ok (.iadd, 1) := by decide +kernel
theorem dX2_rideAndStare_112 : decode cX2_rideAndStare 112 = .ok (.iastore, 1) := by decide +kernel
theorem dX2_rideAndStare_113 : decode cX2_rideAndStare 113 = .ok (.aload_n 0, 1) := by decide +kernel
theorem dX2_rideAndStare_114 : decode cX2_rideAndStare 114 = .ok (.getfield 46, 3) := by decide +kernel
theorem dX2_rideAndStare_117 : decode cX2_rideAndStare 117 = .ok (.iload_n 1, 1) := by decide +kernel
theorem dX2_rideAndStare_118 : decode cX2_rideAndStare 118 = .ok (.dup2, 1) := by decide +kernel
theorem dX2_rideAndStare_119 : decode cX2_rideAndStare 119 = .ok (.iaload, 1) := by decide +kernel
theorem dX2_rideAndStare_120 : decode cX2_rideAndStare 120 = .ok (.iconst 1, 1) := by decide +kernel
theorem dX2_rideAndStare_121 : decode cX2_rideAndStare 121 = .ok (.iadd, 1) := by decide +kernel
theorem dX2_rideAndStare_122 : decode cX2_rideAndStare 122 = .ok (.iastore, 1) := by decide +kernel
theorem dX2_rideAndStare_123 : decode cX2_rideAndStare 123 = .ok (.iinc 1 1, 3) := by decide +kernel
theorem dX2_rideAndStare_126 : decode cX2_rideAndStare 126 = .ok (.goto (-124), 3) := by decide +kernel
theorem dX2_rideAndStare_129 : decode cX2_rideAndStare 129 = .ok (.return_, 1) := by decide +kernel
theorem dX2_getOn_0 : decode cX2_getOn 0 = .ok (.aload_n 0, 1) := by decide +kernel
theorem dX2_getOn_1 : decode cX2_getOn 1 = .ok (.dup, 1) := by decide +kernel
theorem dX2_getOn_2 : decode cX2_getOn 2 = .ok (.getfield 15, 3) := by decide +kernel
theorem dX2_getOn_5 : decode cX2_getOn 5 = .ok (.iconst 1, 1) := by decide +kernel
theorem dX2_getOn_6 : decode cX2_getOn 6 = .ok (.iload_n 1, 1) := by decide +kernel
theorem dX2_getOn_7 : decode cX2_getOn 7 = .ok (.ishl, 1) := by decide +kernel
theorem dX2_getOn_8 : decode cX2_getOn 8 = .ok (.ior, 1) := by decide +kernel
theorem dX2_getOn_9 : decode cX2_getOn 9 = .ok (.putfield 15, 3) := by decide +kernel
theorem dX2_getOn_12 : decode cX2_getOn 12 = .ok (.aload_n 0, 1) := by decide +kernel
theorem dX2_getOn_13 : decode cX2_getOn 13 = .ok (.getfield 37, 3) := by decide +kernel
theorem dX2_getOn_16 : decode cX2_getOn 16 = .ok (.iload_n 1, 1) := by decide +kernel
theorem dX2_getOn_17 : decode cX2_getOn 17 = .ok (.iconst 0, 1) := by decide +kernel
theorem dX2_getOn_18 : decode cX2_getOn 18 = .ok (.iastore, 1) := by decide +kernel
theorem dX2_getOn_19 : decode cX2_getOn 19 = .ok (.aload_n 0, 1) := by decide +kernel
theorem dX2_getOn_20 : decode cX2_getOn 20 = .ok (.getfield 46, 3) := by decide +kernel
theorem dX2_getOn_23 : decode cX2_getOn 23 = .ok (.iload_n 1, 1) := by decide +kernel
theorem dX2_getOn_24 : decode cX2_getOn 24 = .ok (.iconst 0, 1) := by decide +kernel
theorem dX2_getOn_25 : decode cX2_getOn 25 = .ok (.iastore, 1) := by decide +kernel
theorem dX2_getOn_26 : decode cX2_getOn 26 = .ok (.aload_n 0, 1) := by decide +kernel
theorem dX2_getOn_27 : decode cX2_getOn 27 = .ok (.iload_n 1, 1) := by decide +kernel
theorem dX2_getOn_28 : decode cX2_getOn 28 = .ok (.putfield 18, 3) := by decide +kernel
theorem dX2_getOn_31 : decode cX2_getOn 31 = .ok (.return_, 1) := by decide +kernel
theorem dX2_getOff_0 : decode cX2_getOff 0 = .ok (.aload_n 0, 1) := by decide +kernel
theorem dX2_getOff_1 : decode cX2_getOff 1 = .ok (.dup, 1) := by decide +kernel
theorem dX2_getOff_2 : decode cX2_getOff 2 = .ok (.getfield 15, 3) := by decide +kernel
theorem dX2_getOff_5 : decode cX2_getOff 5 = .ok (.iconst 1, 1) := by decide +kernel
theorem dX2_getOff_6 : decode cX2_getOff 6 = .ok (.iload_n 1, 1) := by decide +kernel
theorem dX2_getOff_7 : decode cX2_getOff 7 = .ok (.ishl, 1) := by decide +kernel
theorem dX2_getOff_8 : decode cX2_getOff 8 = .ok (.iconst (-1), 1) := by decide +kernel
theorem dX2_getOff_9 : decode cX2_getOff 9 = .ok (.ixor, 1) := by decide +kernel
theorem dX2_getOff_10 : decode cX2_getOff 10 = .ok (.iand, 1) := by decide +kernel
theorem dX2_getOff_11 : decode cX2_getOff 11 = .ok (.putfield 15, 3) := by decide +kernel
theorem dX2_getOff_14 : decode cX2_getOff 14 = .ok (.aload_n 0, 1) := by decide +kernel
theorem dX2_getOff_15 : decode cX2_getOff 15 = .ok (.getfield 37, 3) := by decide +kernel
theorem dX2_getOff_18 : decode cX2_getOff 18 = .ok (.iload_n 1, 1) := by decide +kernel
theorem dX2_getOff_19 : decode cX2_getOff 19 = .ok (.iconst 0, 1) := by decide +kernel
theorem dX2_getOff_20 : decode cX2_getOff 20 = .ok (.iastore, 1) := by decide +kernel
theorem dX2_getOff_21 : decode cX2_getOff 21 = .ok (.return_, 1) := by decide +kernel
theorem dX2_canBePushed_0 : decode cX2_canBePushed 0 = .ok (.aload_n 0, 1) := by decide +kernel
theorem dX2_canBePushed_1 : decode cX2_canBePushed 1 = .ok (.iload_n 1, 1) := by decide +kernel
theorem dX2_canBePushed_2 : decode cX2_canBePushed 2 = .ok (.invokevirtual 127, 3) := by decide +kernel
theorem dX2_canBePushed_5 : decode cX2_canBePushed 5 = .ok (.ifCond .eq 15, 3) := by decide +kernel
theorem dX2_canBePushed_8 : decode cX2_canBePushed 8 = .ok (.aload_n 0, 1) := by decide +kernel
theorem dX2_canBePushed_9 : decode cX2_canBePushed 9 = .ok (.iload_n 1, 1) := by decide +kernel
theorem dX2_canBePushed_10 : decode cX2_canBePushed 10 = .ok (.invokevirtual 91, 3) := by decide +kernel
theorem dX2_canBePushed_13 : decode cX2_canBePushed 13 = .ok (.ifCond .eq 7, 3) := by decide +kernel
theorem dX2_canBePushed_16 : decode cX2_canBePushed 16 = .ok (.iconst 1, 1) := by decide +kernel
theorem dX2_canBePushed_17 : decode cX2_canBePushed 17 = .ok (.goto 4, 3) := by decide +kernel
theorem dX2_canBePushed_20 : decode cX2_canBePushed 20 = .ok (.iconst 0, 1) := by decide +kernel
theorem dX2_canBePushed_21 : decode cX2_canBePushed 21 = .ok (.ireturn, 1) := by decide +kernel
theorem dX2_pushOff_0 : decode cX2_pushOff 0 = .ok (.aload_n 0, 1) := by decide +kernel
theorem dX2_pushOff_1 : decode cX2_pushOff 1 = .ok (.iload_n 1, 1) := by decide +kernel
theorem dX2_pushOff_2 : decode cX2_pushOff 2 = .ok (.invokevirtual 113, 3) := by decide +kernel
theorem dX2_pushOff_5 : decode cX2_pushOff 5 = .ok (.aload_n 0, 1) := by decide +kernel
theorem dX2_pushOff_6 : decode cX2_pushOff 6 = .ok (.getfield 49, 3) := by decide +kernel
theorem dX2_pushOff_9 : decode cX2_pushOff 9 = .ok (.iload_n 1, 1) := by decide +kernel
theorem dX2_pushOff_10 : decode cX2_pushOff 10 = .ok (.dup2, 1) := by decide +kernel
theorem dX2_pushOff_11 : decode cX2_pushOff 11 = .ok (.iaload, 1) := by decide +kernel
theorem dX2_pushOff_12 : decode cX2_pushOff 12 = .ok (.iconst 1, 1) := by decide +kernel
theorem dX2_pushOff_13 : decode cX2_pushOff 13 = .ok (.iadd, 1) := by decide +kernel
theorem dX2_pushOff_14 : decode cX2_pushOff 14 = .ok (.iastore, 1) := by decide +kernel
theorem dX2_pushOff_15 : decode cX2_pushOff 15 = .ok (.return_, 1) := by decide +kernel
theorem dX2_canBeCalled_0 : decode cX2_canBeCalled 0 = .ok (.aload_n 0, 1) := by decide +kernel
theorem dX2_canBeCalled_1 : decode cX2_canBeCalled 1 = .ok (.iload_n 1, 1) := by decide +kernel
theorem dX2_canBeCalled_2 : decode cX2_canBeCalled 2 = .ok (.invokevirtual 127, 3) := by decide +kernel
theorem dX2_canBeCalled_5 : decode cX2_canBeCalled 5 = .ok (.ifCond .eq 24, 3) := by decide +kernel
theorem dX2_canBeCalled_8 : decode cX2_canBeCalled 8 = .ok (.aload_n 0, 1) := by decide +kernel
theorem dX2_canBeCalled_9 : decode cX2_canBeCalled 9 = .ok (.iload_n 1, 1) := by decide +kernel
theorem dX2_canBeCalled_10 : decode cX2_canBeCalled 10 = .ok (.invokevirtual 91, 3) := by decide +kernel
theorem dX2_canBeCalled_13 : decode cX2_canBeCalled 13 = .ok (.ifCond .ne 16, 3) := by decide +kernel
theorem dX2_canBeCalled_16 : decode cX2_canBeCalled 16 = .ok (.aload_n 0, 1) := by decide +kernel
theorem dX2_canBeCalled_17 : decode cX2_canBeCalled 17 = .ok (.getfield 33, 3) := by decide +kernel
theorem dX2_canBeCalled_20 : decode cX2_canBeCalled 20 = .ok (.iload_n 1, 1) := by decide +kernel
theorem dX2_canBeCalled_21 : decode cX2_canBeCalled 21 = .ok (.iaload, 1) := by decide +kernel
theorem dX2_canBeCalled_22 : decode cX2_canBeCalled 22 = .ok (.ifCond .le 7, 3) := by decide +kernel
theorem dX2_canBeCalled_25 : decode cX2_canBeCalled 25 = .ok (.iconst 1, 1) := by decide +kernel
theorem dX2_canBeCalled_26 : decode cX2_canBeCalled 26 = .ok (.goto 4, 3) := by decide +kernel
theorem dX2_canBeCalled_29 : decode cX2_canBeCalled 29 = .ok (.iconst 0, 1) := by decide +kernel
theorem dX2_canBeCalled_30 : decode cX2_canBeCalled 30 = .ok (.ireturn, 1) := by decide +kernel
theorem dX2_callAway_0 : decode cX2_callAway 0 = .ok (.aload_n 0, 1) := by decide +kernel
theorem dX2_callAway_1 : decode cX2_callAway 1 = .ok (.getfield 33, 3) := by decide +kernel
theorem dX2_callAway_4 : decode cX2_callAway 4 = .ok (.iload_n 1, 1) := by decide +kernel
theorem dX2_callAway_5 : decode cX2_callAway 5 = .ok (.iconst 0, 1) := by decide +kernel
theorem dX2_callAway_6 : decode cX2_callAway 6 = .ok (.iastore, 1) := by decide +kernel
theorem dX2_callAway_7 : decode cX2_callAway 7 = .ok (.return_, 1) := by decide +kernel
theorem dX2_setRule_0 : decode cX2_setRule 0 = .ok (.aload_n 0, 1) := by decide +kernel
theorem dX2_setRule_1 : decode cX2_setRule 1 = .ok (.iload_n 1, 1) := by decide +kernel
theorem dX2_setRule_2 : decode cX2_setRule 2 = .ok (.putfield 21, 3) := by decide +kernel
theorem dX2_setRule_5 : decode cX2_setRule 5 = .ok (.aload_n 0, 1) := by decide +kernel
theorem dX2_setRule_6 : decode cX2_setRule 6 = .ok (.iload_n 2, 1) := by decide +kernel
theorem dX2_setRule_7 : decode cX2_setRule 7 = .ok (.putfield 24, 3) := by decide +kernel
theorem dX2_setRule_10 : decode cX2_setRule 10 = .ok (.return_, 1) := by decide +kernel
theorem dX2_putOrTakeAway_0 : decode cX2_putOrTakeAway 0 = .ok (.aload_n 0, 1) := by decide +kernel
theorem dX2_putOrTakeAway_1 : decode cX2_putOrTakeAway 1 = .ok (.aload_n 0, 1) := by decide +kernel
theorem dX2_putOrTakeAway_2 : decode cX2_putOrTakeAway 2 = .ok (.getfield 27, 3) := by decide +kernel
theorem dX2_putOrTakeAway_5 : decode cX2_putOrTakeAway 5 = .ok (.iconst 1, 1) := by decide +kernel
theorem dX2_putOrTakeAway_6 : decode cX2_putOrTakeAway 6 = .ok (.if_icmp .ne 7, 3) := by decide +kernel
theorem dX2_putOrTakeAway_9 : decode cX2_putOrTakeAway 9 = .ok (.iconst 2, 1) := by decide +kernel
theorem dX2_putOrTakeAway_10 : decode cX2_putOrTakeAway 10 = .ok (.goto 4, 3) := by decide +kernel
theorem dX2_putOrTakeAway_13 : decode cX2_putOrTakeAway 13 = .ok (.iconst 1, 1) := by decide +kernel
theorem dX2_putOrTakeAway_14 : decode cX2_putOrTakeAway 14 = .ok (.putfield 27, 3) := by decide +kernel
theorem dX2_putOrTakeAway_17 : decode cX2_putOrTakeAway 17 = .ok (.aload_n 0, 1) := by decide +kernel
theorem dX2_putOrTakeAway_18 : decode cX2_putOrTakeAway 18 = .ok (.getfield 15, 3) := by decide +kernel
theorem dX2_putOrTakeAway_21 : decode cX2_putOrTakeAway 21 = .ok (.invokestatic 99, 3) := by decide +kernel
theorem dX2_putOrTakeAway_24 : decode cX2_putOrTakeAway 24 = .ok (.aload_n 0, 1) := by decide +kernel
theorem dX2_putOrTakeAway_25 : decode cX2_putOrTakeAway 25 = .ok (.getfield 27, 3) := by decide +kernel
theorem dX2_putOrTakeAway_28 : decode cX2_putOrTakeAway 28 = .ok (.if_icmp .le 19, 3) := by decide +kernel
theorem dX2_putOrTakeAway_31 : decode cX2_putOrTakeAway 31 = .ok (.aload_n 0, 1) := by decide +kernel
theorem dX2_putOrTakeAway_32 : decode cX2_putOrTakeAway 32 = .ok (.getfield 15, 3) := by decide +kernel
theorem dX2_putOrTakeAway_35 : decode cX2_putOrTakeAway 35 = .ok (.aload_n 0, 1) := by decide +kernel
theorem dX2_putOrTakeAway_36 : decode cX2_putOrTakeAway 36 = .ok (.getfield 15, 3) := by decide +kernel
theorem dX2_putOrTakeAway_39 : decode cX2_putOrTakeAway 39 = .ok (.ineg, 1) := by decide +kernel
theorem dX2_putOrTakeAway_40 : decode cX2_putOrTakeAway 40 = .ok (.iand, 1) := by decide +kernel
theorem dX2_putOrTakeAway_41 : decode cX2_putOrTakeAway 41 = .ok (.istore_n 1, 1) := by decide +kernel
theorem dX2_putOrTakeAway_42 : decode cX2_putOrTakeAway 42 = .ok (.aload_n 0, 1) := by decide +kernel
theorem dX2_putOrTakeAway_43 : decode cX2_putOrTakeAway 43 = .ok (.iload_n 1, 1) := by decide +kernel
theorem dX2_putOrTakeAway_44 : decode cX2_putOrTakeAway 44 = .ok (.invokevirtual 130, 3) := by decide +kernel
theorem dX2_putOrTakeAway_47 : decode cX2_putOrTakeAway 47 = .ok (.return_, 1) := by decide +kernel
theorem dX2_leaveRiding_0 : decode cX2_leaveRiding 0 = .ok (.iconst 0, 1) := by decide +kernel
theorem dX2_leaveRiding_1 : decode cX2_leaveRiding 1 = .ok (.istore_n 2, 1) := by decide +kernel
theorem dX2_leaveRiding_2 : decode cX2_leaveRiding 2 = .ok (.iload_n 2, 1) := by decide +kernel
theorem dX2_leaveRiding_3 : decode cX2_leaveRiding 3 = .ok (.iconst 5, 1) := by decide +kernel
theorem dX2_leaveRiding_4 : decode cX2_leaveRiding 4 = .ok (.if_icmp .ge 30, 3) := by decide +kernel
theorem dX2_leaveRiding_7 : decode cX2_leaveRiding 7 = .ok (.aload_n 0, 1) := by decide +kernel
theorem dX2_leaveRiding_8 : decode cX2_leaveRiding 8 = .ok (.iload_n 2, 1) := by decide +kernel
theorem dX2_leaveRiding_9 : decode cX2_leaveRiding 9 = .ok (.invokevirtual 91, 3) := by decide +kernel
theorem dX2_leaveRiding_12 : decode cX2_leaveRiding 12 = .ok (.ifCond .eq 16, 3) := by decide +kernel
theorem dX2_leaveRiding_15 : decode cX2_leaveRiding 15 = .ok (.iload_n 1, 1) := by decide +kernel
theorem dX2_leaveRiding_16 : decode cX2_leaveRiding 16 = .ok (.iload_n 2, 1) := by decide +kernel
theorem dX2_leaveRiding_17 : decode cX2_leaveRiding 17 = .ok (.invokestatic 70, 3) := by decide +kernel
theorem dX2_leaveRiding_20 : decode cX2_leaveRiding 20 = .ok (.ifCond .ne 8, 3) := by decide +kernel
theorem dX2_leaveRiding_23 : decode cX2_leaveRiding 23 = .ok (.aload_n 0, 1) := by decide +kernel
theorem dX2_leaveRiding_24 : decode cX2_leaveRiding 24 = .ok (.iload_n 2, 1) := by decide +kernel
theorem dX2_leaveRiding_25 : decode cX2_leaveRiding 25 = .ok (.invokevirtual 113, 3) := by decide +kernel
theorem dX2_leaveRiding_28 : decode cX2_leaveRiding 28 = .ok (.iinc 2 1, 3) := by decide +kernel
theorem dX2_leaveRiding_31 : decode cX2_leaveRiding 31 = .ok (.goto (-29), 3) := by decide +kernel
theorem dX2_leaveRiding_34 : decode cX2_leaveRiding 34 = .ok (.return_, 1) := by decide +kernel
theorem dX2_leaveOnly_0 : decode cX2_leaveOnly 0 = .ok (.aload_n 0, 1) := by decide +kernel
theorem dX2_leaveOnly_1 : decode cX2_leaveOnly 1 = .ok (.dup, 1) := by decide +kernel
theorem dX2_leaveOnly_2 : decode cX2_leaveOnly 2 = .ok (.getfield 9, 3) := by decide +kernel
theorem dX2_leaveOnly_5 : decode cX2_leaveOnly 5 = .ok (.iload_n 1, 1) := by decide +kernel
theorem dX2_leaveOnly_6 : decode cX2_leaveOnly 6 = .ok (.iand, 1) := by decide +kernel
theorem dX2_leaveOnly_7 : decode cX2_leaveOnly 7 = .ok (.putfield 9, 3) := by decide +kernel
theorem dX2_leaveOnly_10 : decode cX2_leaveOnly 10 = .ok (.aload_n 0, 1) := by decide +kernel
theorem dX2_leaveOnly_11 : decode cX2_leaveOnly 11 = .ok (.iload_n 1, 1) := by decide +kernel
theorem dX2_leaveOnly_12 : decode cX2_leaveOnly 12 = .ok (.invokevirtual 130, 3) := by decide +kernel
theorem dX2_leaveOnly_15 : decode cX2_leaveOnly 15 = .ok (.return_, 1) := by decide +kernel
theorem dX2_doIfItCanBe_0 : decode cX2_doIfItCanBe 0 = .ok (.iload_n 1, 1) := by decide +kernel
theorem dX2_doIfItCanBe_1 : decode cX2_doIfItCanBe 1 = .ok (.ifCond .ne 13, 3) := by decide +kernel
theorem dX2_doIfItCanBe_4 : decode cX2_doIfItCanBe 4 = .ok (.iload_n 2, 1) := by decide +kernel
theorem dX2_doIfItCanBe_5 : decode cX2_doIfItCanBe 5 = .ok (.ifCond .ne 9, 3) := by decide +kernel
theorem dX2_doIfItCanBe_8 : decode cX2_doIfItCanBe 8 = .ok (.aload_n 0, 1) := by decide +kernel
theorem dX2_doIfItCanBe_9 : decode cX2_doIfItCanBe 9 = .ok (.invokevirtual 133, 3) := by decide +kernel
theorem dX2_doIfItCanBe_12 : decode cX2_doIfItCanBe 12 = .ok (.iconst 1, 1) := by decide +kernel
theorem dX2_doIfItCanBe_13 : decode cX2_doIfItCanBe 13 = .ok (.ireturn, 1) := by decide +kernel
theorem dX2_doIfItCanBe_14 : decode cX2_doIfItCanBe 14 = .ok (.iload_n 1, 1) := by decide +kernel
theorem dX2_doIfItCanBe_15 : decode cX2_doIfItCanBe 15 = .ok (.iconst 1, 1) := by decide +kernel
theorem dX2_doIfItCanBe_16 : decode cX2_doIfItCanBe 16 = .ok (.if_icmp .ne 18, 3) := by decide +kernel
theorem dX2_doIfItCanBe_19 : decode cX2_doIfItCanBe 19 = .ok (.aload_n 0, 1) := by decide +kernel
theorem dX2_doIfItCanBe_20 : decode cX2_doIfItCanBe 20 = .ok (.iload_n 2, 1) := by decide +kernel
theorem dX2_doIfItCanBe_21 : decode cX2_doIfItCanBe 21 = .ok (.invokevirtual 136, 3) := by decide +kernel
theorem dX2_doIfItCanBe_24 : decode cX2_doIfItCanBe 24 = .ok (.ifCond .eq 10, 3) := by decide +kernel
theorem dX2_doIfItCanBe_27 : decode cX2_doIfItCanBe 27 = .ok (.aload_n 0, 1) := by decide +kernel
theorem dX2_doIfItCanBe_28 : decode cX2_doIfItCanBe 28 = .ok (.iload_n 2, 1) := by decide +kernel
theorem dX2_doIfItCanBe_29 : decode cX2_doIfItCanBe 29 = .ok (.invokevirtual 116, 3) := by decide +kernel
theorem dX2_doIfItCanBe_32 : decode cX2_doIfItCanBe 32 = .ok (.iconst 1, 1) := by decide +kernel
theorem dX2_doIfItCanBe_33 : decode cX2_doIfItCanBe 33 = .ok (.ireturn, 1) := by decide +kernel
theorem dX2_doIfItCanBe_34 : decode cX2_doIfItCanBe 34 = .ok (.iload_n 1, 1) := by decide +kernel
theorem dX2_doIfItCanBe_35 : decode cX2_doIfItCanBe 35 = .ok (.iconst 2, 1) := by decide +kernel
theorem dX2_doIfItCanBe_36 : decode cX2_doIfItCanBe 36 = .ok (.if_icmp .ne 18, 3) := by decide +kernel
theorem dX2_doIfItCanBe_39 : decode cX2_doIfItCanBe 39 = .ok (.aload_n 0, 1) := by decide +kernel
theorem dX2_doIfItCanBe_40 : decode cX2_doIfItCanBe 40 = .ok (.iload_n 2, 1) := by decide +kernel
theorem dX2_doIfItCanBe_41 : decode cX2_doIfItCanBe 41 = .ok (.invokevirtual 139, 3) := by decide +kernel
theorem dX2_doIfItCanBe_44 : decode cX2_doIfItCanBe 44 = .ok (.ifCond .eq 10, 3) := by decide +kernel
theorem dX2_doIfItCanBe_47 : decode cX2_doIfItCanBe 47 = .ok (.aload_n 0, 1) := by decide +kernel
theorem dX2_doIfItCanBe_48 : decode cX2_doIfItCanBe 48 = .ok (.iload_n 2, 1) := by decide +kernel
theorem dX2_doIfItCanBe_49 : decode cX2_doIfItCanBe 49 = .ok (.invokevirtual 142, 3) := by decide +kernel
theorem dX2_doIfItCanBe_52 : decode cX2_doIfItCanBe 52 = .ok (.iconst 1, 1) := by decide +kernel
theorem dX2_doIfItCanBe_53 : decode cX2_doIfItCanBe 53 = .ok (.ireturn, 1) := by decide +kernel
theorem dX2_doIfItCanBe_54 : decode cX2_doIfItCanBe 54 = .ok (.iload_n 1, 1) := by decide +kernel
theorem dX2_doIfItCanBe_55 : decode cX2_doIfItCanBe 55 = .ok (.iconst 3, 1) := by decide +kernel
theorem dX2_doIfItCanBe_56 : decode cX2_doIfItCanBe 56 = .ok (.if_icmp .ne 29, 3) := by decide +kernel
theorem dX2_doIfItCanBe_59 : decode cX2_doIfItCanBe 59 = .ok (.iload_n 2, 1) := by decide +kernel
theorem dX2_doIfItCanBe_60 : decode cX2_doIfItCanBe 60 = .ok (.invokestatic 145, 3) := by decide +kernel
theorem dX2_doIfItCanBe_63 : decode cX2_doIfItCanBe 63 = .ok (.ifCond .eq 22, 3) := by decide +kernel
theorem dX2_doIfItCanBe_66 : decode cX2_doIfItCanBe 66 = .ok (.iload_n 2, 1) := by decide +kernel
theorem dX2_doIfItCanBe_67 : decode cX2_doIfItCanBe 67 = .ok (.aload_n 0, 1) := by decide +kernel
theorem dX2_doIfItCanBe_68 : decode cX2_doIfItCanBe 68 = .ok (.getfield 21, 3) := by decide +kernel
theorem dX2_doIfItCanBe_71 : decode cX2_doIfItCanBe 71 = .ok (.if_icmp .eq 14, 3) := by decide +kernel
theorem dX2_doIfItCanBe_74 : decode cX2_doIfItCanBe 74 = .ok (.aload_n 0, 1) := by decide +kernel
theorem dX2_doIfItCanBe_75 : decode cX2_doIfItCanBe 75 = .ok (.iload_n 2, 1) := by decide +kernel
theorem dX2_doIfItCanBe_76 : decode cX2_doIfItCanBe 76 = .ok (.aload_n 0, 1) := by decide +kernel
theorem dX2_doIfItCanBe_77 : decode cX2_doIfItCanBe 77 = .ok (.getfield 24, 3) := by decide +kernel
theorem dX2_doIfItCanBe_80 : decode cX2_doIfItCanBe 80 = .ok (.invokevirtual 148, 3) := by decide +kernel
theorem dX2_doIfItCanBe_83 : decode cX2_doIfItCanBe 83 = .ok (.iconst 1, 1) := by decide +kernel
theorem dX2_doIfItCanBe_84 : decode cX2_doIfItCanBe 84 = .ok (.ireturn, 1) := by decide +kernel
theorem dX2_doIfItCanBe_85 : decode cX2_doIfItCanBe 85 = .ok (.iconst 0, 1) := by decide +kernel
theorem dX2_doIfItCanBe_86 : decode cX2_doIfItCanBe 86 = .ok (.ireturn, 1) := by decide +kernel
theorem dX2_staredByAll_0 : decode cX2_staredByAll 0 = .ok (.iconst 0, 1) := by decide +kernel
theorem dX2_staredByAll_1 : decode cX2_staredByAll 1 = .ok (.istore_n 1, 1) := by decide +kernel
theorem dX2_staredByAll_2 : decode cX2_staredByAll 2 = .ok (.iconst 0, 1) := by decide +kernel
theorem dX2_staredByAll_3 : decode cX2_staredByAll 3 = .ok (.istore_n 2, 1) := by decide +kernel
theorem dX2_staredByAll_4 : decode cX2_staredByAll 4 = .ok (.iload_n 2, 1) := by decide +kernel
theorem dX2_staredByAll_5 : decode cX2_staredByAll 5 = .ok (.iconst 5, 1) := by decide +kernel
theorem dX2_staredByAll_6 : decode cX2_staredByAll 6 = .ok (.if_icmp .ge 33, 3) := by decide +kernel
theorem dX2_staredByAll_9 : decode cX2_staredByAll 9 = .ok (.iload_n 1, 1) := by decide +kernel
theorem dX2_staredByAll_10 : decode cX2_staredByAll 10 = .ok (.aload_n 0, 1) := by decide +kernel
theorem dX2_staredByAll_11 : decode cX2_staredByAll 11 = .ok (.getfield 9, 3) := by decide +kernel
theorem dX2_staredByAll_14 : decode cX2_staredByAll 14 = .ok (.iload_n 2, 1) := by decide +kernel
theorem dX2_staredByAll_15 : decode cX2_staredByAll 15 = .ok (.invokestatic 70, 3) := by decide +kernel
theorem dX2_staredByAll_18 : decode cX2_staredByAll 18 = .ok (.ifCond .eq 12, 3) := by decide +kernel
theorem dX2_staredByAll_21 : decode cX2_staredByAll 21 = .ok (.aload_n 0, 1) := by decide +kernel
theorem dX2_staredByAll_22 : decode cX2_staredByAll 22 = .ok (.getfield 43, 3) := by decide +kernel
theorem dX2_staredByAll_25 : decode cX2_staredByAll 25 = .ok (.iload_n 2, 1) := by decide +kernel
theorem dX2_staredByAll_26 : decode cX2_staredByAll 26 = .ok (.iaload, 1) := by decide +kernel
theorem dX2_staredByAll_27 : decode cX2_staredByAll 27 = .ok (.goto 4, 3) := by decide +kernel
theorem dX2_staredByAll_30 : decode cX2_staredByAll 30 = .ok (.iconst 0, 1) := by decide +kernel
theorem dX2_staredByAll_31 : decode cX2_staredByAll 31 = .ok (.iadd, 1) := by decide +kernel
theorem dX2_staredByAll_32 : decode cX2_staredByAll 32 = .ok (.istore_n 1, 1) := by decide +kernel
theorem dX2_staredByAll_33 : decode cX2_staredByAll 33 = .ok (.iinc 2 1, 3) := by decide +kernel
theorem dX2_staredByAll_36 : decode cX2_staredByAll 36 = .ok (.goto (-32), 3) := by decide +kernel
theorem dX2_staredByAll_39 : decode cX2_staredByAll 39 = .ok (.iload_n 1, 1) := by decide +kernel
theorem dX2_staredByAll_40 : decode cX2_staredByAll 40 = .ok (.ireturn, 1) := by decide +kernel
theorem dX2_gap_0 : decode cX2_gap 0 = .ok (.bipush (-9), 2) := by decide +kernel
theorem dX2_gap_2 : decode cX2_gap 2 = .ok (.istore_n 1, 1) := by decide +kernel
theorem dX2_gap_3 : decode cX2_gap 3 = .ok (.bipush (-9), 2) := by decide +kernel
theorem dX2_gap_5 : decode cX2_gap 5 = .ok (.istore_n 2, 1) := by decide +kernel
theorem dX2_gap_6 : decode cX2_gap 6 = .ok (.iconst 0, 1) := by decide +kernel
theorem dX2_gap_7 : decode cX2_gap 7 = .ok (.istore_n 3, 1) := by decide +kernel
theorem dX2_gap_8 : decode cX2_gap 8 = .ok (.iload_n 3, 1) := by decide +kernel
theorem dX2_gap_9 : decode cX2_gap 9 = .ok (.iconst 5, 1) := by decide +kernel
theorem dX2_gap_10 : decode cX2_gap 10 = .ok (.if_icmp .ge 57, 3) := by decide +kernel
theorem dX2_gap_13 : decode cX2_gap 13 = .ok (.aload_n 0, 1) := by decide +kernel
theorem dX2_gap_14 : decode cX2_gap 14 = .ok (.getfield 9, 3) := by decide +kernel
theorem dX2_gap_17 : decode cX2_gap 17 = .ok (.iload_n 3, 1) := by decide +kernel
theorem dX2_gap_18 : decode cX2_gap 18 = .ok (.invokestatic 70, 3) := by decide +kernel
theorem dX2_gap_21 : decode cX2_gap 21 = .ok (.ifCond .eq 40, 3) := by decide +kernel
theorem dX2_gap_24 : decode cX2_gap 24 = .ok (.iload_n 1, 1) := by decide +kernel
theorem dX2_gap_25 : decode cX2_gap 25 = .ok (.aload_n 0, 1) := by decide +kernel
theorem dX2_gap_26 : decode cX2_gap 26 = .ok (.getfield 40, 3) := by decide +kernel
theorem dX2_gap_29 : decode cX2_gap 29 = .ok (.iload_n 3, 1) := by decide +kernel
theorem dX2_gap_30 : decode cX2_gap 30 = .ok (.iaload, 1) := by decide +kernel
theorem dX2_gap_31 : decode cX2_gap 31 = .ok (.invokestatic 119, 3) := by decide +kernel
theorem dX2_gap_34 : decode cX2_gap 34 = .ok (.istore_n 1, 1) := by decide +kernel
theorem dX2_gap_35 : decode cX2_gap 35 = .ok (.iload_n 2, 1) := by decide +kernel
theorem dX2_gap_36 : decode cX2_gap 36 = .ok (.bipush (-9), 2) := by decide +kernel
theorem dX2_gap_38 : decode cX2_gap 38 = .ok (.if_icmp .ne 12, 3) := by decide +kernel
theorem dX2_gap_41 : decode cX2_gap 41 = .ok (.aload_n 0, 1) := by decide +kernel
theorem dX2_gap_42 : decode cX2_gap 42 = .ok (.getfield 40, 3) := by decide +kernel
theorem dX2_gap_45 : decode cX2_gap 45 = .ok (.iload_n 3, 1) := by decide +kernel
theorem dX2_gap_46 : decode cX2_gap 46 = .ok (.iaload, 1) := by decide +kernel
theorem dX2_gap_47 : decode cX2_gap 47 = .ok (.goto 13, 3) := by decide +kernel
theorem dX2_gap_50 : decode cX2_gap 50 = .ok (.iload_n 2, 1) := by decide +kernel
theorem dX2_gap_51 : decode cX2_gap 51 = .ok (.aload_n 0, 1) := by decide +kernel
theorem dX2_gap_52 : decode cX2_gap 52 = .ok (.getfield 40, 3) := by decide +kernel
theorem dX2_gap_55 : decode cX2_gap 55 = .ok (.iload_n 3, 1) := by decide +kernel
theorem dX2_gap_56 : decode cX2_gap 56 = .ok (.iaload, 1) := by decide +kernel
theorem dX2_gap_57 : decode cX2_gap 57 = .ok (.invokestatic 124, 3) := by decide +kernel
theorem dX2_gap_60 : decode cX2_gap 60 = .ok (.istore_n 2, 1) := by decide +kernel
theorem dX2_gap_61 : decode cX2_gap 61 = .ok (.iinc 3 1, 3) := by decide +kernel
theorem dX2_gap_64 : decode cX2_gap 64 = .ok (.goto (-56), 3) := by decide +kernel
theorem dX2_gap_67 : decode cX2_gap 67 = .ok (.iload_n 1, 1) := by decide +kernel
theorem dX2_gap_68 : decode cX2_gap 68 = .ok (.iload_n 2, 1) := by decide +kernel
theorem dX2_gap_69 : decode cX2_gap 69 = .ok (.isub, 1) := by decide +kernel
theorem dX2_gap_70 : decode cX2_gap 70 = .ok (.ireturn, 1) := by decide +kernel
theorem dX2_neverRidden_0 : decode cX2_neverRidden 0 = .ok (.iconst 0, 1) := by decide +kernel
theorem dX2_neverRidden_1 : decode cX2_neverRidden 1 = .ok (.istore_n 1, 1) := by decide +kernel
theorem dX2_neverRidden_2 : decode cX2_neverRidden 2 = .ok (.iconst 0, 1) := by decide +kernel
theorem dX2_neverRidden_3 : decode cX2_neverRidden 3 = .ok (.istore_n 2, 1) := by decide +kernel
theorem dX2_neverRidden_4 : decode cX2_neverRidden 4 = .ok (.iload_n 2, 1) := by decide +kernel
theorem dX2_neverRidden_5 : decode cX2_neverRidden 5 = .ok (.iconst 5, 1) := by decide +kernel
theorem dX2_neverRidden_6 : decode cX2_neverRidden 6 = .ok (.if_icmp .ge 24, 3) := by decide +kernel
theorem dX2_neverRidden_9 : decode cX2_neverRidden 9 = .ok (.aload_n 0, 1) := by decide +kernel
theorem dX2_neverRidden_10 : decode cX2_neverRidden 10 = .ok (.getfield 40, 3) := by decide +kernel
theorem dX2_neverRidden_13 : decode cX2_neverRidden 13 = .ok (.iload_n 2, 1) := by decide +kernel
theorem dX2_neverRidden_14 : decode cX2_neverRidden 14 = .ok (.iaload, 1) := by decide +kernel
theorem dX2_neverRidden_15 : decode cX2_neverRidden 15 = .ok (.ifCond .ne 9, 3) := by decide +kernel
theorem dX2_neverRidden_18 : decode cX2_neverRidden 18 = .ok (.iload_n 1, 1) := by decide +kernel
theorem dX2_neverRidden_19 : decode cX2_neverRidden 19 = .ok (.iconst 1, 1) := by decide +kernel
theorem dX2_neverRidden_20 : decode cX2_neverRidden 20 = .ok (.iload_n 2, 1) := by decide +kernel
theorem dX2_neverRidden_21 : decode cX2_neverRidden 21 = .ok (.ishl, 1) := by decide +kernel
theorem dX2_neverRidden_22 : decode cX2_neverRidden 22 = .ok (.ior, 1) := by decide +kernel
theorem dX2_neverRidden_23 : decode cX2_neverRidden 23 = .ok (.istore_n 1, 1) := by decide +kernel
theorem dX2_neverRidden_24 : decode cX2_neverRidden 24 = .ok (.iinc 2 1, 3) := by decide +kernel
theorem dX2_neverRidden_27 : decode cX2_neverRidden 27 = .ok (.goto (-23), 3) := by decide +kernel
theorem dX2_neverRidden_30 : decode cX2_neverRidden 30 = .ok (.iload_n 1, 1) := by decide +kernel
theorem dX2_neverRidden_31 : decode cX2_neverRidden 31 = .ok (.aload_n 0, 1) := by decide +kernel
theorem dX2_neverRidden_32 : decode cX2_neverRidden 32 = .ok (.getfield 9, 3) := by decide +kernel
theorem dX2_neverRidden_35 : decode cX2_neverRidden 35 = .ok (.iand, 1) := by decide +kernel
theorem dX2_neverRidden_36 : decode cX2_neverRidden 36 = .ok (.ireturn, 1) := by decide +kernel
