theorem dX5_init_0 : decode cX5_init 0 = .ok (.aload_n 0, 1) := by decide +kernel
theorem dX5_init_1 : decode cX5_init 1 = .ok (.invokespecial 3, 3) := by decide +kernel
theorem dX5_init_4 : decode cX5_init 4 = .ok (.aload_n 0, 1) := by decide +kernel
theorem dX5_init_5 : decode cX5_init 5 = .ok (.bipush 32, 2) := by decide +kernel
theorem dX5_init_7 : decode cX5_init 7 = .ok (.newarray .int, 2) := by decide +kernel
theorem dX5_init_9 : decode cX5_init 9 = .ok (.putfield 9, 3) := by decide +kernel
theorem dX5_init_12 : decode cX5_init 12 = .ok (.aload_n 0, 1) := by decide +kernel
theorem dX5_init_13 : decode cX5_init 13 = .ok (.iconst 0, 1) := by decide +kernel
theorem dX5_init_14 : decode cX5_init 14 = .ok (.putfield 15, 3) := by decide +kernel
theorem dX5_init_17 : decode cX5_init 17 = .ok (.return_, 1) := by decide +kernel
theorem dX5_append_0 : decode cX5_append 0 = .ok (.aload_n 0, 1) := by decide +kernel
theorem dX5_append_1 : decode cX5_append 1 = .ok (.getfield 15, 3) := by decide +kernel
theorem dX5_append_4 : decode cX5_append 4 = .ok (.bipush 32, 2) := by decide +kernel
theorem dX5_append_6 : decode cX5_append 6 = .ok (.if_icmp .ge 23, 3) := by decide +kernel
theorem dX5_append_9 : decode cX5_append 9 = .ok (.aload_n 0, 1) := by decide +kernel
theorem dX5_append_10 : decode cX5_append 10 = .ok (.getfield 9, 3) := by decide +kernel
theorem dX5_append_13 : decode cX5_append 13 = .ok (.aload_n 0, 1) := by decide +kernel
theorem dX5_append_14 : decode cX5_append 14 = .ok (.getfield 15, 3) := by decide +kernel
theorem dX5_append_17 : decode cX5_append 17 = .ok (.iload_n 1, 1) := by decide +kernel
theorem dX5_append_18 : decode cX5_append 18 = .ok (.iastore, 1) := by decide +kernel
theorem dX5_append_19 : decode cX5_append 19 = .ok (.aload_n 0, 1) := by decide +kernel
theorem dX5_append_20 : decode cX5_append 20 = .ok (.dup, 1) := by decide +kernel
theorem dX5_append_21 : decode cX5_append 21 = .ok (.getfield 15, 3) := by decide +kernel
theorem dX5_append_24 : decode cX5_append 24 = .ok (.iconst 1, 1) := by decide +kernel
theorem dX5_append_25 : decode cX5_append 25 = .ok (.iadd, 1) := by decide +kernel
theorem dX5_append_26 : decode cX5_append 26 = .ok (.putfield 15, 3) := by decide +kernel
theorem dX5_append_29 : decode cX5_append 29 = .ok (.return_, 1) := by decide +kernel
theorem dX5_faultPlace_0 : decode cX5_faultPlace 0 = .ok (.iconst 0, 1) := by decide +kernel
theorem dX5_faultPlace_1 : decode cX5_faultPlace 1 = .ok (.istore_n 1, 1) := by decide +kernel
theorem dX5_faultPlace_2 : decode cX5_faultPlace 2 = .ok (.iload_n 1, 1) := by decide +kernel
theorem dX5_faultPlace_3 : decode cX5_faultPlace 3 = .ok (.aload_n 0, 1) := by decide +kernel
theorem dX5_faultPlace_4 : decode cX5_faultPlace 4 = .ok (.getfield 15, 3) := by decide +kernel
theorem dX5_faultPlace_7 : decode cX5_faultPlace 7 = .ok (.if_icmp .ge 24, 3) := by decide +kernel
theorem dX5_faultPlace_10 : decode cX5_faultPlace 10 = .ok (.iload_n 1, 1) := by decide +kernel
theorem dX5_faultPlace_11 : decode cX5_faultPlace 11 = .ok (.aload_n 0, 1) := by decide +kernel
theorem dX5_faultPlace_12 : decode cX5_faultPlace 12 = .ok (.getfield 9, 3) := by decide +kernel
theorem dX5_faultPlace_15 : decode cX5_faultPlace 15 = .ok (.iload_n 1, 1) := by decide +kernel
theorem dX5_faultPlace_16 : decode cX5_faultPlace 16 = .ok (.iaload, 1) := by decide +kernel
theorem dX5_faultPlace_17 : decode cX5_faultPlace 17 = .ok (.invokestatic 19, 3) := by decide +kernel
theorem dX5_faultPlace_20 : decode cX5_faultPlace 20 = .ok (.ifCond .ne 5, 3) := by decide +kernel
theorem dX5_faultPlace_23 : decode cX5_faultPlace 23 = .ok (.iload_n 1, 1) := by decide +kernel
theorem dX5_faultPlace_24 : decode cX5_faultPlace 24 = .ok (.ireturn, 1) := by decide +kernel
theorem dX5_faultPlace_25 : decode cX5_faultPlace 25 = .ok (.iinc 1 1, 3) := by decide +kernel
theorem dX5_faultPlace_28 : decode cX5_faultPlace 28 = .ok (.goto (-26), 3) := by decide +kernel
theorem dX5_faultPlace_31 : decode cX5_faultPlace 31 = .ok (.aload_n 0, 1) := by decide +kernel
theorem dX5_faultPlace_32 : decode cX5_faultPlace 32 = .ok (.getfield 15, 3) := by decide +kernel
theorem dX5_faultPlace_35 : decode cX5_faultPlace 35 = .ok (.iconst 4, 1) := by decide +kernel
theorem dX5_faultPlace_36 : decode cX5_faultPlace 36 = .ok (.if_icmp .lt 18, 3) := by decide +kernel
theorem dX5_faultPlace_39 : decode cX5_faultPlace 39 = .ok (.aload_n 0, 1) := by decide +kernel
theorem dX5_faultPlace_40 : decode cX5_faultPlace 40 = .ok (.getfield 15, 3) := by decide +kernel
theorem dX5_faultPlace_43 : decode cX5_faultPlace 43 = .ok (.iconst 4, 1) := by decide +kernel
theorem dX5_faultPlace_44 : decode cX5_faultPlace 44 = .ok (.isub, 1) := by decide +kernel
theorem dX5_faultPlace_45 : decode cX5_faultPlace 45 = .ok (.iconst 4, 1) := by decide +kernel
theorem dX5_faultPlace_46 : decode cX5_faultPlace 46 = .ok (.irem, 1) := by decide +kernel
theorem dX5_faultPlace_47 : decode cX5_faultPlace 47 = .ok (.ifCond .ne 7, 3) := by decide +kernel
theorem dX5_faultPlace_50 : decode cX5_faultPlace 50 = .ok (.iconst 1, 1) := by decide +kernel
theorem dX5_faultPlace_51 : decode cX5_faultPlace 51 = .ok (.goto 4, 3) := by decide +kernel
theorem dX5_faultPlace_54 : decode cX5_faultPlace 54 = .ok (.iconst 0, 1) := by decide +kernel
theorem dX5_faultPlace_55 : decode cX5_faultPlace 55 = .ok (.istore_n 1, 1) := by decide +kernel
theorem dX5_faultPlace_56 : decode cX5_faultPlace 56 = .ok (.iload_n 1, 1) := by decide +kernel
theorem dX5_faultPlace_57 : decode cX5_faultPlace 57 = .ok (.ifCond .eq 8, 3) := by decide +kernel
theorem dX5_faultPlace_60 : decode cX5_faultPlace 60 = .ok (.bipush (-9), 2) := by decide +kernel
theorem dX5_faultPlace_62 : decode cX5_faultPlace 62 = .ok (.goto 7, 3) := by decide +kernel
theorem dX5_faultPlace_65 : decode cX5_faultPlace 65 = .ok (.aload_n 0, 1) := by decide +kernel
theorem dX5_faultPlace_66 : decode cX5_faultPlace 66 = .ok (.getfield 15, 3) := by decide +kernel
theorem dX5_faultPlace_69 : decode cX5_faultPlace 69 = .ok (.ireturn, 1) := by decide +kernel
theorem dX5_fits_0 : decode cX5_fits 0 = .ok (.iload_n 0, 1) := by decide +kernel
theorem dX5_fits_1 : decode cX5_fits 1 = .ok (.tableswitch 65 0 3 #[31, 43, 50, 58], 31) := by decide +kernel
theorem dX5_fits_32 : decode cX5_fits 32 = .ok (.iload_n 1, 1) := by decide +kernel
theorem dX5_fits_33 : decode cX5_fits 33 = .ok (.bipush 84, 2) := by decide +kernel
theorem dX5_fits_35 : decode cX5_fits 35 = .ok (.if_icmp .ne 7, 3) := by decide +kernel
theorem dX5_fits_38 : decode cX5_fits 38 = .ok (.iconst 1, 1) := by decide +kernel
theorem dX5_fits_39 : decode cX5_fits 39 = .ok (.goto 4, 3) := by decide +kernel
theorem dX5_fits_42 : decode cX5_fits 42 = .ok (.iconst 0, 1) := by decide +kernel
theorem dX5_fits_43 : decode cX5_fits 43 = .ok (.ireturn, 1) := by decide +kernel
theorem dX5_fits_44 : decode cX5_fits 44 = .ok (.iload_n 1, 1) := by decide +kernel
theorem dX5_fits_45 : decode cX5_fits 45 = .ok (.iconst 0, 1) := by decide +kernel
theorem dX5_fits_46 : decode cX5_fits 46 = .ok (.iconst 3, 1) := by decide +kernel
theorem dX5_fits_47 : decode cX5_fits 47 = .ok (.invokestatic 23, 3) := by decide +kernel
theorem dX5_fits_50 : decode cX5_fits 50 = .ok (.ireturn, 1) := by decide +kernel
theorem dX5_fits_51 : decode cX5_fits 51 = .ok (.iload_n 1, 1) := by decide +kernel
theorem dX5_fits_52 : decode cX5_fits 52 = .ok (.iconst 1, 1) := by decide +kernel
theorem dX5_fits_53 : decode cX5_fits 53 = .ok (.bipush 9, 2) := by decide +kernel
theorem dX5_fits_55 : decode cX5_fits 55 = .ok (.invokestatic 23, 3) := by decide +kernel
theorem dX5_fits_58 : decode cX5_fits 58 = .ok (.ireturn, 1) := by decide +kernel
theorem dX5_fits_59 : decode cX5_fits 59 = .ok (.iload_n 1, 1) := by decide +kernel
theorem dX5_fits_60 : decode cX5_fits 60 = .ok (.iconst 1, 1) := by decide +kernel
theorem dX5_fits_61 : decode cX5_fits 61 = .ok (.iconst 2, 1) := by decide +kernel
theorem dX5_fits_62 : decode cX5_fits 62 = .ok (.invokestatic 23, 3) := by decide +kernel
theorem dX5_fits_65 : decode cX5_fits 65 = .ok (.ireturn, 1) := by decide +kernel
theorem dX5_fits_66 : decode cX5_fits 66 = .ok (.iload_n 0, 1) := by decide +kernel
theorem dX5_fits_67 : decode cX5_fits 67 = .ok (.bipush 24, 2) := by decide +kernel
theorem dX5_fits_69 : decode cX5_fits 69 = .ok (.if_icmp .ge 19, 3) := by decide +kernel
theorem dX5_fits_72 : decode cX5_fits 72 = .ok (.iload_n 0, 1) := by decide +kernel
theorem dX5_fits_73 : decode cX5_fits 73 = .ok (.iconst 4, 1) := by decide +kernel
theorem dX5_fits_74 : decode cX5_fits 74 = .ok (.isub, 1) := by decide +kernel
theorem dX5_fits_75 : decode cX5_fits 75 = .ok (.iconst 4, 1) := by decide +kernel
theorem dX5_fits_76 : decode cX5_fits 76 = .ok (.irem, 1) := by decide +kernel
theorem dX5_fits_77 : decode cX5_fits 77 = .ok (.iload_n 1, 1) := by decide +kernel
theorem dX5_fits_78 : decode cX5_fits 78 = .ok (.invokestatic 27, 3) := by decide +kernel
theorem dX5_fits_81 : decode cX5_fits 81 = .ok (.ifCond .eq 7, 3) := by decide +kernel
theorem dX5_fits_84 : decode cX5_fits 84 = .ok (.iconst 1, 1) := by decide +kernel
theorem dX5_fits_85 : decode cX5_fits 85 = .ok (.goto 4, 3) := by decide +kernel
theorem dX5_fits_88 : decode cX5_fits 88 = .ok (.iconst 0, 1) := by decide +kernel
theorem dX5_fits_89 : decode cX5_fits 89 = .ok (.ireturn, 1) := by decide +kernel
theorem dX5_fitsChild_0 : decode cX5_fitsChild 0 = .ok (.iload_n 0, 1) := by decide +kernel
theorem dX5_fitsChild_1 : decode cX5_fitsChild 1 = .ok (.tableswitch 55 0 2 #[27, 39, 47], 27) := by decide +kernel
theorem dX5_fitsChild_28 : decode cX5_fitsChild 28 = .ok (.iload_n 1, 1) := by decide +kernel
theorem dX5_fitsChild_29 : decode cX5_fitsChild 29 = .ok (.bipush 67, 2) := by decide +kernel
theorem dX5_fitsChild_31 : decode cX5_fitsChild 31 = .ok (.if_icmp .ne 7, 3) := by decide +kernel
theorem dX5_fitsChild_34 : decode cX5_fitsChild 34 = .ok (.iconst 1, 1) := by decide +kernel
theorem dX5_fitsChild_35 : decode cX5_fitsChild 35 = .ok (.goto 4, 3) := by decide +kernel
theorem dX5_fitsChild_38 : decode cX5_fitsChild 38 = .ok (.iconst 0, 1) := by decide +kernel
theorem dX5_fitsChild_39 : decode cX5_fitsChild 39 = .ok (.ireturn, 1) := by decide +kernel
theorem dX5_fitsChild_40 : decode cX5_fitsChild 40 = .ok (.iload_n 1, 1) := by decide +kernel
theorem dX5_fitsChild_41 : decode cX5_fitsChild 41 = .ok (.iconst 0, 1) := by decide +kernel
theorem dX5_fitsChild_42 : decode cX5_fitsChild 42 = .ok (.bipush 9, 2) := by decide +kernel
theorem dX5_fitsChild_44 : decode cX5_fitsChild 44 = .ok (.invokestatic 23, 3) := by decide +kernel
theorem dX5_fitsChild_47 : decode cX5_fitsChild 47 = .ok (.ireturn, 1) := by decide +kernel
theorem dX5_fitsChild_48 : decode cX5_fitsChild 48 = .ok (.iload_n 1, 1) := by decide +kernel
theorem dX5_fitsChild_49 : decode cX5_fitsChild 49 = .ok (.iconst 1, 1) := by decide +kernel
theorem dX5_fitsChild_50 : decode cX5_fitsChild 50 = .ok (.bipush 9, 2) := by decide +kernel
theorem dX5_fitsChild_52 : decode cX5_fitsChild 52 = .ok (.invokestatic 23, 3) := by decide +kernel
theorem dX5_fitsChild_55 : decode cX5_fitsChild 55 = .ok (.ireturn, 1) := by decide +kernel
theorem dX5_fitsChild_56 : decode cX5_fitsChild 56 = .ok (.iload_n 1, 1) := by decide +kernel
theorem dX5_fitsChild_57 : decode cX5_fitsChild 57 = .ok (.iconst 0, 1) := by decide +kernel
theorem dX5_fitsChild_58 : decode cX5_fitsChild 58 = .ok (.iconst 3, 1) := by decide +kernel
theorem dX5_fitsChild_59 : decode cX5_fitsChild 59 = .ok (.invokestatic 23, 3) := by decide +kernel
theorem dX5_fitsChild_62 : decode cX5_fitsChild 62 = .ok (.ireturn, 1) := by decide +kernel
theorem dX5_isFigure_0 : decode cX5_isFigure 0 = .ok (.iload_n 0, 1) := by decide +kernel
theorem dX5_isFigure_1 : decode cX5_isFigure 1 = .ok (.bipush 48, 2) := by decide +kernel
theorem dX5_isFigure_3 : decode cX5_isFigure 3 = .ok (.iload_n 1, 1) := by decide +kernel
theorem dX5_isFigure_4 : decode cX5_isFigure 4 = .ok (.iadd, 1) := by decide +kernel
theorem dX5_isFigure_5 : decode cX5_isFigure 5 = .ok (.if_icmp .lt 15, 3) := by decide +kernel
theorem dX5_isFigure_8 : decode cX5_isFigure 8 = .ok (.iload_n 0, 1) := by decide +kernel
theorem dX5_isFigure_9 : decode cX5_isFigure 9 = .ok (.bipush 48, 2) := by decide +kernel
theorem dX5_isFigure_11 : decode cX5_isFigure 11 = .ok (.iload_n 2, 1) := by decide +kernel
theorem dX5_isFigure_12 : decode cX5_isFigure 12 = .ok (.iadd, 1) := by decide +kernel
theorem dX5_isFigure_13 : decode cX5_isFigure 13 = .ok (.if_icmp .gt 7, 3) := by decide +kernel
theorem dX5_isFigure_16 : decode cX5_isFigure 16 = .ok (.iconst 1, 1) := by decide +kernel
theorem dX5_isFigure_17 : decode cX5_isFigure 17 = .ok (.goto 4, 3) := by decide +kernel
theorem dX5_isFigure_20 : decode cX5_isFigure 20 = .ok (.iconst 0, 1) := by decide +kernel
theorem dX5_isFigure_21 : decode cX5_isFigure 21 = .ok (.ireturn, 1) := by decide +kernel
theorem dX5_figure_0 : decode cX5_figure 0 = .ok (.iload_n 1, 1) := by decide +kernel
theorem dX5_figure_1 : decode cX5_figure 1 = .ok (.ifCond .lt 23, 3) := by decide +kernel
theorem dX5_figure_4 : decode cX5_figure 4 = .ok (.iload_n 1, 1) := by decide +kernel
theorem dX5_figure_5 : decode cX5_figure 5 = .ok (.aload_n 0, 1) := by decide +kernel
theorem dX5_figure_6 : decode cX5_figure 6 = .ok (.getfield 15, 3) := by decide +kernel
theorem dX5_figure_9 : decode cX5_figure 9 = .ok (.if_icmp .ge 15, 3) := by decide +kernel
theorem dX5_figure_12 : decode cX5_figure 12 = .ok (.aload_n 0, 1) := by decide +kernel
theorem dX5_figure_13 : decode cX5_figure 13 = .ok (.getfield 9, 3) := by decide +kernel
theorem dX5_figure_16 : decode cX5_figure 16 = .ok (.iload_n 1, 1) := by decide +kernel
theorem dX5_figure_17 : decode cX5_figure 17 = .ok (.iaload, 1) := by decide +kernel
theorem dX5_figure_18 : decode cX5_figure 18 = .ok (.bipush 48, 2) := by decide +kernel
theorem dX5_figure_20 : decode cX5_figure 20 = .ok (.isub, 1) := by decide +kernel
theorem dX5_figure_21 : decode cX5_figure 21 = .ok (.goto 4, 3) := by decide +kernel
theorem dX5_figure_24 : decode cX5_figure 24 = .ok (.iconst 0, 1) := by decide +kernel
theorem dX5_figure_25 : decode cX5_figure 25 = .ok (.ireturn, 1) := by decide +kernel
theorem dX5_figureOfChild_0 : decode cX5_figureOfChild 0 = .ok (.aload_n 0, 1) := by decide +kernel
theorem dX5_figureOfChild_1 : decode cX5_figureOfChild 1 = .ok (.iconst 4, 1) := by decide +kernel
theorem dX5_figureOfChild_2 : decode cX5_figureOfChild 2 = .ok (.iconst 4, 1) := by decide +kernel
theorem dX5_figureOfChild_3 : decode cX5_figureOfChild 3 = .ok (.iload_n 1, 1) := by decide +kernel
theorem dX5_figureOfChild_4 : decode cX5_figureOfChild 4 = .ok (.imul, 1) := by decide +kernel
theorem dX5_figureOfChild_5 : decode cX5_figureOfChild 5 = .ok (.iadd, 1) := by decide +kernel
theorem dX5_figureOfChild_6 : decode cX5_figureOfChild 6 = .ok (.iload_n 2, 1) := by decide +kernel
theorem dX5_figureOfChild_7 : decode cX5_figureOfChild 7 = .ok (.iadd, 1) := by decide +kernel
theorem dX5_figureOfChild_8 : decode cX5_figureOfChild 8 = .ok (.invokevirtual 30, 3) := by decide +kernel
theorem dX5_figureOfChild_11 : decode cX5_figureOfChild 11 = .ok (.ireturn, 1) := by decide +kernel
theorem dX5_countChildren_0 : decode cX5_countChildren 0 = .ok (.iconst 0, 1) := by decide +kernel
theorem dX5_countChildren_1 : decode cX5_countChildren 1 = .ok (.iconst 5, 1) := by decide +kernel
theorem dX5_countChildren_2 : decode cX5_countChildren 2 = .ok (.aload_n 0, 1) := by decide +kernel
theorem dX5_countChildren_3 : decode cX5_countChildren 3 = .ok (.getfield 15, 3) := by decide +kernel
theorem dX5_countChildren_6 : decode cX5_countChildren 6 = .ok (.iconst 4, 1) := by decide +kernel
theorem dX5_countChildren_7 : decode cX5_countChildren 7 = .ok (.isub, 1) := by decide +kernel
theorem dX5_countChildren_8 : decode cX5_countChildren 8 = .ok (.iconst 4, 1) := by decide +kernel
theorem dX5_countChildren_9 : decode cX5_countChildren 9 = .ok (.idiv, 1) := by decide +kernel
theorem dX5_countChildren_10 : decode cX5_countChildren 10 = .ok (.invokestatic 34, 3) := by decide +kernel
theorem dX5_countChildren_13 : decode cX5_countChildren 13 = .ok (.invokestatic 40, 3) := by decide +kernel
theorem dX5_countChildren_16 : decode cX5_countChildren 16 = .ok (.ireturn, 1) := by decide +kernel
