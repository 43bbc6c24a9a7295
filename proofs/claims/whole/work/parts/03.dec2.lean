theorem dX6_figure_50 : decode cX6_figure 50 = .ok (.iload_n 2, 1) := by decide +kernel
theorem dX6_figure_51 : decode cX6_figure 51 = .ok (.iadd, 1) := by decide +kernel
theorem dX6_figure_52 : decode cX6_figure 52 = .ok (.iaload, 1) := by decide +kernel
theorem dX6_figure_53 : decode cX6_figure 53 = .ok (.ireturn, 1) := by decide +kernel
theorem dX6_clock_0 : decode cX6_clock 0 = .ok (.aload_n 0, 1) := by decide +kernel
theorem dX6_clock_1 : decode cX6_clock 1 = .ok (.iconst 0, 1) := by decide +kernel
theorem dX6_clock_2 : decode cX6_clock 2 = .ok (.putfield 62, 3) := by decide +kernel
theorem dX6_clock_5 : decode cX6_clock 5 = .ok (.aload_n 0, 1) := by decide +kernel
theorem dX6_clock_6 : decode cX6_clock 6 = .ok (.iload_n 1, 1) := by decide +kernel
theorem dX6_clock_7 : decode cX6_clock 7 = .ok (.invokevirtual 196, 3) := by decide +kernel
theorem dX6_clock_10 : decode cX6_clock 10 = .ok (.ifCond .eq 5, 3) := by decide +kernel
theorem dX6_clock_13 : decode cX6_clock 13 = .ok (.iconst (-1), 1) := by decide +kernel
theorem dX6_clock_14 : decode cX6_clock 14 = .ok (.ireturn, 1) := by decide +kernel
theorem dX6_clock_15 : decode cX6_clock 15 = .ok (.aload_n 0, 1) := by decide +kernel
theorem dX6_clock_16 : decode cX6_clock 16 = .ok (.aload_n 0, 1) := by decide +kernel
theorem dX6_clock_17 : decode cX6_clock 17 = .ok (.getfield 16, 3) := by decide +kernel
theorem dX6_clock_20 : decode cX6_clock 20 = .ok (.invokevirtual 161, 3) := by decide +kernel
theorem dX6_clock_23 : decode cX6_clock 23 = .ok (.aload_n 0, 1) := by decide +kernel
theorem dX6_clock_24 : decode cX6_clock 24 = .ok (.getfield 114, 3) := by decide +kernel
theorem dX6_clock_27 : decode cX6_clock 27 = .ok (.bipush (-9), 2) := by decide +kernel
theorem dX6_clock_29 : decode cX6_clock 29 = .ok (.if_icmp .ne 11, 3) := by decide +kernel
theorem dX6_clock_32 : decode cX6_clock 32 = .ok (.aload_n 0, 1) := by decide +kernel
theorem dX6_clock_33 : decode cX6_clock 33 = .ok (.iload_n 1, 1) := by decide +kernel
theorem dX6_clock_34 : decode cX6_clock 34 = .ok (.invokevirtual 125, 3) := by decide +kernel
theorem dX6_clock_37 : decode cX6_clock 37 = .ok (.goto 4, 3) := by decide +kernel
theorem dX6_clock_40 : decode cX6_clock 40 = .ok (.iconst 0, 1) := by decide +kernel
theorem dX6_clock_41 : decode cX6_clock 41 = .ok (.istore_n 3, 1) := by decide +kernel
theorem dX6_clock_42 : decode cX6_clock 42 = .ok (.iload_n 2, 1) := by decide +kernel
theorem dX6_clock_43 : decode cX6_clock 43 = .ok (.i2l, 1) := by decide +kernel
theorem dX6_clock_44 : decode cX6_clock 44 = .ok (.lconst 0, 1) := by decide +kernel
theorem dX6_clock_45 : decode cX6_clock 45 = .ok (.iload_n 3, 1) := by decide +kernel
theorem dX6_clock_46 : decode cX6_clock 46 = .ok (.iconst 1, 1) := by decide +kernel
theorem dX6_clock_47 : decode cX6_clock 47 = .ok (.isub, 1) := by decide +kernel
theorem dX6_clock_48 : decode cX6_clock 48 = .ok (.i2l, 1) := by decide +kernel
theorem dX6_clock_49 : decode cX6_clock 49 = .ok (.invokestatic 66, 3) := by decide +kernel
theorem dX6_clock_52 : decode cX6_clock 52 = .ok (.ifCond .eq 16, 3) := by decide +kernel
theorem dX6_clock_55 : decode cX6_clock 55 = .ok (.aload_n 0, 1) := by decide +kernel
theorem dX6_clock_56 : decode cX6_clock 56 = .ok (.getfield 56, 3) := by decide +kernel
theorem dX6_clock_59 : decode cX6_clock 59 = .ok (.iload_n 3, 1) := by decide +kernel
theorem dX6_clock_60 : decode cX6_clock 60 = .ok (.iconst 1, 1) := by decide +kernel
theorem dX6_clock_61 : decode cX6_clock 61 = .ok (.isub, 1) := by decide +kernel
theorem dX6_clock_62 : decode cX6_clock 62 = .ok (.iload_n 2, 1) := by decide +kernel
theorem dX6_clock_63 : decode cX6_clock 63 = .ok (.isub, 1) := by decide +kernel
theorem dX6_clock_64 : decode cX6_clock 64 = .ok (.iaload, 1) := by decide +kernel
theorem dX6_clock_65 : decode cX6_clock 65 = .ok (.goto 4, 3) := by decide +kernel
theorem dX6_clock_68 : decode cX6_clock 68 = .ok (.iconst (-1), 1) := by decide +kernel
theorem dX6_clock_69 : decode cX6_clock 69 = .ok (.ireturn, 1) := by decide +kernel
theorem dX6_note_0 : decode cX6_note 0 = .ok (.aload_n 0, 1) := by decide +kernel
theorem dX6_note_1 : decode cX6_note 1 = .ok (.getfield 184, 3) := by decide +kernel
theorem dX6_note_4 : decode cX6_note 4 = .ok (.bipush 14, 2) := by decide +kernel
theorem dX6_note_6 : decode cX6_note 6 = .ok (.if_icmp .ne 43, 3) := by decide +kernel
theorem dX6_note_9 : decode cX6_note 9 = .ok (.iconst 0, 1) := by decide +kernel
theorem dX6_note_10 : decode cX6_note 10 = .ok (.istore_n 1, 1) := by decide +kernel
theorem dX6_note_11 : decode cX6_note 11 = .ok (.iload_n 1, 1) := by decide +kernel
theorem dX6_note_12 : decode cX6_note 12 = .ok (.sipush 650, 3) := by decide +kernel
theorem dX6_note_15 : decode cX6_note 15 = .ok (.if_icmp .ge 24, 3) := by decide +kernel
theorem dX6_note_18 : decode cX6_note 18 = .ok (.aload_n 0, 1) := by decide +kernel
theorem dX6_note_19 : decode cX6_note 19 = .ok (.getfield 22, 3) := by decide +kernel
theorem dX6_note_22 : decode cX6_note 22 = .ok (.iload_n 1, 1) := by decide +kernel
theorem dX6_note_23 : decode cX6_note 23 = .ok (.aload_n 0, 1) := by decide +kernel
theorem dX6_note_24 : decode cX6_note 24 = .ok (.getfield 22, 3) := by decide +kernel
theorem dX6_note_27 : decode cX6_note 27 = .ok (.iload_n 1, 1) := by decide +kernel
theorem dX6_note_28 : decode cX6_note 28 = .ok (.bipush 50, 2) := by decide +kernel
theorem dX6_note_30 : decode cX6_note 30 = .ok (.iadd, 1) := by decide +kernel
theorem dX6_note_31 : decode cX6_note 31 = .ok (.iaload, 1) := by decide +kernel
theorem dX6_note_32 : decode cX6_note 32 = .ok (.iastore, 1) := by decide +kernel
theorem dX6_note_33 : decode cX6_note 33 = .ok (.iinc 1 1, 3) := by decide +kernel
theorem dX6_note_36 : decode cX6_note 36 = .ok (.goto (-25), 3) := by decide +kernel
theorem dX6_note_39 : decode cX6_note 39 = .ok (.aload_n 0, 1) := by decide +kernel
theorem dX6_note_40 : decode cX6_note 40 = .ok (.dup, 1) := by decide +kernel
theorem dX6_note_41 : decode cX6_note 41 = .ok (.getfield 184, 3) := by decide +kernel
theorem dX6_note_44 : decode cX6_note 44 = .ok (.iconst 1, 1) := by decide +kernel
theorem dX6_note_45 : decode cX6_note 45 = .ok (.isub, 1) := by decide +kernel
theorem dX6_note_46 : decode cX6_note 46 = .ok (.putfield 184, 3) := by decide +kernel
theorem dX6_note_49 : decode cX6_note 49 = .ok (.iconst 0, 1) := by decide +kernel
theorem dX6_note_50 : decode cX6_note 50 = .ok (.istore_n 1, 1) := by decide +kernel
theorem dX6_note_51 : decode cX6_note 51 = .ok (.iload_n 1, 1) := by decide +kernel
theorem dX6_note_52 : decode cX6_note 52 = .ok (.bipush 50, 2) := by decide +kernel
theorem dX6_note_54 : decode cX6_note 54 = .ok (.if_icmp .ge 29, 3) := by decide +kernel
theorem dX6_note_57 : decode cX6_note 57 = .ok (.aload_n 0, 1) := by decide +kernel
theorem dX6_note_58 : decode cX6_note 58 = .ok (.getfield 22, 3) := by decide +kernel
theorem dX6_note_61 : decode cX6_note 61 = .ok (.bipush 50, 2) := by decide +kernel
theorem dX6_note_63 : decode cX6_note 63 = .ok (.aload_n 0, 1) := by decide +kernel
theorem dX6_note_64 : decode cX6_note 64 = .ok (.getfield 184, 3) := by decide +kernel
theorem dX6_note_67 : decode cX6_note 67 = .ok (.imul, 1) := by decide +kernel
theorem dX6_note_68 : decode cX6_note 68 = .ok (.iload_n 1, 1) := by decide +kernel
theorem dX6_note_69 : decode cX6_note 69 = .ok (.iadd, 1) := by decide +kernel
theorem dX6_note_70 : decode cX6_note 70 = .ok (.aload_n 0, 1) := by decide +kernel
theorem dX6_note_71 : decode cX6_note 71 = .ok (.getfield 16, 3) := by decide +kernel
theorem dX6_note_74 : decode cX6_note 74 = .ok (.iload_n 1, 1) := by decide +kernel
theorem dX6_note_75 : decode cX6_note 75 = .ok (.iaload, 1) := by decide +kernel
theorem dX6_note_76 : decode cX6_note 76 = .ok (.iastore, 1) := by decide +kernel
theorem dX6_note_77 : decode cX6_note 77 = .ok (.iinc 1 1, 3) := by decide +kernel
theorem dX6_note_80 : decode cX6_note 80 = .ok (.goto (-29), 3) := by decide +kernel
theorem dX6_note_83 : decode cX6_note 83 = .ok (.aload_n 0, 1) := by decide +kernel
theorem dX6_note_84 : decode cX6_note 84 = .ok (.dup, 1) := by decide +kernel
theorem dX6_note_85 : decode cX6_note 85 = .ok (.getfield 184, 3) := by decide +kernel
theorem dX6_note_88 : decode cX6_note 88 = .ok (.iconst 1, 1) := by decide +kernel
theorem dX6_note_89 : decode cX6_note 89 = .ok (.iadd, 1) := by decide +kernel
theorem dX6_note_90 : decode cX6_note 90 = .ok (.putfield 184, 3) := by decide +kernel
theorem dX6_note_93 : decode cX6_note 93 = .ok (.return_, 1) := by decide +kernel
theorem dX6_areInputs_0 : decode cX6_areInputs 0 = .ok (.iload_n 0, 1) := by decide +kernel
theorem dX6_areInputs_1 : decode cX6_areInputs 1 = .ok (.i2l, 1) := by decide +kernel
theorem dX6_areInputs_2 : decode cX6_areInputs 2 = .ok (.lconst 0, 1) := by decide +kernel
theorem dX6_areInputs_3 : decode cX6_areInputs 3 = .ok (.ldc2_w 200, 3) := by decide +kernel
theorem dX6_areInputs_6 : decode cX6_areInputs 6 = .ok (.invokestatic 66, 3) := by decide +kernel
theorem dX6_areInputs_9 : decode cX6_areInputs 9 = .ok (.ifCond .eq 19, 3) := by decide +kernel
theorem dX6_areInputs_12 : decode cX6_areInputs 12 = .ok (.iload_n 1, 1) := by decide +kernel
theorem dX6_areInputs_13 : decode cX6_areInputs 13 = .ok (.i2l, 1) := by decide +kernel
theorem dX6_areInputs_14 : decode cX6_areInputs 14 = .ok (.lconst 0, 1) := by decide +kernel
theorem dX6_areInputs_15 : decode cX6_areInputs 15 = .ok (.ldc2_w 200, 3) := by decide +kernel
theorem dX6_areInputs_18 : decode cX6_areInputs 18 = .ok (.invokestatic 66, 3) := by decide +kernel
theorem dX6_areInputs_21 : decode cX6_areInputs 21 = .ok (.ifCond .eq 7, 3) := by decide +kernel
theorem dX6_areInputs_24 : decode cX6_areInputs 24 = .ok (.iconst 1, 1) := by decide +kernel
theorem dX6_areInputs_25 : decode cX6_areInputs 25 = .ok (.goto 4, 3) := by decide +kernel
theorem dX6_areInputs_28 : decode cX6_areInputs 28 = .ok (.iconst 0, 1) := by decide +kernel
theorem dX6_areInputs_29 : decode cX6_areInputs 29 = .ok (.ireturn, 1) := by decide +kernel
theorem dX6_tick_0 : decode cX6_tick 0 = .ok (.aload_n 0, 1) := by decide +kernel
theorem dX6_tick_1 : decode cX6_tick 1 = .ok (.iconst 0, 1) := by decide +kernel
theorem dX6_tick_2 : decode cX6_tick 2 = .ok (.putfield 62, 3) := by decide +kernel
theorem dX6_tick_5 : decode cX6_tick 5 = .ok (.iload_n 1, 1) := by decide +kernel
theorem dX6_tick_6 : decode cX6_tick 6 = .ok (.iload_n 2, 1) := by decide +kernel
theorem dX6_tick_7 : decode cX6_tick 7 = .ok (.invokestatic 202, 3) := by decide +kernel
theorem dX6_tick_10 : decode cX6_tick 10 = .ok (.ifCond .ne 6, 3) := by decide +kernel
theorem dX6_tick_13 : decode cX6_tick 13 = .ok (.bipush (-2), 2) := by decide +kernel
theorem dX6_tick_15 : decode cX6_tick 15 = .ok (.ireturn, 1) := by decide +kernel
theorem dX6_tick_16 : decode cX6_tick 16 = .ok (.aload_n 0, 1) := by decide +kernel
theorem dX6_tick_17 : decode cX6_tick 17 = .ok (.invokevirtual 187, 3) := by decide +kernel
theorem dX6_tick_20 : decode cX6_tick 20 = .ok (.ifCond .ne 6, 3) := by decide +kernel
theorem dX6_tick_23 : decode cX6_tick 23 = .ok (.bipush (-3), 2) := by decide +kernel
theorem dX6_tick_25 : decode cX6_tick 25 = .ok (.ireturn, 1) := by decide +kernel
theorem dX6_tick_26 : decode cX6_tick 26 = .ok (.aload_n 0, 1) := by decide +kernel
theorem dX6_tick_27 : decode cX6_tick 27 = .ok (.invokevirtual 205, 3) := by decide +kernel
theorem dX6_tick_30 : decode cX6_tick 30 = .ok (.aload_n 0, 1) := by decide +kernel
theorem dX6_tick_31 : decode cX6_tick 31 = .ok (.aload_n 0, 1) := by decide +kernel
theorem dX6_tick_32 : decode cX6_tick 32 = .ok (.getfield 16, 3) := by decide +kernel
theorem dX6_tick_35 : decode cX6_tick 35 = .ok (.iload_n 1, 1) := by decide +kernel
theorem dX6_tick_36 : decode cX6_tick 36 = .ok (.iload_n 2, 1) := by decide +kernel
theorem dX6_tick_37 : decode cX6_tick 37 = .ok (.invokevirtual 208, 3) := by decide +kernel
theorem dX6_tick_40 : decode cX6_tick 40 = .ok (.ireturn, 1) := by decide +kernel
theorem dX6_afresh_0 : decode cX6_afresh 0 = .ok (.aload_n 0, 1) := by decide +kernel
theorem dX6_afresh_1 : decode cX6_afresh 1 = .ok (.iconst 0, 1) := by decide +kernel
theorem dX6_afresh_2 : decode cX6_afresh 2 = .ok (.putfield 62, 3) := by decide +kernel
theorem dX6_afresh_5 : decode cX6_afresh 5 = .ok (.aload_n 0, 1) := by decide +kernel
theorem dX6_afresh_6 : decode cX6_afresh 6 = .ok (.invokevirtual 205, 3) := by decide +kernel
theorem dX6_afresh_9 : decode cX6_afresh 9 = .ok (.aload_n 0, 1) := by decide +kernel
theorem dX6_afresh_10 : decode cX6_afresh 10 = .ok (.getfield 16, 3) := by decide +kernel
theorem dX6_afresh_13 : decode cX6_afresh 13 = .ok (.bipush 49, 2) := by decide +kernel
theorem dX6_afresh_15 : decode cX6_afresh 15 = .ok (.iaload, 1) := by decide +kernel
theorem dX6_afresh_16 : decode cX6_afresh 16 = .ok (.istore_n 1, 1) := by decide +kernel
theorem dX6_afresh_17 : decode cX6_afresh 17 = .ok (.aload_n 0, 1) := by decide +kernel
theorem dX6_afresh_18 : decode cX6_afresh 18 = .ok (.getfield 16, 3) := by decide +kernel
theorem dX6_afresh_21 : decode cX6_afresh 21 = .ok (.invokestatic 181, 3) := by decide +kernel
theorem dX6_afresh_24 : decode cX6_afresh 24 = .ok (.iload_n 1, 1) := by decide +kernel
theorem dX6_afresh_25 : decode cX6_afresh 25 = .ok (.ireturn, 1) := by decide +kernel
theorem dX6_areFigures_0 : decode cX6_areFigures 0 = .ok (.iload_n 1, 1) := by decide +kernel
theorem dX6_areFigures_1 : decode cX6_areFigures 1 = .ok (.invokestatic 70, 3) := by decide +kernel
theorem dX6_areFigures_4 : decode cX6_areFigures 4 = .ok (.istore 5, 2) := by decide +kernel
theorem dX6_areFigures_6 : decode cX6_areFigures 6 = .ok (.iload_n 2, 1) := by decide +kernel
theorem dX6_areFigures_7 : decode cX6_areFigures 7 = .ok (.i2l, 1) := by decide +kernel
theorem dX6_areFigures_8 : decode cX6_areFigures 8 = .ok (.lconst 0, 1) := by decide +kernel
theorem dX6_areFigures_9 : decode cX6_areFigures 9 = .ok (.iload_n 1, 1) := by decide +kernel
theorem dX6_areFigures_10 : decode cX6_areFigures 10 = .ok (.iconst 0, 1) := by decide +kernel
theorem dX6_areFigures_11 : decode cX6_areFigures 11 = .ok (.aload_n 0, 1) := by decide +kernel
theorem dX6_areFigures_12 : decode cX6_areFigures 12 = .ok (.getfield 16, 3) := by decide +kernel
theorem dX6_areFigures_15 : decode cX6_areFigures 15 = .ok (.iconst 0, 1) := by decide +kernel
theorem dX6_areFigures_16 : decode cX6_areFigures 16 = .ok (.iaload, 1) := by decide +kernel
theorem dX6_areFigures_17 : decode cX6_areFigures 17 = .ok (.invokestatic 88, 3) := by decide +kernel
theorem dX6_areFigures_20 : decode cX6_areFigures 20 = .ok (.i2l, 1) := by decide +kernel
theorem dX6_areFigures_21 : decode cX6_areFigures 21 = .ok (.invokestatic 66, 3) := by decide +kernel
theorem dX6_areFigures_24 : decode cX6_areFigures 24 = .ok (.istore 6, 2) := by decide +kernel
theorem dX6_areFigures_26 : decode cX6_areFigures 26 = .ok (.iload 6, 2) := by decide +kernel
theorem dX6_areFigures_28 : decode cX6_areFigures 28 = .ok (.ifCond .eq 38, 3) := by decide +kernel
theorem dX6_areFigures_31 : decode cX6_areFigures 31 = .ok (.iload_n 3, 1) := by decide +kernel
theorem dX6_areFigures_32 : decode cX6_areFigures 32 = .ok (.i2l, 1) := by decide +kernel
theorem dX6_areFigures_33 : decode cX6_areFigures 33 = .ok (.lconst 0, 1) := by decide +kernel
theorem dX6_areFigures_34 : decode cX6_areFigures 34 = .ok (.iload 5, 2) := by decide +kernel
theorem dX6_areFigures_36 : decode cX6_areFigures 36 = .ok (.iconst 1, 1) := by decide +kernel
theorem dX6_areFigures_37 : decode cX6_areFigures 37 = .ok (.if_icmp .le 18, 3) := by decide +kernel
theorem dX6_areFigures_40 : decode cX6_areFigures 40 = .ok (.iload_n 1, 1) := by decide +kernel
theorem dX6_areFigures_41 : decode cX6_areFigures 41 = .ok (.iconst 1, 1) := by decide +kernel
theorem dX6_areFigures_42 : decode cX6_areFigures 42 = .ok (.aload_n 0, 1) := by decide +kernel
theorem dX6_areFigures_43 : decode cX6_areFigures 43 = .ok (.getfield 16, 3) := by decide +kernel
theorem dX6_areFigures_46 : decode cX6_areFigures 46 = .ok (.iconst 0, 1) := by decide +kernel
theorem dX6_areFigures_47 : decode cX6_areFigures 47 = .ok (.iaload, 1) := by decide +kernel
theorem dX6_areFigures_48 : decode cX6_areFigures 48 = .ok (.invokestatic 88, 3) := by decide +kernel
theorem dX6_areFigures_51 : decode cX6_areFigures 51 = .ok (.i2l, 1) := by decide +kernel
theorem dX6_areFigures_52 : decode cX6_areFigures 52 = .ok (.goto 4, 3) := by decide +kernel
theorem dX6_areFigures_55 : decode cX6_areFigures 55 = .ok (.lconst 0, 1) := by decide +kernel
theorem dX6_areFigures_56 : decode cX6_areFigures 56 = .ok (.invokestatic 66, 3) := by decide +kernel
theorem dX6_areFigures_59 : decode cX6_areFigures 59 = .ok (.ifCond .eq 7, 3) := by decide +kernel
theorem dX6_areFigures_62 : decode cX6_areFigures 62 = .ok (.iconst 1, 1) := by decide +kernel
theorem dX6_areFigures_63 : decode cX6_areFigures 63 = .ok (.goto 4, 3) := by decide +kernel
theorem dX6_areFigures_66 : decode cX6_areFigures 66 = .ok (.iconst 0, 1) := by decide +kernel
theorem dX6_areFigures_67 : decode cX6_areFigures 67 = .ok (.istore 6, 2) := by decide +kernel
theorem dX6_areFigures_69 : decode cX6_areFigures 69 = .ok (.iload 6, 2) := by decide +kernel
theorem dX6_areFigures_71 : decode cX6_areFigures 71 = .ok (.ifCond .eq 39, 3) := by decide +kernel
theorem dX6_areFigures_74 : decode cX6_areFigures 74 = .ok (.iload 4, 2) := by decide +kernel
theorem dX6_areFigures_76 : decode cX6_areFigures 76 = .ok (.i2l, 1) := by decide +kernel
theorem dX6_areFigures_77 : decode cX6_areFigures 77 = .ok (.lconst 0, 1) := by decide +kernel
theorem dX6_areFigures_78 : decode cX6_areFigures 78 = .ok (.iload 5, 2) := by decide +kernel
theorem dX6_areFigures_80 : decode cX6_areFigures 80 = .ok (.iconst 2, 1) := by decide +kernel
theorem dX6_areFigures_81 : decode cX6_areFigures 81 = .ok (.if_icmp .le 18, 3) := by decide +kernel
theorem dX6_areFigures_84 : decode cX6_areFigures 84 = .ok (.iload_n 1, 1) := by decide +kernel
theorem dX6_areFigures_85 : decode cX6_areFigures 85 = .ok (.iconst 2, 1) := by decide +kernel
theorem dX6_areFigures_86 : decode cX6_areFigures 86 = .ok (.aload_n 0, 1) := by decide +kernel
theorem dX6_areFigures_87 : decode cX6_areFigures 87 = .ok (.getfield 16, 3) := by decide +kernel
theorem dX6_areFigures_90 : decode cX6_areFigures 90 = .ok (.iconst 0, 1) := by decide +kernel
theorem dX6_areFigures_91 : decode cX6_areFigures 91 = .ok (.iaload, 1) := by decide +kernel
theorem dX6_areFigures_92 : decode cX6_areFigures 92 = .ok (.invokestatic 88, 3) := by decide +kernel
theorem dX6_areFigures_95 : decode cX6_areFigures 95 = .ok (.i2l, 1) := by decide +kernel
theorem dX6_areFigures_96 : decode cX6_areFigures 96 = .ok (.goto 4, 3) := by decide +kernel
theorem dX6_areFigures_99 : decode cX6_areFigures 99 = .ok (.lconst 0, 1) := by decide +kernel
theorem dX6_areFigures_100 : decode cX6_areFigures 100 = .ok (.invokestatic 66, 3) := by decide +kernel
theorem dX6_areFigures_103 : decode cX6_areFigures 103 = .ok (.ifCond .eq 7, 3) := by decide +kernel
theorem dX6_areFigures_106 : decode cX6_areFigures 106 = .ok (.iconst 1, 1) := by decide +kernel
theorem dX6_areFigures_107 : decode cX6_areFigures 107 = .ok (.goto 4, 3) := by decide +kernel
theorem dX6_areFigures_110 : decode cX6_areFigures 110 = .ok (.iconst 0, 1) := by decide +kernel
theorem dX6_areFigures_111 : decode cX6_areFigures 111 = .ok (.ireturn, 1) := by decide +kernel
theorem dX6_tell_0 : decode cX6_tell 0 = .ok (.aload_n 0, 1) := by decide +kernel
theorem dX6_tell_1 : decode cX6_tell 1 = .ok (.iconst 0, 1) := by decide +kernel
theorem dX6_tell_2 : decode cX6_tell 2 = .ok (.putfield 62, 3) := by decide +kernel
theorem dX6_tell_5 : decode cX6_tell 5 = .ok (.aload_n 0, 1) := by decide +kernel
theorem dX6_tell_6 : decode cX6_tell 6 = .ok (.iload_n 1, 1) := by decide +kernel
theorem dX6_tell_7 : decode cX6_tell 7 = .ok (.invokevirtual 196, 3) := by decide +kernel
theorem dX6_tell_10 : decode cX6_tell 10 = .ok (.ifCond .eq 5, 3) := by decide +kernel
theorem dX6_tell_13 : decode cX6_tell 13 = .ok (.iconst (-1), 1) := by decide +kernel
theorem dX6_tell_14 : decode cX6_tell 14 = .ok (.ireturn, 1) := by decide +kernel
theorem dX6_tell_15 : decode cX6_tell 15 = .ok (.iload_n 2, 1) := by decide +kernel
theorem dX6_tell_16 : decode cX6_tell 16 = .ok (.i2l, 1) := by decide +kernel
theorem dX6_tell_17 : decode cX6_tell 17 = .ok (.lconst 0, 1) := by decide +kernel
theorem dX6_tell_18 : decode cX6_tell 18 = .ok (.ldc2_w 211, 3) := by decide +kernel
theorem dX6_tell_21 : decode cX6_tell 21 = .ok (.invokestatic 66, 3) := by decide +kernel
theorem dX6_tell_24 : decode cX6_tell 24 = .ok (.ifCond .eq 16, 3) := by decide +kernel
theorem dX6_tell_27 : decode cX6_tell 27 = .ok (.aload_n 0, 1) := by decide +kernel
theorem dX6_tell_28 : decode cX6_tell 28 = .ok (.iload_n 2, 1) := by decide +kernel
theorem dX6_tell_29 : decode cX6_tell 29 = .ok (.iload_n 3, 1) := by decide +kernel
theorem dX6_tell_30 : decode cX6_tell 30 = .ok (.iload 4, 2) := by decide +kernel
theorem dX6_tell_32 : decode cX6_tell 32 = .ok (.iload 5, 2) := by decide +kernel
theorem dX6_tell_34 : decode cX6_tell 34 = .ok (.invokevirtual 213, 3) := by decide +kernel
theorem dX6_tell_37 : decode cX6_tell 37 = .ok (.ifCond .ne 6, 3) := by decide +kernel
theorem dX6_tell_40 : decode cX6_tell 40 = .ok (.bipush (-2), 2) := by decide +kernel
theorem dX6_tell_42 : decode cX6_tell 42 = .ok (.ireturn, 1) := by decide +kernel
theorem dX6_tell_43 : decode cX6_tell 43 = .ok (.aload_n 0, 1) := by decide +kernel
theorem dX6_tell_44 : decode cX6_tell 44 = .ok (.invokevirtual 205, 3) := by decide +kernel
theorem dX6_tell_47 : decode cX6_tell 47 = .ok (.aload_n 0, 1) := by decide +kernel
theorem dX6_tell_48 : decode cX6_tell 48 = .ok (.getfield 16, 3) := by decide +kernel
theorem dX6_tell_51 : decode cX6_tell 51 = .ok (.iconst 1, 1) := by decide +kernel
theorem dX6_tell_52 : decode cX6_tell 52 = .ok (.iload_n 1, 1) := by decide +kernel
theorem dX6_tell_53 : decode cX6_tell 53 = .ok (.iadd, 1) := by decide +kernel
theorem dX6_tell_54 : decode cX6_tell 54 = .ok (.iload_n 2, 1) := by decide +kernel
theorem dX6_tell_55 : decode cX6_tell 55 = .ok (.iastore, 1) := by decide +kernel
theorem dX6_tell_56 : decode cX6_tell 56 = .ok (.aload_n 0, 1) := by decide +kernel
theorem dX6_tell_57 : decode cX6_tell 57 = .ok (.getfield 16, 3) := by decide +kernel
theorem dX6_tell_60 : decode cX6_tell 60 = .ok (.bipush 9, 2) := by decide +kernel
theorem dX6_tell_62 : decode cX6_tell 62 = .ok (.iconst 3, 1) := by decide +kernel
theorem dX6_tell_63 : decode cX6_tell 63 = .ok (.iload_n 1, 1) := by decide +kernel
theorem dX6_tell_64 : decode cX6_tell 64 = .ok (.imul, 1) := by decide +kernel
theorem dX6_tell_65 : decode cX6_tell 65 = .ok (.iadd, 1) := by decide +kernel
theorem dX6_tell_66 : decode cX6_tell 66 = .ok (.iload_n 3, 1) := by decide +kernel
theorem dX6_tell_67 : decode cX6_tell 67 = .ok (.iastore, 1) := by decide +kernel
theorem dX6_tell_68 : decode cX6_tell 68 = .ok (.aload_n 0, 1) := by decide +kernel
theorem dX6_tell_69 : decode cX6_tell 69 = .ok (.getfield 16, 3) := by decide +kernel
theorem dX6_tell_72 : decode cX6_tell 72 = .ok (.bipush 9, 2) := by decide +kernel
theorem dX6_tell_74 : decode cX6_tell 74 = .ok (.iconst 3, 1) := by decide +kernel
theorem dX6_tell_75 : decode cX6_tell 75 = .ok (.iload_n 1, 1) := by decide +kernel
theorem dX6_tell_76 : decode cX6_tell 76 = .ok (.imul, 1) := by decide +kernel
theorem dX6_tell_77 : decode cX6_tell 77 = .ok (.iadd, 1) := by decide +kernel
theorem dX6_tell_78 : decode cX6_tell 78 = .ok (.iconst 1, 1) := by decide +kernel
theorem dX6_tell_79 : decode cX6_tell 79 = .ok (.iadd, 1) := by decide +kernel
theorem dX6_tell_80 : decode cX6_tell 80 = .ok (.iload 4, 2) := by decide +kernel
theorem dX6_tell_82 : decode cX6_tell 82 = .ok (.iastore, 1) := by decide +kernel
theorem dX6_tell_83 : decode cX6_tell 83 = .ok (.aload_n 0, 1) := by decide +kernel
theorem dX6_tell_84 : decode cX6_tell 84 = .ok (.getfield 16, 3) := by decide +kernel
theorem dX6_tell_87 : decode cX6_tell 87 = .ok (.bipush 9, 2) := by decide +kernel
theorem dX6_tell_89 : decode cX6_tell 89 = .ok (.iconst 3, 1) := by decide +kernel
theorem dX6_tell_90 : decode cX6_tell 90 = .ok (.iload_n 1, 1) := by decide +kernel
theorem dX6_tell_91 : decode cX6_tell 91 = .ok (.imul, 1) := by decide +kernel
theorem dX6_tell_92 : decode cX6_tell 92 = .ok (.iadd, 1) := by decide +kernel
theorem dX6_tell_93 : decode cX6_tell 93 = .ok (.iconst 2, 1) := by decide +kernel
theorem dX6_tell_94 : decode cX6_tell 94 = .ok (.iadd, 1) := by decide +kernel
theorem dX6_tell_95 : decode cX6_tell 95 = .ok (.iload 5, 2) := by decide +kernel
theorem dX6_tell_97 : decode cX6_tell 97 = .ok (.iastore, 1) := by decide +kernel
theorem dX6_tell_98 : decode cX6_tell 98 = .ok (.aload_n 0, 1) := by decide +kernel
theorem dX6_tell_99 : decode cX6_tell 99 = .ok (.getfield 16, 3) := by decide +kernel
theorem dX6_tell_102 : decode cX6_tell 102 = .ok (.invokestatic 181, 3) := by decide +kernel
theorem dX6_tell_105 : decode cX6_tell 105 = .ok (.aload_n 0, 1) := by decide +kernel
theorem dX6_tell_106 : decode cX6_tell 106 = .ok (.invokevirtual 187, 3) := by decide +kernel
theorem dX6_tell_109 : decode cX6_tell 109 = .ok (.ifCond .eq 7, 3) := by decide +kernel
theorem dX6_tell_112 : decode cX6_tell 112 = .ok (.iconst 1, 1) := by decide +kernel
theorem dX6_tell_113 : decode cX6_tell 113 = .ok (.goto 4, 3) := by decide +kernel
theorem dX6_tell_116 : decode cX6_tell 116 = .ok (.iconst 0, 1) := by decide +kernel
theorem dX6_tell_117 : decode cX6_tell 117 = .ok (.ireturn, 1) := by decide +kernel
theorem dX6_undo_0 : decode cX6_undo 0 = .ok (.aload_n 0, 1) := by decide +kernel
theorem dX6_undo_1 : decode cX6_undo 1 = .ok (.iconst 0, 1) := by decide +kernel
theorem dX6_undo_2 : decode cX6_undo 2 = .ok (.putfield 62, 3) := by decide +kernel
theorem dX6_undo_5 : decode cX6_undo 5 = .ok (.aload_n 0, 1) := by decide +kernel
theorem dX6_undo_6 : decode cX6_undo 6 = .ok (.getfield 184, 3) := by decide +kernel
theorem dX6_undo_9 : decode cX6_undo 9 = .ok (.ifCond .ne 6, 3) := by decide +kernel
theorem dX6_undo_12 : decode cX6_undo 12 = .ok (.bipush (-3), 2) := by decide +kernel
theorem dX6_undo_14 : decode cX6_undo 14 = .ok (.ireturn, 1) := by decide +kernel
theorem dX6_undo_15 : decode cX6_undo 15 = .ok (.aload_n 0, 1) := by decide +kernel
theorem dX6_undo_16 : decode cX6_undo 16 = .ok (.dup, 1) := by decide +kernel
theorem dX6_undo_17 : decode cX6_undo 17 = .ok (.getfield 184, 3) := by decide +kernel
theorem dX6_undo_20 : decode cX6_undo 20 = .ok (.iconst 1, 1) := by decide +kernel
theorem dX6_undo_21 : decode cX6_undo 21 = .ok (.isub, 1) := by decide +kernel
theorem dX6_undo_22 : decode cX6_undo 22 = .ok (.putfield 184, 3) := by decide +kernel
theorem dX6_undo_25 : decode cX6_undo 25 = .ok (.iconst 0, 1) := by decide +kernel
theorem dX6_undo_26 : decode cX6_undo 26 = .ok (.istore_n 1, 1) := by decide +kernel
theorem dX6_undo_27 : decode cX6_undo 27 = .ok (.iload_n 1, 1) := by decide +kernel
theorem dX6_undo_28 : decode cX6_undo 28 = .ok (.bipush 50, 2) := by decide +kernel
theorem dX6_undo_30 : decode cX6_undo 30 = .ok (.if_icmp .ge 29, 3) := by decide +kernel
theorem dX6_undo_33 : decode cX6_undo 33 = .ok (.aload_n 0, 1) := by decide +kernel
theorem dX6_undo_34 : decode cX6_undo 34 = .ok (.getfield 16, 3) := by decide +kernel
theorem dX6_undo_37 : decode cX6_undo 37 = .ok (.iload_n 1, 1) := by decide +kernel
theorem dX6_undo_38 : decode cX6_undo 38 = .ok (.aload_n 0, 1) := by decide +kernel
theorem dX6_undo_39 : decode cX6_undo 39 = .ok (.getfield 22, 3) := by decide +kernel
theorem dX6_undo_42 : decode cX6_undo 42 = .ok (.bipush 50, 2) := by decide +kernel
theorem dX6_undo_44 : decode cX6_undo 44 = .ok (.aload_n 0, 1) := by decide +kernel
theorem dX6_undo_45 : decode cX6_undo 45 = .ok (.getfield 184, 3) := by decide +kernel
theorem dX6_undo_48 : decode cX6_undo 48 = .ok (.imul, 1) := by decide +kernel
theorem dX6_undo_49 : decode cX6_undo 49 = .ok (.iload_n 1, 1) := by decide +kernel
theorem dX6_undo_50 : decode cX6_undo 50 = .ok (.iadd, 1) := by decide +kernel
theorem dX6_undo_51 : decode cX6_undo 51 = .ok (.iaload, 1) := by decide +kernel
theorem dX6_undo_52 : decode cX6_undo 52 = .ok (.iastore, 1) := by decide +kernel
theorem dX6_undo_53 : decode cX6_undo 53 = .ok (.iinc 1 1, 3) := by decide +kernel
theorem dX6_undo_56 : decode cX6_undo 56 = .ok (.goto (-29), 3) := by decide +kernel
theorem dX6_undo_59 : decode cX6_undo 59 = .ok (.aload_n 0, 1) := by decide +kernel
theorem dX6_undo_60 : decode cX6_undo 60 = .ok (.getfield 184, 3) := by decide +kernel
theorem dX6_undo_63 : decode cX6_undo 63 = .ok (.ireturn, 1) := by decide +kernel
theorem dX6_begin_0 : decode cX6_begin 0 = .ok (.iconst 0, 1) := by decide +kernel
theorem dX6_begin_1 : decode cX6_begin 1 = .ok (.istore_n 1, 1) := by decide +kernel
theorem dX6_begin_2 : decode cX6_begin 2 = .ok (.iload_n 1, 1) := by decide +kernel
theorem dX6_begin_3 : decode cX6_begin 3 = .ok (.bipush 50, 2) := by decide +kernel
theorem dX6_begin_5 : decode cX6_begin 5 = .ok (.if_icmp .ge 21, 3) := by decide +kernel
theorem dX6_begin_8 : decode cX6_begin 8 = .ok (.aload_n 0, 1) := by decide +kernel
theorem dX6_begin_9 : decode cX6_begin 9 = .ok (.getfield 19, 3) := by decide +kernel
theorem dX6_begin_12 : decode cX6_begin 12 = .ok (.iload_n 1, 1) := by decide +kernel
theorem dX6_begin_13 : decode cX6_begin 13 = .ok (.aload_n 0, 1) := by decide +kernel
theorem dX6_begin_14 : decode cX6_begin 14 = .ok (.getfield 16, 3) := by decide +kernel
theorem dX6_begin_17 : decode cX6_begin 17 = .ok (.iload_n 1, 1) := by decide +kernel
theorem dX6_begin_18 : decode cX6_begin 18 = .ok (.iaload, 1) := by decide +kernel
theorem dX6_begin_19 : decode cX6_begin 19 = .ok (.iastore, 1) := by decide +kernel
theorem dX6_begin_20 : decode cX6_begin 20 = .ok (.iinc 1 1, 3) := by decide +kernel
theorem dX6_begin_23 : decode cX6_begin 23 = .ok (.goto (-21), 3) := by decide +kernel
theorem dX6_begin_26 : decode cX6_begin 26 = .ok (.return_, 1) := by decide +kernel
theorem dX6_goTicks_0 : decode cX6_goTicks 0 = .ok (.iconst 0, 1) := by decide +kernel
theorem dX6_goTicks_1 : decode cX6_goTicks 1 = .ok (.istore 4, 2) := by decide +kernel
theorem dX6_goTicks_3 : decode cX6_goTicks 3 = .ok (.iload 4, 2) := by decide +kernel
theorem dX6_goTicks_5 : decode cX6_goTicks 5 = .ok (.iload_n 1, 1) := by decide +kernel
theorem dX6_goTicks_6 : decode cX6_goTicks 6 = .ok (.if_icmp .ge 20, 3) := by decide +kernel
theorem dX6_goTicks_9 : decode cX6_goTicks 9 = .ok (.aload_n 0, 1) := by decide +kernel
theorem dX6_goTicks_10 : decode cX6_goTicks 10 = .ok (.aload_n 0, 1) := by decide +kernel
theorem dX6_goTicks_11 : decode cX6_goTicks 11 = .ok (.getfield 19, 3) := by decide +kernel
theorem dX6_goTicks_14 : decode cX6_goTicks 14 = .ok (.iload_n 2, 1) := by decide +kernel
theorem dX6_goTicks_15 : decode cX6_goTicks 15 = .ok (.iload_n 3, 1) := by decide +kernel
theorem dX6_goTicks_16 : decode cX6_goTicks 16 = .ok (.invokevirtual 208, 3) := by decide +kernel
theorem dX6_goTicks_19 : decode cX6_goTicks 19 = .ok (.pop, 1) := by decide +kernel
theorem dX6_goTicks_20 : decode cX6_goTicks 20 = .ok (.iinc 4 1, 3) := by decide +kernel
theorem dX6_goTicks_23 : decode cX6_goTicks 23 = .ok (.goto (-20), 3) := by decide +kernel
theorem dX6_goTicks_26 : decode cX6_goTicks 26 = .ok (.return_, 1) := by decide +kernel
theorem dX6_later_0 : decode cX6_later 0 = .ok (.aload_n 0, 1) := by decide +kernel
theorem dX6_later_1 : decode cX6_later 1 = .ok (.iconst 0, 1) := by decide +kernel
theorem dX6_later_2 : decode cX6_later 2 = .ok (.putfield 62, 3) := by decide +kernel
theorem dX6_later_5 : decode cX6_later 5 = .ok (.aload_n 0, 1) := by decide +kernel
theorem dX6_later_6 : decode cX6_later 6 = .ok (.iload_n 1, 1) := by decide +kernel
theorem dX6_later_7 : decode cX6_later 7 = .ok (.invokevirtual 196, 3) := by decide +kernel
theorem dX6_later_10 : decode cX6_later 10 = .ok (.ifCond .eq 5, 3) := by decide +kernel
theorem dX6_later_13 : decode cX6_later 13 = .ok (.iconst (-1), 1) := by decide +kernel
theorem dX6_later_14 : decode cX6_later 14 = .ok (.ireturn, 1) := by decide +kernel
theorem dX6_later_15 : decode cX6_later 15 = .ok (.iload_n 2, 1) := by decide +kernel
theorem dX6_later_16 : decode cX6_later 16 = .ok (.i2l, 1) := by decide +kernel
theorem dX6_later_17 : decode cX6_later 17 = .ok (.lconst 1, 1) := by decide +kernel
theorem dX6_later_18 : decode cX6_later 18 = .ok (.ldc2_w 217, 3) := by decide +kernel
theorem dX6_later_21 : decode cX6_later 21 = .ok (.invokestatic 66, 3) := by decide +kernel
theorem dX6_later_24 : decode cX6_later 24 = .ok (.ifCond .eq 12, 3) := by decide +kernel
theorem dX6_later_27 : decode cX6_later 27 = .ok (.iload_n 3, 1) := by decide +kernel
theorem dX6_later_28 : decode cX6_later 28 = .ok (.iload 4, 2) := by decide +kernel
theorem dX6_later_30 : decode cX6_later 30 = .ok (.invokestatic 202, 3) := by decide +kernel
theorem dX6_later_33 : decode cX6_later 33 = .ok (.ifCond .ne 6, 3) := by decide +kernel
theorem dX6_later_36 : decode cX6_later 36 = .ok (.bipush (-2), 2) := by decide +kernel
theorem dX6_later_38 : decode cX6_later 38 = .ok (.ireturn, 1) := by decide +kernel
theorem dX6_later_39 : decode cX6_later 39 = .ok (.aload_n 0, 1) := by decide +kernel
theorem dX6_later_40 : decode cX6_later 40 = .ok (.invokevirtual 187, 3) := by decide +kernel
theorem dX6_later_43 : decode cX6_later 43 = .ok (.ifCond .ne 6, 3) := by decide +kernel
theorem dX6_later_46 : decode cX6_later 46 = .ok (.bipush (-3), 2) := by decide +kernel
theorem dX6_later_48 : decode cX6_later 48 = .ok (.ireturn, 1) := by decide +kernel
theorem dX6_later_49 : decode cX6_later 49 = .ok (.aload_n 0, 1) := by decide +kernel
theorem dX6_later_50 : decode cX6_later 50 = .ok (.invokevirtual 219, 3) := by decide +kernel
theorem dX6_later_53 : decode cX6_later 53 = .ok (.aload_n 0, 1) := by decide +kernel
theorem dX6_later_54 : decode cX6_later 54 = .ok (.iload_n 2, 1) := by decide +kernel
theorem dX6_later_55 : decode cX6_later 55 = .ok (.iload_n 3, 1) := by decide +kernel
theorem dX6_later_56 : decode cX6_later 56 = .ok (.iload 4, 2) := by decide +kernel
theorem dX6_later_58 : decode cX6_later 58 = .ok (.invokevirtual 222, 3) := by decide +kernel
theorem dX6_later_61 : decode cX6_later 61 = .ok (.aload_n 0, 1) := by decide +kernel
theorem dX6_later_62 : decode cX6_later 62 = .ok (.getfield 19, 3) := by decide +kernel
theorem dX6_later_65 : decode cX6_later 65 = .ok (.bipush 41, 2) := by decide +kernel
theorem dX6_later_67 : decode cX6_later 67 = .ok (.iload_n 1, 1) := by decide +kernel
theorem dX6_later_68 : decode cX6_later 68 = .ok (.iadd, 1) := by decide +kernel
theorem dX6_later_69 : decode cX6_later 69 = .ok (.iaload, 1) := by decide +kernel
theorem dX6_later_70 : decode cX6_later 70 = .ok (.ireturn, 1) := by decide +kernel
theorem dX6_first_0 : decode cX6_first 0 = .ok (.aload_n 0, 1) := by decide +kernel
theorem dX6_first_1 : decode cX6_first 1 = .ok (.iconst 0, 1) := by decide +kernel
theorem dX6_first_2 : decode cX6_first 2 = .ok (.putfield 62, 3) := by decide +kernel
theorem dX6_first_5 : decode cX6_first 5 = .ok (.aload_n 0, 1) := by decide +kernel
theorem dX6_first_6 : decode cX6_first 6 = .ok (.iload_n 1, 1) := by decide +kernel
theorem dX6_first_7 : decode cX6_first 7 = .ok (.invokevirtual 196, 3) := by decide +kernel
theorem dX6_first_10 : decode cX6_first 10 = .ok (.ifCond .eq 5, 3) := by decide +kernel
theorem dX6_first_13 : decode cX6_first 13 = .ok (.iconst (-1), 1) := by decide +kernel
theorem dX6_first_14 : decode cX6_first 14 = .ok (.ireturn, 1) := by decide +kernel
theorem dX6_first_15 : decode cX6_first 15 = .ok (.iload_n 2, 1) := by decide +kernel
theorem dX6_first_16 : decode cX6_first 16 = .ok (.i2l, 1) := by decide +kernel
theorem dX6_first_17 : decode cX6_first 17 = .ok (.lconst 0, 1) := by decide +kernel
theorem dX6_first_18 : decode cX6_first 18 = .ok (.ldc2_w 200, 3) := by decide +kernel
theorem dX6_first_21 : decode cX6_first 21 = .ok (.invokestatic 66, 3) := by decide +kernel
theorem dX6_first_24 : decode cX6_first 24 = .ok (.ifCond .eq 12, 3) := by decide +kernel
theorem dX6_first_27 : decode cX6_first 27 = .ok (.iload_n 3, 1) := by decide +kernel
theorem dX6_first_28 : decode cX6_first 28 = .ok (.iload 4, 2) := by decide +kernel
theorem dX6_first_30 : decode cX6_first 30 = .ok (.invokestatic 202, 3) := by decide +kernel
theorem dX6_first_33 : decode cX6_first 33 = .ok (.ifCond .ne 6, 3) := by decide +kernel
theorem dX6_first_36 : decode cX6_first 36 = .ok (.bipush (-2), 2) := by decide +kernel
theorem dX6_first_38 : decode cX6_first 38 = .ok (.ireturn, 1) := by decide +kernel
theorem dX6_first_39 : decode cX6_first 39 = .ok (.aload_n 0, 1) := by decide +kernel
theorem dX6_first_40 : decode cX6_first 40 = .ok (.invokevirtual 187, 3) := by decide +kernel
theorem dX6_first_43 : decode cX6_first 43 = .ok (.ifCond .ne 6, 3) := by decide +kernel
theorem dX6_first_46 : decode cX6_first 46 = .ok (.bipush (-3), 2) := by decide +kernel
theorem dX6_first_48 : decode cX6_first 48 = .ok (.ireturn, 1) := by decide +kernel
theorem dX6_first_49 : decode cX6_first 49 = .ok (.aload_n 0, 1) := by decide +kernel
theorem dX6_first_50 : decode cX6_first 50 = .ok (.invokevirtual 219, 3) := by decide +kernel
theorem dX6_first_53 : decode cX6_first 53 = .ok (.iconst 1, 1) := by decide +kernel
theorem dX6_first_54 : decode cX6_first 54 = .ok (.istore 5, 2) := by decide +kernel
theorem dX6_first_56 : decode cX6_first 56 = .ok (.iload 5, 2) := by decide +kernel
theorem dX6_first_58 : decode cX6_first 58 = .ok (.bipush 40, 2) := by decide +kernel
theorem dX6_first_60 : decode cX6_first 60 = .ok (.if_icmp .gt 37, 3) := by decide +kernel
theorem dX6_first_63 : decode cX6_first 63 = .ok (.aload_n 0, 1) := by decide +kernel
theorem dX6_first_64 : decode cX6_first 64 = .ok (.aload_n 0, 1) := by decide +kernel
theorem dX6_first_65 : decode cX6_first 65 = .ok (.getfield 19, 3) := by decide +kernel
theorem dX6_first_68 : decode cX6_first 68 = .ok (.iload_n 3, 1) := by decide +kernel
theorem dX6_first_69 : decode cX6_first 69 = .ok (.iload 4, 2) := by decide +kernel
theorem dX6_first_71 : decode cX6_first 71 = .ok (.invokevirtual 208, 3) := by decide +kernel
theorem dX6_first_74 : decode cX6_first 74 = .ok (.pop, 1) := by decide +kernel
theorem dX6_first_75 : decode cX6_first 75 = .ok (.aload_n 0, 1) := by decide +kernel
theorem dX6_first_76 : decode cX6_first 76 = .ok (.getfield 19, 3) := by decide +kernel
theorem dX6_first_79 : decode cX6_first 79 = .ok (.bipush 41, 2) := by decide +kernel
theorem dX6_first_81 : decode cX6_first 81 = .ok (.iload_n 1, 1) := by decide +kernel
theorem dX6_first_82 : decode cX6_first 82 = .ok (.iadd, 1) := by decide +kernel
theorem dX6_first_83 : decode cX6_first 83 = .ok (.iaload, 1) := by decide +kernel
theorem dX6_first_84 : decode cX6_first 84 = .ok (.iload_n 2, 1) := by decide +kernel
theorem dX6_first_85 : decode cX6_first 85 = .ok (.if_icmp .ne 6, 3) := by decide +kernel
theorem dX6_first_88 : decode cX6_first 88 = .ok (.iload 5, 2) := by decide +kernel
theorem dX6_first_90 : decode cX6_first 90 = .ok (.ireturn, 1) := by decide +kernel
theorem dX6_first_91 : decode cX6_first 91 = .ok (.iinc 5 1, 3) := by decide +kernel
theorem dX6_first_94 : decode cX6_first 94 = .ok (.goto (-38), 3) := by decide +kernel
theorem dX6_first_97 : decode cX6_first 97 = .ok (.bipush (-9), 2) := by decide +kernel
theorem dX6_first_99 : decode cX6_first 99 = .ok (.ireturn, 1) := by decide +kernel
theorem dX6_areAlike_0 : decode cX6_areAlike 0 = .ok (.iconst 1, 1) := by decide +kernel
theorem dX6_areAlike_1 : decode cX6_areAlike 1 = .ok (.istore_n 3, 1) := by decide +kernel
theorem dX6_areAlike_2 : decode cX6_areAlike 2 = .ok (.iconst 0, 1) := by decide +kernel
theorem dX6_areAlike_3 : decode cX6_areAlike 3 = .ok (.istore 4, 2) := by decide +kernel
theorem dX6_areAlike_5 : decode cX6_areAlike 5 = .ok (.iload 4, 2) := by decide +kernel
theorem dX6_areAlike_7 : decode cX6_areAlike 7 = .ok (.bipush 8, 2) := by decide +kernel
theorem dX6_areAlike_9 : decode cX6_areAlike 9 = .ok (.if_icmp .ge 46, 3) := by decide +kernel
theorem dX6_areAlike_12 : decode cX6_areAlike 12 = .ok (.iload_n 3, 1) := by decide +kernel
theorem dX6_areAlike_13 : decode cX6_areAlike 13 = .ok (.ifCond .eq 34, 3) := by decide +kernel
theorem dX6_areAlike_16 : decode cX6_areAlike 16 = .ok (.aload_n 0, 1) := by decide +kernel
theorem dX6_areAlike_17 : decode cX6_areAlike 17 = .ok (.getfield 59, 3) := by decide +kernel
theorem dX6_areAlike_20 : decode cX6_areAlike 20 = .ok (.bipush 8, 2) := by decide +kernel
theorem dX6_areAlike_22 : decode cX6_areAlike 22 = .ok (.iload_n 1, 1) := by decide +kernel
theorem dX6_areAlike_23 : decode cX6_areAlike 23 = .ok (.imul, 1) := by decide +kernel
theorem dX6_areAlike_24 : decode cX6_areAlike 24 = .ok (.iload 4, 2) := by decide +kernel
theorem dX6_areAlike_26 : decode cX6_areAlike 26 = .ok (.iadd, 1) := by decide +kernel
theorem dX6_areAlike_27 : decode cX6_areAlike 27 = .ok (.iaload, 1) := by decide +kernel
theorem dX6_areAlike_28 : decode cX6_areAlike 28 = .ok (.aload_n 0, 1) := by decide +kernel
theorem dX6_areAlike_29 : decode cX6_areAlike 29 = .ok (.getfield 59, 3) := by decide +kernel
theorem dX6_areAlike_32 : decode cX6_areAlike 32 = .ok (.bipush 8, 2) := by decide +kernel
theorem dX6_areAlike_34 : decode cX6_areAlike 34 = .ok (.iload_n 2, 1) := by decide +kernel
theorem dX6_areAlike_35 : decode cX6_areAlike 35 = .ok (.imul, 1) := by decide +kernel
theorem dX6_areAlike_36 : decode cX6_areAlike 36 = .ok (.iload 4, 2) := by decide +kernel
theorem dX6_areAlike_38 : decode cX6_areAlike 38 = .ok (.iadd, 1) := by decide +kernel
theorem dX6_areAlike_39 : decode cX6_areAlike 39 = .ok (.iaload, 1) := by decide +kernel
theorem dX6_areAlike_40 : decode cX6_areAlike 40 = .ok (.if_icmp .ne 7, 3) := by decide +kernel
theorem dX6_areAlike_43 : decode cX6_areAlike 43 = .ok (.iconst 1, 1) := by decide +kernel
theorem dX6_areAlike_44 : decode cX6_areAlike 44 = .ok (.goto 4, 3) := by decide +kernel
theorem dX6_areAlike_47 : decode cX6_areAlike 47 = .ok (.iconst 0, 1) := by decide +kernel
theorem dX6_areAlike_48 : decode cX6_areAlike 48 = .ok (.istore_n 3, 1) := by decide +kernel
theorem dX6_areAlike_49 : decode cX6_areAlike 49 = .ok (.iinc 4 1, 3) := by decide +kernel
theorem dX6_areAlike_52 : decode cX6_areAlike 52 = .ok (.goto (-47), 3) := by decide +kernel
theorem dX6_areAlike_55 : decode cX6_areAlike 55 = .ok (.iload_n 3, 1) := by decide +kernel
theorem dX6_areAlike_56 : decode cX6_areAlike 56 = .ok (.ireturn, 1) := by decide +kernel
theorem dX6_layStates_0 : decode cX6_layStates 0 = .ok (.aload_n 0, 1) := by decide +kernel
theorem dX6_layStates_1 : decode cX6_layStates 1 = .ok (.invokevirtual 219, 3) := by decide +kernel
theorem dX6_layStates_4 : decode cX6_layStates 4 = .ok (.iconst 0, 1) := by decide +kernel
theorem dX6_layStates_5 : decode cX6_layStates 5 = .ok (.istore_n 3, 1) := by decide +kernel
theorem dX6_layStates_6 : decode cX6_layStates 6 = .ok (.iload_n 3, 1) := by decide +kernel
theorem dX6_layStates_7 : decode cX6_layStates 7 = .ok (.bipush 40, 2) := by decide +kernel
theorem dX6_layStates_9 : decode cX6_layStates 9 = .ok (.if_icmp .gt 99, 3) := by decide +kernel
theorem dX6_layStates_12 : decode cX6_layStates 12 = .ok (.iconst 0, 1) := by decide +kernel
theorem dX6_layStates_13 : decode cX6_layStates 13 = .ok (.istore 4, 2) := by decide +kernel
theorem dX6_layStates_15 : decode cX6_layStates 15 = .ok (.iload 4, 2) := by decide +kernel
theorem dX6_layStates_17 : decode cX6_layStates 17 = .ok (.bipush 8, 2) := by decide +kernel
theorem dX6_layStates_19 : decode cX6_layStates 19 = .ok (.if_icmp .ge 72, 3) := by decide +kernel
theorem dX6_layStates_22 : decode cX6_layStates 22 = .ok (.aload_n 0, 1) := by decide +kernel
theorem dX6_layStates_23 : decode cX6_layStates 23 = .ok (.getfield 19, 3) := by decide +kernel
theorem dX6_layStates_26 : decode cX6_layStates 26 = .ok (.iconst 1, 1) := by decide +kernel
theorem dX6_layStates_27 : decode cX6_layStates 27 = .ok (.iload 4, 2) := by decide +kernel
theorem dX6_layStates_29 : decode cX6_layStates 29 = .ok (.iadd, 1) := by decide +kernel
theorem dX6_layStates_30 : decode cX6_layStates 30 = .ok (.iaload, 1) := by decide +kernel
theorem dX6_layStates_31 : decode cX6_layStates 31 = .ok (.istore 5, 2) := by decide +kernel
theorem dX6_layStates_33 : decode cX6_layStates 33 = .ok (.aload_n 0, 1) := by decide +kernel
theorem dX6_layStates_34 : decode cX6_layStates 34 = .ok (.getfield 59, 3) := by decide +kernel
theorem dX6_layStates_37 : decode cX6_layStates 37 = .ok (.bipush 8, 2) := by decide +kernel
theorem dX6_layStates_39 : decode cX6_layStates 39 = .ok (.iload_n 3, 1) := by decide +kernel
theorem dX6_layStates_40 : decode cX6_layStates 40 = .ok (.imul, 1) := by decide +kernel
theorem dX6_layStates_41 : decode cX6_layStates 41 = .ok (.iload 4, 2) := by decide +kernel
theorem dX6_layStates_43 : decode cX6_layStates 43 = .ok (.iadd, 1) := by decide +kernel
theorem dX6_layStates_44 : decode cX6_layStates 44 = .ok (.iload 4, 2) := by decide +kernel
theorem dX6_layStates_46 : decode cX6_layStates 46 = .ok (.aload_n 0, 1) := by decide +kernel
theorem dX6_layStates_47 : decode cX6_layStates 47 = .ok (.getfield 19, 3) := by decide +kernel
theorem dX6_layStates_50 : decode cX6_layStates 50 = .ok (.iconst 0, 1) := by decide +kernel
theorem dX6_layStates_51 : decode cX6_layStates 51 = .ok (.iaload, 1) := by decide +kernel
theorem dX6_layStates_52 : decode cX6_layStates 52 = .ok (.if_icmp .ge 31, 3) := by decide +kernel
theorem dX6_layStates_55 : decode cX6_layStates 55 = .ok (.iload 5, 2) := by decide +kernel
theorem dX6_layStates_57 : decode cX6_layStates 57 = .ok (.i2l, 1) := by decide +kernel
theorem dX6_layStates_58 : decode cX6_layStates 58 = .ok (.ldc2_w 226, 3) := by decide +kernel
theorem dX6_layStates_61 : decode cX6_layStates 61 = .ok (.ldc2_w 92, 3) := by decide +kernel
theorem dX6_layStates_64 : decode cX6_layStates 64 = .ok (.invokestatic 66, 3) := by decide +kernel
theorem dX6_layStates_67 : decode cX6_layStates 67 = .ok (.ifCond .eq 16, 3) := by decide +kernel
theorem dX6_layStates_70 : decode cX6_layStates 70 = .ok (.aload_n 0, 1) := by decide +kernel
theorem dX6_layStates_71 : decode cX6_layStates 71 = .ok (.getfield 19, 3) := by decide +kernel
theorem dX6_layStates_74 : decode cX6_layStates 74 = .ok (.bipush 33, 2) := by decide +kernel
theorem dX6_layStates_76 : decode cX6_layStates 76 = .ok (.iload 4, 2) := by decide +kernel
theorem dX6_layStates_78 : decode cX6_layStates 78 = .ok (.iadd, 1) := by decide +kernel
theorem dX6_layStates_79 : decode cX6_layStates 79 = .ok (.iaload, 1) := by decide +kernel
theorem dX6_layStates_80 : decode cX6_layStates 80 = .ok (.goto 4, 3) := by decide +kernel
theorem dX6_layStates_83 : decode cX6_layStates 83 = .ok (.iconst 0, 1) := by decide +kernel
theorem dX6_layStates_84 : decode cX6_layStates 84 = .ok (.iastore, 1) := by decide +kernel
theorem dX6_layStates_85 : decode cX6_layStates 85 = .ok (.iinc 4 1, 3) := by decide +kernel
theorem dX6_layStates_88 : decode cX6_layStates 88 = .ok (.goto (-73), 3) := by decide +kernel
theorem dX6_layStates_91 : decode cX6_layStates 91 = .ok (.aload_n 0, 1) := by decide +kernel
theorem dX6_layStates_92 : decode cX6_layStates 92 = .ok (.aload_n 0, 1) := by decide +kernel
theorem dX6_layStates_93 : decode cX6_layStates 93 = .ok (.getfield 19, 3) := by decide +kernel
theorem dX6_layStates_96 : decode cX6_layStates 96 = .ok (.iload_n 1, 1) := by decide +kernel
theorem dX6_layStates_97 : decode cX6_layStates 97 = .ok (.iload_n 2, 1) := by decide +kernel
theorem dX6_layStates_98 : decode cX6_layStates 98 = .ok (.invokevirtual 208, 3) := by decide +kernel
theorem dX6_layStates_101 : decode cX6_layStates 101 = .ok (.pop, 1) := by decide +kernel
theorem dX6_layStates_102 : decode cX6_layStates 102 = .ok (.iinc 3 1, 3) := by decide +kernel
theorem dX6_layStates_105 : decode cX6_layStates 105 = .ok (.goto (-99), 3) := by decide +kernel
theorem dX6_layStates_108 : decode cX6_layStates 108 = .ok (.return_, 1) := by decide +kernel
theorem dX6_round_0 : decode cX6_round 0 = .ok (.aload_n 0, 1) := by decide +kernel
theorem dX6_round_1 : decode cX6_round 1 = .ok (.iconst 0, 1) := by decide +kernel
theorem dX6_round_2 : decode cX6_round 2 = .ok (.putfield 62, 3) := by decide +kernel
theorem dX6_round_5 : decode cX6_round 5 = .ok (.iload_n 1, 1) := by decide +kernel
theorem dX6_round_6 : decode cX6_round 6 = .ok (.iload_n 2, 1) := by decide +kernel
theorem dX6_round_7 : decode cX6_round 7 = .ok (.invokestatic 202, 3) := by decide +kernel
theorem dX6_round_10 : decode cX6_round 10 = .ok (.ifCond .eq 13, 3) := by decide +kernel
theorem dX6_round_13 : decode cX6_round 13 = .ok (.iload_n 3, 1) := by decide +kernel
theorem dX6_round_14 : decode cX6_round 14 = .ok (.i2l, 1) := by decide +kernel
theorem dX6_round_15 : decode cX6_round 15 = .ok (.lconst 0, 1) := by decide +kernel
theorem dX6_round_16 : decode cX6_round 16 = .ok (.lconst 1, 1) := by decide +kernel
theorem dX6_round_17 : decode cX6_round 17 = .ok (.invokestatic 66, 3) := by decide +kernel
theorem dX6_round_20 : decode cX6_round 20 = .ok (.ifCond .ne 6, 3) := by decide +kernel
theorem dX6_round_23 : decode cX6_round 23 = .ok (.bipush (-2), 2) := by decide +kernel
theorem dX6_round_25 : decode cX6_round 25 = .ok (.ireturn, 1) := by decide +kernel
theorem dX6_round_26 : decode cX6_round 26 = .ok (.aload_n 0, 1) := by decide +kernel
theorem dX6_round_27 : decode cX6_round 27 = .ok (.invokevirtual 187, 3) := by decide +kernel
theorem dX6_round_30 : decode cX6_round 30 = .ok (.ifCond .ne 6, 3) := by decide +kernel
theorem dX6_round_33 : decode cX6_round 33 = .ok (.bipush (-3), 2) := by decide +kernel
theorem dX6_round_35 : decode cX6_round 35 = .ok (.ireturn, 1) := by decide +kernel
theorem dX6_round_36 : decode cX6_round 36 = .ok (.aload_n 0, 1) := by decide +kernel
theorem dX6_round_37 : decode cX6_round 37 = .ok (.iload_n 1, 1) := by decide +kernel
theorem dX6_round_38 : decode cX6_round 38 = .ok (.iload_n 2, 1) := by decide +kernel
theorem dX6_round_39 : decode cX6_round 39 = .ok (.invokevirtual 228, 3) := by decide +kernel
theorem dX6_round_42 : decode cX6_round 42 = .ok (.iconst 1, 1) := by decide +kernel
theorem dX6_round_43 : decode cX6_round 43 = .ok (.istore 4, 2) := by decide +kernel
theorem dX6_round_45 : decode cX6_round 45 = .ok (.iload 4, 2) := by decide +kernel
theorem dX6_round_47 : decode cX6_round 47 = .ok (.bipush 40, 2) := by decide +kernel
theorem dX6_round_49 : decode cX6_round 49 = .ok (.if_icmp .gt 54, 3) := by decide +kernel
theorem dX6_round_52 : decode cX6_round 52 = .ok (.iconst 0, 1) := by decide +kernel
theorem dX6_round_53 : decode cX6_round 53 = .ok (.istore 5, 2) := by decide +kernel
theorem dX6_round_55 : decode cX6_round 55 = .ok (.iload 5, 2) := by decide +kernel
theorem dX6_round_57 : decode cX6_round 57 = .ok (.iload 4, 2) := by decide +kernel
theorem dX6_round_59 : decode cX6_round 59 = .ok (.iadd, 1) := by decide +kernel
theorem dX6_round_60 : decode cX6_round 60 = .ok (.bipush 40, 2) := by decide +kernel
theorem dX6_round_62 : decode cX6_round 62 = .ok (.if_icmp .gt 35, 3) := by decide +kernel
theorem dX6_round_65 : decode cX6_round 65 = .ok (.aload_n 0, 1) := by decide +kernel
theorem dX6_round_66 : decode cX6_round 66 = .ok (.iload 5, 2) := by decide +kernel
theorem dX6_round_68 : decode cX6_round 68 = .ok (.iload 5, 2) := by decide +kernel
theorem dX6_round_70 : decode cX6_round 70 = .ok (.iload 4, 2) := by decide +kernel
theorem dX6_round_72 : decode cX6_round 72 = .ok (.iadd, 1) := by decide +kernel
theorem dX6_round_73 : decode cX6_round 73 = .ok (.invokevirtual 232, 3) := by decide +kernel
theorem dX6_round_76 : decode cX6_round 76 = .ok (.ifCond .eq 15, 3) := by decide +kernel
theorem dX6_round_79 : decode cX6_round 79 = .ok (.iload_n 3, 1) := by decide +kernel
theorem dX6_round_80 : decode cX6_round 80 = .ok (.ifCond .ne 8, 3) := by decide +kernel
theorem dX6_round_83 : decode cX6_round 83 = .ok (.iload 4, 2) := by decide +kernel
theorem dX6_round_85 : decode cX6_round 85 = .ok (.goto 5, 3) := by decide +kernel
theorem dX6_round_88 : decode cX6_round 88 = .ok (.iload 5, 2) := by decide +kernel
theorem dX6_round_90 : decode cX6_round 90 = .ok (.ireturn, 1) := by decide +kernel
theorem dX6_round_91 : decode cX6_round 91 = .ok (.iinc 5 1, 3) := by decide +kernel
theorem dX6_round_94 : decode cX6_round 94 = .ok (.goto (-39), 3) := by decide +kernel
theorem dX6_round_97 : decode cX6_round 97 = .ok (.iinc 4 1, 3) := by decide +kernel
theorem dX6_round_100 : decode cX6_round 100 = .ok (.goto (-55), 3) := by decide +kernel
theorem dX6_round_103 : decode cX6_round 103 = .ok (.bipush (-9), 2) := by decide +kernel
theorem dX6_round_105 : decode cX6_round 105 = .ok (.ireturn, 1) := by decide +kernel
theorem dX6_longPower_0 : decode cX6_longPower 0 = .ok (.lconst 1, 1) := by decide +kernel
theorem dX6_longPower_1 : decode cX6_longPower 1 = .ok (.lstore_n 3, 1) := by decide +kernel
theorem dX6_longPower_2 : decode cX6_longPower 2 = .ok (.iconst 0, 1) := by decide +kernel
theorem dX6_longPower_3 : decode cX6_longPower 3 = .ok (.istore 5, 2) := by decide +kernel
theorem dX6_longPower_5 : decode cX6_longPower 5 = .ok (.iload 5, 2) := by decide +kernel
theorem dX6_longPower_7 : decode cX6_longPower 7 = .ok (.iload_n 2, 1) := by decide +kernel
theorem dX6_longPower_8 : decode cX6_longPower 8 = .ok (.if_icmp .ge 13, 3) := by decide +kernel
theorem dX6_longPower_11 : decode cX6_longPower 11 = .ok (.lload_n 3, 1) := by decide +kernel
theorem dX6_longPower_12 : decode cX6_longPower 12 = .ok (.lload_n 0, 1) := by decide +kernel
theorem dX6_longPower_13 : decode cX6_longPower 13 = .ok (.lmul, 1) := by decide +kernel
theorem dX6_longPower_14 : decode cX6_longPower 14 = .ok (.lstore_n 3, 1) := by decide +kernel
theorem dX6_longPower_15 : decode cX6_longPower 15 = .ok (.iinc 5 1, 3) := by decide +kernel
theorem dX6_longPower_18 : decode cX6_longPower 18 = .ok (.goto (-13), 3) := by decide +kernel
theorem dX6_longPower_21 : decode cX6_longPower 21 = .ok (.lload_n 3, 1) := by decide +kernel
theorem dX6_longPower_22 : decode cX6_longPower 22 = .ok (.lreturn, 1) := by decide +kernel
theorem dX6_areLike_0 : decode cX6_areLike 0 = .ok (.aload_n 0, 1) := by decide +kernel
theorem dX6_areLike_1 : decode cX6_areLike 1 = .ok (.iload_n 1, 1) := by decide +kernel
theorem dX6_areLike_2 : decode cX6_areLike 2 = .ok (.invokevirtual 125, 3) := by decide +kernel
theorem dX6_areLike_5 : decode cX6_areLike 5 = .ok (.istore_n 3, 1) := by decide +kernel
theorem dX6_areLike_6 : decode cX6_areLike 6 = .ok (.iload_n 3, 1) := by decide +kernel
theorem dX6_areLike_7 : decode cX6_areLike 7 = .ok (.ifCond .ne 8, 3) := by decide +kernel
theorem dX6_areLike_10 : decode cX6_areLike 10 = .ok (.bipush (-9), 2) := by decide +kernel
theorem dX6_areLike_12 : decode cX6_areLike 12 = .ok (.goto 9, 3) := by decide +kernel
theorem dX6_areLike_15 : decode cX6_areLike 15 = .ok (.aload_n 0, 1) := by decide +kernel
theorem dX6_areLike_16 : decode cX6_areLike 16 = .ok (.getfield 56, 3) := by decide +kernel
theorem dX6_areLike_19 : decode cX6_areLike 19 = .ok (.iconst 0, 1) := by decide +kernel
theorem dX6_areLike_20 : decode cX6_areLike 20 = .ok (.iaload, 1) := by decide +kernel
theorem dX6_areLike_21 : decode cX6_areLike 21 = .ok (.istore 4, 2) := by decide +kernel
theorem dX6_areLike_23 : decode cX6_areLike 23 = .ok (.aload_n 0, 1) := by decide +kernel
theorem dX6_areLike_24 : decode cX6_areLike 24 = .ok (.iload_n 2, 1) := by decide +kernel
theorem dX6_areLike_25 : decode cX6_areLike 25 = .ok (.invokevirtual 125, 3) := by decide +kernel
theorem dX6_areLike_28 : decode cX6_areLike 28 = .ok (.istore 5, 2) := by decide +kernel
theorem dX6_areLike_30 : decode cX6_areLike 30 = .ok (.iload_n 3, 1) := by decide +kernel
theorem dX6_areLike_31 : decode cX6_areLike 31 = .ok (.iload 5, 2) := by decide +kernel
theorem dX6_areLike_33 : decode cX6_areLike 33 = .ok (.if_icmp .ne 22, 3) := by decide +kernel
theorem dX6_areLike_36 : decode cX6_areLike 36 = .ok (.iload_n 3, 1) := by decide +kernel
theorem dX6_areLike_37 : decode cX6_areLike 37 = .ok (.ifCond .eq 14, 3) := by decide +kernel
theorem dX6_areLike_40 : decode cX6_areLike 40 = .ok (.aload_n 0, 1) := by decide +kernel
theorem dX6_areLike_41 : decode cX6_areLike 41 = .ok (.getfield 56, 3) := by decide +kernel
theorem dX6_areLike_44 : decode cX6_areLike 44 = .ok (.iconst 0, 1) := by decide +kernel
theorem dX6_areLike_45 : decode cX6_areLike 45 = .ok (.iaload, 1) := by decide +kernel
theorem dX6_areLike_46 : decode cX6_areLike 46 = .ok (.iload 4, 2) := by decide +kernel
theorem dX6_areLike_48 : decode cX6_areLike 48 = .ok (.if_icmp .ne 7, 3) := by decide +kernel
theorem dX6_areLike_51 : decode cX6_areLike 51 = .ok (.iconst 1, 1) := by decide +kernel
theorem dX6_areLike_52 : decode cX6_areLike 52 = .ok (.goto 4, 3) := by decide +kernel
theorem dX6_areLike_55 : decode cX6_areLike 55 = .ok (.iconst 0, 1) := by decide +kernel
theorem dX6_areLike_56 : decode cX6_areLike 56 = .ok (.ireturn, 1) := by decide +kernel
theorem dX6_isSo_0 : decode cX6_isSo 0 = .ok (.aload_n 0, 1) := by decide +kernel
theorem dX6_isSo_1 : decode cX6_isSo 1 = .ok (.iload_n 2, 1) := by decide +kernel
theorem dX6_isSo_2 : decode cX6_isSo 2 = .ok (.invokevirtual 196, 3) := by decide +kernel
theorem dX6_isSo_5 : decode cX6_isSo 5 = .ok (.ifCond .eq 5, 3) := by decide +kernel
theorem dX6_isSo_8 : decode cX6_isSo 8 = .ok (.iconst 0, 1) := by decide +kernel
theorem dX6_isSo_9 : decode cX6_isSo 9 = .ok (.ireturn, 1) := by decide +kernel
theorem dX6_isSo_10 : decode cX6_isSo 10 = .ok (.iload_n 1, 1) := by decide +kernel
theorem dX6_isSo_11 : decode cX6_isSo 11 = .ok (.tableswitch 98 3 5 #[25, 49, 78], 25) := by decide +kernel
theorem dX6_isSo_36 : decode cX6_isSo 36 = .ok (.iload_n 3, 1) := by decide +kernel
theorem dX6_isSo_37 : decode cX6_isSo 37 = .ok (.ifCond .ne 21, 3) := by decide +kernel
theorem dX6_isSo_40 : decode cX6_isSo 40 = .ok (.aload_n 0, 1) := by decide +kernel
theorem dX6_isSo_41 : decode cX6_isSo 41 = .ok (.getfield 19, 3) := by decide +kernel
theorem dX6_isSo_44 : decode cX6_isSo 44 = .ok (.bipush 41, 2) := by decide +kernel
theorem dX6_isSo_46 : decode cX6_isSo 46 = .ok (.iload_n 2, 1) := by decide +kernel
theorem dX6_isSo_47 : decode cX6_isSo 47 = .ok (.iadd, 1) := by decide +kernel
theorem dX6_isSo_48 : decode cX6_isSo 48 = .ok (.iaload, 1) := by decide +kernel
theorem dX6_isSo_49 : decode cX6_isSo 49 = .ok (.iload 4, 2) := by decide +kernel
theorem dX6_isSo_51 : decode cX6_isSo 51 = .ok (.if_icmp .ne 7, 3) := by decide +kernel
theorem dX6_isSo_54 : decode cX6_isSo 54 = .ok (.iconst 1, 1) := by decide +kernel
theorem dX6_isSo_55 : decode cX6_isSo 55 = .ok (.goto 4, 3) := by decide +kernel
theorem dX6_isSo_58 : decode cX6_isSo 58 = .ok (.iconst 0, 1) := by decide +kernel
theorem dX6_isSo_59 : decode cX6_isSo 59 = .ok (.ireturn, 1) := by decide +kernel
theorem dX6_isSo_60 : decode cX6_isSo 60 = .ok (.iload_n 3, 1) := by decide +kernel
theorem dX6_isSo_61 : decode cX6_isSo 61 = .ok (.ifCond .ne 26, 3) := by decide +kernel
theorem dX6_isSo_64 : decode cX6_isSo 64 = .ok (.iload 4, 2) := by decide +kernel
theorem dX6_isSo_66 : decode cX6_isSo 66 = .ok (.ifCond .ne 21, 3) := by decide +kernel
theorem dX6_isSo_69 : decode cX6_isSo 69 = .ok (.aload_n 0, 1) := by decide +kernel
theorem dX6_isSo_70 : decode cX6_isSo 70 = .ok (.getfield 19, 3) := by decide +kernel
theorem dX6_isSo_73 : decode cX6_isSo 73 = .ok (.bipush 41, 2) := by decide +kernel
theorem dX6_isSo_75 : decode cX6_isSo 75 = .ok (.iload_n 2, 1) := by decide +kernel
theorem dX6_isSo_76 : decode cX6_isSo 76 = .ok (.iadd, 1) := by decide +kernel
theorem dX6_isSo_77 : decode cX6_isSo 77 = .ok (.iaload, 1) := by decide +kernel
theorem dX6_isSo_78 : decode cX6_isSo 78 = .ok (.bipush (-9), 2) := by decide +kernel
theorem dX6_isSo_80 : decode cX6_isSo 80 = .ok (.if_icmp .ne 7, 3) := by decide +kernel
theorem dX6_isSo_83 : decode cX6_isSo 83 = .ok (.iconst 1, 1) := by decide +kernel
theorem dX6_isSo_84 : decode cX6_isSo 84 = .ok (.goto 4, 3) := by decide +kernel
theorem dX6_isSo_87 : decode cX6_isSo 87 = .ok (.iconst 0, 1) := by decide +kernel
theorem dX6_isSo_88 : decode cX6_isSo 88 = .ok (.ireturn, 1) := by decide +kernel
theorem dX6_isSo_89 : decode cX6_isSo 89 = .ok (.iload 4, 2) := by decide +kernel
theorem dX6_isSo_91 : decode cX6_isSo 91 = .ok (.ifCond .ne 16, 3) := by decide +kernel
theorem dX6_isSo_94 : decode cX6_isSo 94 = .ok (.aload_n 0, 1) := by decide +kernel
theorem dX6_isSo_95 : decode cX6_isSo 95 = .ok (.iload_n 2, 1) := by decide +kernel
theorem dX6_isSo_96 : decode cX6_isSo 96 = .ok (.invokevirtual 125, 3) := by decide +kernel
theorem dX6_isSo_99 : decode cX6_isSo 99 = .ok (.iload_n 3, 1) := by decide +kernel
theorem dX6_isSo_100 : decode cX6_isSo 100 = .ok (.if_icmp .ne 7, 3) := by decide +kernel
theorem dX6_isSo_103 : decode cX6_isSo 103 = .ok (.iconst 1, 1) := by decide +kernel
theorem dX6_isSo_104 : decode cX6_isSo 104 = .ok (.goto 4, 3) := by decide +kernel
theorem dX6_isSo_107 : decode cX6_isSo 107 = .ok (.iconst 0, 1) := by decide +kernel
theorem dX6_isSo_108 : decode cX6_isSo 108 = .ok (.ireturn, 1) := by decide +kernel
theorem dX6_isSo_109 : decode cX6_isSo 109 = .ok (.iload_n 1, 1) := by decide +kernel
theorem dX6_isSo_110 : decode cX6_isSo 110 = .ok (.bipush 6, 2) := by decide +kernel
theorem dX6_isSo_112 : decode cX6_isSo 112 = .ok (.if_icmp .ne 29, 3) := by decide +kernel
theorem dX6_isSo_115 : decode cX6_isSo 115 = .ok (.iload 4, 2) := by decide +kernel
theorem dX6_isSo_117 : decode cX6_isSo 117 = .ok (.ifCond .ne 24, 3) := by decide +kernel
theorem dX6_isSo_120 : decode cX6_isSo 120 = .ok (.aload_n 0, 1) := by decide +kernel
theorem dX6_isSo_121 : decode cX6_isSo 121 = .ok (.iload_n 3, 1) := by decide +kernel
theorem dX6_isSo_122 : decode cX6_isSo 122 = .ok (.invokevirtual 196, 3) := by decide +kernel
theorem dX6_isSo_125 : decode cX6_isSo 125 = .ok (.ifCond .ne 16, 3) := by decide +kernel
theorem dX6_isSo_128 : decode cX6_isSo 128 = .ok (.aload_n 0, 1) := by decide +kernel
theorem dX6_isSo_129 : decode cX6_isSo 129 = .ok (.iload_n 2, 1) := by decide +kernel
theorem dX6_isSo_130 : decode cX6_isSo 130 = .ok (.iload_n 3, 1) := by decide +kernel
theorem dX6_isSo_131 : decode cX6_isSo 131 = .ok (.invokevirtual 235, 3) := by decide +kernel
theorem dX6_isSo_134 : decode cX6_isSo 134 = .ok (.ifCond .eq 7, 3) := by decide +kernel
theorem dX6_isSo_137 : decode cX6_isSo 137 = .ok (.iconst 1, 1) := by decide +kernel
theorem dX6_isSo_138 : decode cX6_isSo 138 = .ok (.goto 4, 3) := by decide +kernel
theorem dX6_isSo_141 : decode cX6_isSo 141 = .ok (.iconst 0, 1) := by decide +kernel
theorem dX6_isSo_142 : decode cX6_isSo 142 = .ok (.ireturn, 1) := by decide +kernel
theorem dX6_does_0 : decode cX6_does 0 = .ok (.iload_n 1, 1) := by decide +kernel
theorem dX6_does_1 : decode cX6_does 1 = .ok (.sipush 10000, 3) := by decide +kernel
theorem dX6_does_4 : decode cX6_does 4 = .ok (.idiv, 1) := by decide +kernel
theorem dX6_does_5 : decode cX6_does 5 = .ok (.iconst 1, 1) := by decide +kernel
theorem dX6_does_6 : decode cX6_does 6 = .ok (.if_icmp .ne 25, 3) := by decide +kernel
theorem dX6_does_9 : decode cX6_does 9 = .ok (.aload_n 0, 1) := by decide +kernel
theorem dX6_does_10 : decode cX6_does 10 = .ok (.aload_n 0, 1) := by decide +kernel
theorem dX6_does_11 : decode cX6_does 11 = .ok (.getfield 19, 3) := by decide +kernel
theorem dX6_does_14 : decode cX6_does 14 = .ok (.iload_n 1, 1) := by decide +kernel
theorem dX6_does_15 : decode cX6_does 15 = .ok (.bipush 100, 2) := by decide +kernel
theorem dX6_does_17 : decode cX6_does 17 = .ok (.idiv, 1) := by decide +kernel
theorem dX6_does_18 : decode cX6_does 18 = .ok (.bipush 100, 2) := by decide +kernel
theorem dX6_does_20 : decode cX6_does 20 = .ok (.irem, 1) := by decide +kernel
theorem dX6_does_21 : decode cX6_does 21 = .ok (.iload_n 1, 1) := by decide +kernel
theorem dX6_does_22 : decode cX6_does 22 = .ok (.bipush 100, 2) := by decide +kernel
theorem dX6_does_24 : decode cX6_does 24 = .ok (.irem, 1) := by decide +kernel
theorem dX6_does_25 : decode cX6_does 25 = .ok (.invokevirtual 208, 3) := by decide +kernel
theorem dX6_does_28 : decode cX6_does 28 = .ok (.pop, 1) := by decide +kernel
theorem dX6_does_29 : decode cX6_does 29 = .ok (.iconst 1, 1) := by decide +kernel
theorem dX6_does_30 : decode cX6_does 30 = .ok (.ireturn, 1) := by decide +kernel
theorem dX6_does_31 : decode cX6_does 31 = .ok (.iload_n 1, 1) := by decide +kernel
theorem dX6_does_32 : decode cX6_does 32 = .ok (.sipush 20000, 3) := by decide +kernel
theorem dX6_does_35 : decode cX6_does 35 = .ok (.if_icmp .ne 12, 3) := by decide +kernel
theorem dX6_does_38 : decode cX6_does 38 = .ok (.aload_n 0, 1) := by decide +kernel
theorem dX6_does_39 : decode cX6_does 39 = .ok (.getfield 19, 3) := by decide +kernel
theorem dX6_does_42 : decode cX6_does 42 = .ok (.invokestatic 181, 3) := by decide +kernel
theorem dX6_does_45 : decode cX6_does 45 = .ok (.iconst 1, 1) := by decide +kernel
theorem dX6_does_46 : decode cX6_does 46 = .ok (.ireturn, 1) := by decide +kernel
theorem dX6_does_47 : decode cX6_does 47 = .ok (.aload_n 0, 1) := by decide +kernel
theorem dX6_does_48 : decode cX6_does 48 = .ok (.iload_n 1, 1) := by decide +kernel
theorem dX6_does_49 : decode cX6_does 49 = .ok (.sipush 10000, 3) := by decide +kernel
theorem dX6_does_52 : decode cX6_does 52 = .ok (.idiv, 1) := by decide +kernel
theorem dX6_does_53 : decode cX6_does 53 = .ok (.iload_n 1, 1) := by decide +kernel
theorem dX6_does_54 : decode cX6_does 54 = .ok (.sipush 1000, 3) := by decide +kernel
theorem dX6_does_57 : decode cX6_does 57 = .ok (.idiv, 1) := by decide +kernel
theorem dX6_does_58 : decode cX6_does 58 = .ok (.bipush 10, 2) := by decide +kernel
theorem dX6_does_60 : decode cX6_does 60 = .ok (.irem, 1) := by decide +kernel
theorem dX6_does_61 : decode cX6_does 61 = .ok (.iload_n 1, 1) := by decide +kernel
theorem dX6_does_62 : decode cX6_does 62 = .ok (.bipush 100, 2) := by decide +kernel
theorem dX6_does_64 : decode cX6_does 64 = .ok (.idiv, 1) := by decide +kernel
theorem dX6_does_65 : decode cX6_does 65 = .ok (.bipush 10, 2) := by decide +kernel
theorem dX6_does_67 : decode cX6_does 67 = .ok (.irem, 1) := by decide +kernel
theorem dX6_does_68 : decode cX6_does 68 = .ok (.iload_n 1, 1) := by decide +kernel
theorem dX6_does_69 : decode cX6_does 69 = .ok (.bipush 100, 2) := by decide +kernel
theorem dX6_does_71 : decode cX6_does 71 = .ok (.irem, 1) := by decide +kernel
theorem dX6_does_72 : decode cX6_does 72 = .ok (.invokevirtual 238, 3) := by decide +kernel
theorem dX6_does_75 : decode cX6_does 75 = .ok (.ireturn, 1) := by decide +kernel
theorem dX6_judge_0 : decode cX6_judge 0 = .ok (.aload_n 0, 1) := by decide +kernel
theorem dX6_judge_1 : decode cX6_judge 1 = .ok (.iconst 0, 1) := by decide +kernel
theorem dX6_judge_2 : decode cX6_judge 2 = .ok (.putfield 62, 3) := by decide +kernel
theorem dX6_judge_5 : decode cX6_judge 5 = .ok (.iload_n 1, 1) := by decide +kernel
theorem dX6_judge_6 : decode cX6_judge 6 = .ok (.i2l, 1) := by decide +kernel
theorem dX6_judge_7 : decode cX6_judge 7 = .ok (.lconst 1, 1) := by decide +kernel
theorem dX6_judge_8 : decode cX6_judge 8 = .ok (.ldc2_w 241, 3) := by decide +kernel
theorem dX6_judge_11 : decode cX6_judge 11 = .ok (.invokestatic 66, 3) := by decide +kernel
theorem dX6_judge_14 : decode cX6_judge 14 = .ok (.ifCond .eq 20, 3) := by decide +kernel
theorem dX6_judge_17 : decode cX6_judge 17 = .ok (.lload_n 2, 1) := by decide +kernel
theorem dX6_judge_18 : decode cX6_judge 18 = .ok (.lconst 0, 1) := by decide +kernel
theorem dX6_judge_19 : decode cX6_judge 19 = .ok (.ldc2_w 243, 3) := by decide +kernel
theorem dX6_judge_22 : decode cX6_judge 22 = .ok (.iload_n 1, 1) := by decide +kernel
theorem dX6_judge_23 : decode cX6_judge 23 = .ok (.invokestatic 245, 3) := by decide +kernel
theorem dX6_judge_26 : decode cX6_judge 26 = .ok (.lconst 1, 1) := by decide +kernel
theorem dX6_judge_27 : decode cX6_judge 27 = .ok (.lsub, 1) := by decide +kernel
theorem dX6_judge_28 : decode cX6_judge 28 = .ok (.invokestatic 66, 3) := by decide +kernel
theorem dX6_judge_31 : decode cX6_judge 31 = .ok (.ifCond .ne 6, 3) := by decide +kernel
theorem dX6_judge_34 : decode cX6_judge 34 = .ok (.bipush (-2), 2) := by decide +kernel
theorem dX6_judge_36 : decode cX6_judge 36 = .ok (.ireturn, 1) := by decide +kernel
theorem dX6_judge_37 : decode cX6_judge 37 = .ok (.aload_n 0, 1) := by decide +kernel
theorem dX6_judge_38 : decode cX6_judge 38 = .ok (.invokevirtual 187, 3) := by decide +kernel
theorem dX6_judge_41 : decode cX6_judge 41 = .ok (.ifCond .ne 6, 3) := by decide +kernel
theorem dX6_judge_44 : decode cX6_judge 44 = .ok (.bipush (-3), 2) := by decide +kernel
theorem dX6_judge_46 : decode cX6_judge 46 = .ok (.ireturn, 1) := by decide +kernel
theorem dX6_judge_47 : decode cX6_judge 47 = .ok (.aload_n 0, 1) := by decide +kernel
theorem dX6_judge_48 : decode cX6_judge 48 = .ok (.invokevirtual 219, 3) := by decide +kernel
theorem dX6_judge_51 : decode cX6_judge 51 = .ok (.iconst 0, 1) := by decide +kernel
theorem dX6_judge_52 : decode cX6_judge 52 = .ok (.istore 4, 2) := by decide +kernel
theorem dX6_judge_54 : decode cX6_judge 54 = .ok (.iload 4, 2) := by decide +kernel
theorem dX6_judge_56 : decode cX6_judge 56 = .ok (.iload_n 1, 1) := by decide +kernel
theorem dX6_judge_57 : decode cX6_judge 57 = .ok (.if_icmp .ge 38, 3) := by decide +kernel
theorem dX6_judge_60 : decode cX6_judge 60 = .ok (.aload_n 0, 1) := by decide +kernel
theorem dX6_judge_61 : decode cX6_judge 61 = .ok (.lload_n 2, 1) := by decide +kernel
theorem dX6_judge_62 : decode cX6_judge 62 = .ok (.ldc2_w 243, 3) := by decide +kernel
theorem dX6_judge_65 : decode cX6_judge 65 = .ok (.iload_n 1, 1) := by decide +kernel
theorem dX6_judge_66 : decode cX6_judge 66 = .ok (.iconst 1, 1) := by decide +kernel
theorem dX6_judge_67 : decode cX6_judge 67 = .ok (.isub, 1) := by decide +kernel
theorem dX6_judge_68 : decode cX6_judge 68 = .ok (.iload 4, 2) := by decide +kernel
theorem dX6_judge_70 : decode cX6_judge 70 = .ok (.isub, 1) := by decide +kernel
theorem dX6_judge_71 : decode cX6_judge 71 = .ok (.invokestatic 245, 3) := by decide +kernel
theorem dX6_judge_74 : decode cX6_judge 74 = .ok (.ldiv, 1) := by decide +kernel
theorem dX6_judge_75 : decode cX6_judge 75 = .ok (.ldc2_w 243, 3) := by decide +kernel
theorem dX6_judge_78 : decode cX6_judge 78 = .ok (.lrem, 1) := by decide +kernel
theorem dX6_judge_79 : decode cX6_judge 79 = .ok (.l2i, 1) := by decide +kernel
theorem dX6_judge_80 : decode cX6_judge 80 = .ok (.invokevirtual 249, 3) := by decide +kernel
theorem dX6_judge_83 : decode cX6_judge 83 = .ok (.ifCond .ne 6, 3) := by decide +kernel
theorem dX6_judge_86 : decode cX6_judge 86 = .ok (.iload 4, 2) := by decide +kernel
theorem dX6_judge_88 : decode cX6_judge 88 = .ok (.ireturn, 1) := by decide +kernel
theorem dX6_judge_89 : decode cX6_judge 89 = .ok (.iinc 4 1, 3) := by decide +kernel
theorem dX6_judge_92 : decode cX6_judge 92 = .ok (.goto (-38), 3) := by decide +kernel
theorem dX6_judge_95 : decode cX6_judge 95 = .ok (.bipush (-9), 2) := by decide +kernel
theorem dX6_judge_97 : decode cX6_judge 97 = .ok (.ireturn, 1) := by decide +kernel
theorem dX6_see_0 : decode cX6_see 0 = .ok (.aload_n 0, 1) := by decide +kernel
theorem dX6_see_1 : decode cX6_see 1 = .ok (.iconst 0, 1) := by decide +kernel
theorem dX6_see_2 : decode cX6_see 2 = .ok (.putfield 62, 3) := by decide +kernel
theorem dX6_see_5 : decode cX6_see 5 = .ok (.iload_n 1, 1) := by decide +kernel
theorem dX6_see_6 : decode cX6_see 6 = .ok (.i2l, 1) := by decide +kernel
theorem dX6_see_7 : decode cX6_see 7 = .ok (.lconst 1, 1) := by decide +kernel
theorem dX6_see_8 : decode cX6_see 8 = .ok (.ldc2_w 252, 3) := by decide +kernel
theorem dX6_see_11 : decode cX6_see 11 = .ok (.invokestatic 66, 3) := by decide +kernel
theorem dX6_see_14 : decode cX6_see 14 = .ok (.ifCond .eq 38, 3) := by decide +kernel
theorem dX6_see_17 : decode cX6_see 17 = .ok (.iload_n 2, 1) := by decide +kernel
theorem dX6_see_18 : decode cX6_see 18 = .ok (.i2l, 1) := by decide +kernel
theorem dX6_see_19 : decode cX6_see 19 = .ok (.lconst 0, 1) := by decide +kernel
theorem dX6_see_20 : decode cX6_see 20 = .ok (.ldc2_w 254, 3) := by decide +kernel
theorem dX6_see_23 : decode cX6_see 23 = .ok (.invokestatic 66, 3) := by decide +kernel
theorem dX6_see_26 : decode cX6_see 26 = .ok (.ifCond .eq 26, 3) := by decide +kernel
theorem dX6_see_29 : decode cX6_see 29 = .ok (.iload_n 3, 1) := by decide +kernel
theorem dX6_see_30 : decode cX6_see 30 = .ok (.i2l, 1) := by decide +kernel
theorem dX6_see_31 : decode cX6_see 31 = .ok (.lconst 0, 1) := by decide +kernel
theorem dX6_see_32 : decode cX6_see 32 = .ok (.ldc2_w 200, 3) := by decide +kernel
theorem dX6_see_35 : decode cX6_see 35 = .ok (.invokestatic 66, 3) := by decide +kernel
theorem dX6_see_38 : decode cX6_see 38 = .ok (.ifCond .eq 14, 3) := by decide +kernel
theorem dX6_see_41 : decode cX6_see 41 = .ok (.iload 4, 2) := by decide +kernel
theorem dX6_see_43 : decode cX6_see 43 = .ok (.i2l, 1) := by decide +kernel
theorem dX6_see_44 : decode cX6_see 44 = .ok (.lconst 0, 1) := by decide +kernel
theorem dX6_see_45 : decode cX6_see 45 = .ok (.lconst 1, 1) := by decide +kernel
theorem dX6_see_46 : decode cX6_see 46 = .ok (.invokestatic 66, 3) := by decide +kernel
theorem dX6_see_49 : decode cX6_see 49 = .ok (.ifCond .ne 6, 3) := by decide +kernel
theorem dX6_see_52 : decode cX6_see 52 = .ok (.bipush (-2), 2) := by decide +kernel
theorem dX6_see_54 : decode cX6_see 54 = .ok (.ireturn, 1) := by decide +kernel
theorem dX6_see_55 : decode cX6_see 55 = .ok (.aload_n 0, 1) := by decide +kernel
theorem dX6_see_56 : decode cX6_see 56 = .ok (.getfield 193, 3) := by decide +kernel
theorem dX6_see_59 : decode cX6_see 59 = .ok (.bipush 6, 2) := by decide +kernel
theorem dX6_see_61 : decode cX6_see 61 = .ok (.if_icmp .ne 6, 3) := by decide +kernel
theorem dX6_see_64 : decode cX6_see 64 = .ok (.bipush (-4), 2) := by decide +kernel
theorem dX6_see_66 : decode cX6_see 66 = .ok (.ireturn, 1) := by decide +kernel
theorem dX6_see_67 : decode cX6_see 67 = .ok (.aload_n 0, 1) := by decide +kernel
theorem dX6_see_68 : decode cX6_see 68 = .ok (.getfield 32, 3) := by decide +kernel
theorem dX6_see_71 : decode cX6_see 71 = .ok (.aload_n 0, 1) := by decide +kernel
theorem dX6_see_72 : decode cX6_see 72 = .ok (.getfield 193, 3) := by decide +kernel
theorem dX6_see_75 : decode cX6_see 75 = .ok (.iload_n 1, 1) := by decide +kernel
theorem dX6_see_76 : decode cX6_see 76 = .ok (.iastore, 1) := by decide +kernel
theorem dX6_see_77 : decode cX6_see 77 = .ok (.aload_n 0, 1) := by decide +kernel
theorem dX6_see_78 : decode cX6_see 78 = .ok (.getfield 35, 3) := by decide +kernel
theorem dX6_see_81 : decode cX6_see 81 = .ok (.aload_n 0, 1) := by decide +kernel
theorem dX6_see_82 : decode cX6_see 82 = .ok (.getfield 193, 3) := by decide +kernel
theorem dX6_see_85 : decode cX6_see 85 = .ok (.iload_n 2, 1) := by decide +kernel
theorem dX6_see_86 : decode cX6_see 86 = .ok (.iastore, 1) := by decide +kernel
theorem dX6_see_87 : decode cX6_see 87 = .ok (.aload_n 0, 1) := by decide +kernel
theorem dX6_see_88 : decode cX6_see 88 = .ok (.getfield 38, 3) := by decide +kernel
theorem dX6_see_91 : decode cX6_see 91 = .ok (.aload_n 0, 1) := by decide +kernel
theorem dX6_see_92 : decode cX6_see 92 = .ok (.getfield 193, 3) := by decide +kernel
theorem dX6_see_95 : decode cX6_see 95 = .ok (.iload_n 3, 1) := by decide +kernel
theorem dX6_see_96 : decode cX6_see 96 = .ok (.iastore, 1) := by decide +kernel
theorem dX6_see_97 : decode cX6_see 97 = .ok (.aload_n 0, 1) := by decide +kernel
theorem dX6_see_98 : decode cX6_see 98 = .ok (.getfield 41, 3) := by decide +kernel
theorem dX6_see_101 : decode cX6_see 101 = .ok (.aload_n 0, 1) := by decide +kernel
theorem dX6_see_102 : decode cX6_see 102 = .ok (.getfield 193, 3) := by decide +kernel
theorem dX6_see_105 : decode cX6_see 105 = .ok (.iload 4, 2) := by decide +kernel
theorem dX6_see_107 : decode cX6_see 107 = .ok (.iastore, 1) := by decide +kernel
theorem dX6_see_108 : decode cX6_see 108 = .ok (.aload_n 0, 1) := by decide +kernel
theorem dX6_see_109 : decode cX6_see 109 = .ok (.dup, 1) := by decide +kernel
theorem dX6_see_110 : decode cX6_see 110 = .ok (.getfield 193, 3) := by decide +kernel
theorem dX6_see_113 : decode cX6_see 113 = .ok (.iconst 1, 1) := by decide +kernel
theorem dX6_see_114 : decode cX6_see 114 = .ok (.iadd, 1) := by decide +kernel
theorem dX6_see_115 : decode cX6_see 115 = .ok (.putfield 193, 3) := by decide +kernel
theorem dX6_see_118 : decode cX6_see 118 = .ok (.aload_n 0, 1) := by decide +kernel
theorem dX6_see_119 : decode cX6_see 119 = .ok (.getfield 193, 3) := by decide +kernel
theorem dX6_see_122 : decode cX6_see 122 = .ok (.ireturn, 1) := by decide +kernel
theorem dX6_unsee_0 : decode cX6_unsee 0 = .ok (.aload_n 0, 1) := by decide +kernel
theorem dX6_unsee_1 : decode cX6_unsee 1 = .ok (.iconst 0, 1) := by decide +kernel
theorem dX6_unsee_2 : decode cX6_unsee 2 = .ok (.putfield 62, 3) := by decide +kernel
theorem dX6_unsee_5 : decode cX6_unsee 5 = .ok (.aload_n 0, 1) := by decide +kernel
theorem dX6_unsee_6 : decode cX6_unsee 6 = .ok (.getfield 193, 3) := by decide +kernel
theorem dX6_unsee_9 : decode cX6_unsee 9 = .ok (.istore_n 1, 1) := by decide +kernel
theorem dX6_unsee_10 : decode cX6_unsee 10 = .ok (.aload_n 0, 1) := by decide +kernel
theorem dX6_unsee_11 : decode cX6_unsee 11 = .ok (.iconst 0, 1) := by decide +kernel
theorem dX6_unsee_12 : decode cX6_unsee 12 = .ok (.putfield 193, 3) := by decide +kernel
theorem dX6_unsee_15 : decode cX6_unsee 15 = .ok (.iload_n 1, 1) := by decide +kernel
theorem dX6_unsee_16 : decode cX6_unsee 16 = .ok (.ireturn, 1) := by decide +kernel
theorem dX6_explains_0 : decode cX6_explains 0 = .ok (.aload_n 0, 1) := by decide +kernel
theorem dX6_explains_1 : decode cX6_explains 1 = .ok (.invokevirtual 219, 3) := by decide +kernel
theorem dX6_explains_4 : decode cX6_explains 4 = .ok (.aload_n 0, 1) := by decide +kernel
theorem dX6_explains_5 : decode cX6_explains 5 = .ok (.getfield 19, 3) := by decide +kernel
theorem dX6_explains_8 : decode cX6_explains 8 = .ok (.invokestatic 181, 3) := by decide +kernel
theorem dX6_explains_11 : decode cX6_explains 11 = .ok (.iconst 1, 1) := by decide +kernel
theorem dX6_explains_12 : decode cX6_explains 12 = .ok (.istore_n 3, 1) := by decide +kernel
theorem dX6_explains_13 : decode cX6_explains 13 = .ok (.iconst 1, 1) := by decide +kernel
theorem dX6_explains_14 : decode cX6_explains 14 = .ok (.istore 4, 2) := by decide +kernel
theorem dX6_explains_16 : decode cX6_explains 16 = .ok (.iload 4, 2) := by decide +kernel
theorem dX6_explains_18 : decode cX6_explains 18 = .ok (.bipush 12, 2) := by decide +kernel
theorem dX6_explains_20 : decode cX6_explains 20 = .ok (.if_icmp .gt 109, 3) := by decide +kernel
theorem dX6_explains_23 : decode cX6_explains 23 = .ok (.aload_n 0, 1) := by decide +kernel
theorem dX6_explains_24 : decode cX6_explains 24 = .ok (.aload_n 0, 1) := by decide +kernel
theorem dX6_explains_25 : decode cX6_explains 25 = .ok (.getfield 19, 3) := by decide +kernel
theorem dX6_explains_28 : decode cX6_explains 28 = .ok (.iload_n 1, 1) := by decide +kernel
theorem dX6_explains_29 : decode cX6_explains 29 = .ok (.iload_n 2, 1) := by decide +kernel
theorem dX6_explains_30 : decode cX6_explains 30 = .ok (.invokevirtual 208, 3) := by decide +kernel
theorem dX6_explains_33 : decode cX6_explains 33 = .ok (.pop, 1) := by decide +kernel
theorem dX6_explains_34 : decode cX6_explains 34 = .ok (.iconst 0, 1) := by decide +kernel
theorem dX6_explains_35 : decode cX6_explains 35 = .ok (.istore 5, 2) := by decide +kernel
theorem dX6_explains_37 : decode cX6_explains 37 = .ok (.iload 5, 2) := by decide +kernel
theorem dX6_explains_39 : decode cX6_explains 39 = .ok (.aload_n 0, 1) := by decide +kernel
theorem dX6_explains_40 : decode cX6_explains 40 = .ok (.getfield 193, 3) := by decide +kernel
theorem dX6_explains_43 : decode cX6_explains 43 = .ok (.if_icmp .ge 80, 3) := by decide +kernel
theorem dX6_explains_46 : decode cX6_explains 46 = .ok (.iload_n 3, 1) := by decide +kernel
theorem dX6_explains_47 : decode cX6_explains 47 = .ok (.ifCond .eq 68, 3) := by decide +kernel
theorem dX6_explains_50 : decode cX6_explains 50 = .ok (.aload_n 0, 1) := by decide +kernel
theorem dX6_explains_51 : decode cX6_explains 51 = .ok (.getfield 32, 3) := by decide +kernel
theorem dX6_explains_54 : decode cX6_explains 54 = .ok (.iload 5, 2) := by decide +kernel
theorem dX6_explains_56 : decode cX6_explains 56 = .ok (.iaload, 1) := by decide +kernel
theorem dX6_explains_57 : decode cX6_explains 57 = .ok (.iload 4, 2) := by decide +kernel
theorem dX6_explains_59 : decode cX6_explains 59 = .ok (.if_icmp .ne 52, 3) := by decide +kernel
theorem dX6_explains_62 : decode cX6_explains 62 = .ok (.aload_n 0, 1) := by decide +kernel
theorem dX6_explains_63 : decode cX6_explains 63 = .ok (.getfield 19, 3) := by decide +kernel
theorem dX6_explains_66 : decode cX6_explains 66 = .ok (.bipush 41, 2) := by decide +kernel
theorem dX6_explains_68 : decode cX6_explains 68 = .ok (.aload_n 0, 1) := by decide +kernel
theorem dX6_explains_69 : decode cX6_explains 69 = .ok (.getfield 35, 3) := by decide +kernel
theorem dX6_explains_72 : decode cX6_explains 72 = .ok (.iload 5, 2) := by decide +kernel
theorem dX6_explains_74 : decode cX6_explains 74 = .ok (.iaload, 1) := by decide +kernel
theorem dX6_explains_75 : decode cX6_explains 75 = .ok (.iadd, 1) := by decide +kernel
theorem dX6_explains_76 : decode cX6_explains 76 = .ok (.iaload, 1) := by decide +kernel
theorem dX6_explains_77 : decode cX6_explains 77 = .ok (.aload_n 0, 1) := by decide +kernel
theorem dX6_explains_78 : decode cX6_explains 78 = .ok (.getfield 38, 3) := by decide +kernel
theorem dX6_explains_81 : decode cX6_explains 81 = .ok (.iload 5, 2) := by decide +kernel
theorem dX6_explains_83 : decode cX6_explains 83 = .ok (.iaload, 1) := by decide +kernel
theorem dX6_explains_84 : decode cX6_explains 84 = .ok (.if_icmp .ne 7, 3) := by decide +kernel
theorem dX6_explains_87 : decode cX6_explains 87 = .ok (.iconst 1, 1) := by decide +kernel
theorem dX6_explains_88 : decode cX6_explains 88 = .ok (.goto 4, 3) := by decide +kernel
theorem dX6_explains_91 : decode cX6_explains 91 = .ok (.iconst 0, 1) := by decide +kernel
theorem dX6_explains_92 : decode cX6_explains 92 = .ok (.aload_n 0, 1) := by decide +kernel
theorem dX6_explains_93 : decode cX6_explains 93 = .ok (.getfield 41, 3) := by decide +kernel
theorem dX6_explains_96 : decode cX6_explains 96 = .ok (.iload 5, 2) := by decide +kernel
theorem dX6_explains_98 : decode cX6_explains 98 = .ok (.iaload, 1) := by decide +kernel
theorem dX6_explains_99 : decode cX6_explains 99 = .ok (.iconst 1, 1) := by decide +kernel
theorem dX6_explains_100 : decode cX6_explains 100 = .ok (.if_icmp .ne 7, 3) := by decide +kernel
theorem dX6_explains_103 : decode cX6_explains 103 = .ok (.iconst 1, 1) := by decide +kernel
theorem dX6_explains_104 : decode cX6_explains 104 = .ok (.goto 4, 3) := by decide +kernel
theorem dX6_explains_107 : decode cX6_explains 107 = .ok (.iconst 0, 1) := by decide +kernel
theorem dX6_explains_108 : decode cX6_explains 108 = .ok (.if_icmp .ne 7, 3) := by decide +kernel
theorem dX6_explains_111 : decode cX6_explains 111 = .ok (.iconst 1, 1) := by decide +kernel
theorem dX6_explains_112 : decode cX6_explains 112 = .ok (.goto 4, 3) := by decide +kernel
theorem dX6_explains_115 : decode cX6_explains 115 = .ok (.iconst 0, 1) := by decide +kernel
theorem dX6_explains_116 : decode cX6_explains 116 = .ok (.istore_n 3, 1) := by decide +kernel
theorem dX6_explains_117 : decode cX6_explains 117 = .ok (.iinc 5 1, 3) := by decide +kernel
theorem dX6_explains_120 : decode cX6_explains 120 = .ok (.goto (-83), 3) := by decide +kernel
theorem dX6_explains_123 : decode cX6_explains 123 = .ok (.iinc 4 1, 3) := by decide +kernel
theorem dX6_explains_126 : decode cX6_explains 126 = .ok (.goto (-110), 3) := by decide +kernel
theorem dX6_explains_129 : decode cX6_explains 129 = .ok (.iload_n 3, 1) := by decide +kernel
theorem dX6_explains_130 : decode cX6_explains 130 = .ok (.ireturn, 1) := by decide +kernel
theorem dX6_inputs_0 : decode cX6_inputs 0 = .ok (.aload_n 0, 1) := by decide +kernel
theorem dX6_inputs_1 : decode cX6_inputs 1 = .ok (.iconst 0, 1) := by decide +kernel
theorem dX6_inputs_2 : decode cX6_inputs 2 = .ok (.putfield 62, 3) := by decide +kernel
theorem dX6_inputs_5 : decode cX6_inputs 5 = .ok (.iload_n 1, 1) := by decide +kernel
theorem dX6_inputs_6 : decode cX6_inputs 6 = .ok (.i2l, 1) := by decide +kernel
theorem dX6_inputs_7 : decode cX6_inputs 7 = .ok (.lconst 0, 1) := by decide +kernel
theorem dX6_inputs_8 : decode cX6_inputs 8 = .ok (.lconst 1, 1) := by decide +kernel
theorem dX6_inputs_9 : decode cX6_inputs 9 = .ok (.invokestatic 66, 3) := by decide +kernel
theorem dX6_inputs_12 : decode cX6_inputs 12 = .ok (.ifCond .ne 6, 3) := by decide +kernel
theorem dX6_inputs_15 : decode cX6_inputs 15 = .ok (.bipush (-2), 2) := by decide +kernel
theorem dX6_inputs_17 : decode cX6_inputs 17 = .ok (.ireturn, 1) := by decide +kernel
theorem dX6_inputs_18 : decode cX6_inputs 18 = .ok (.aload_n 0, 1) := by decide +kernel
theorem dX6_inputs_19 : decode cX6_inputs 19 = .ok (.invokevirtual 187, 3) := by decide +kernel
theorem dX6_inputs_22 : decode cX6_inputs 22 = .ok (.ifCond .ne 6, 3) := by decide +kernel
theorem dX6_inputs_25 : decode cX6_inputs 25 = .ok (.bipush (-3), 2) := by decide +kernel
theorem dX6_inputs_27 : decode cX6_inputs 27 = .ok (.ireturn, 1) := by decide +kernel
theorem dX6_inputs_28 : decode cX6_inputs 28 = .ok (.aload_n 0, 1) := by decide +kernel
theorem dX6_inputs_29 : decode cX6_inputs 29 = .ok (.iconst 0, 1) := by decide +kernel
theorem dX6_inputs_30 : decode cX6_inputs 30 = .ok (.putfield 256, 3) := by decide +kernel
theorem dX6_inputs_33 : decode cX6_inputs 33 = .ok (.aload_n 0, 1) := by decide +kernel
theorem dX6_inputs_34 : decode cX6_inputs 34 = .ok (.bipush (-9), 2) := by decide +kernel
theorem dX6_inputs_36 : decode cX6_inputs 36 = .ok (.putfield 259, 3) := by decide +kernel
theorem dX6_inputs_39 : decode cX6_inputs 39 = .ok (.iconst 0, 1) := by decide +kernel
theorem dX6_inputs_40 : decode cX6_inputs 40 = .ok (.istore_n 2, 1) := by decide +kernel
theorem dX6_inputs_41 : decode cX6_inputs 41 = .ok (.iload_n 2, 1) := by decide +kernel
theorem dX6_inputs_42 : decode cX6_inputs 42 = .ok (.bipush 100, 2) := by decide +kernel
theorem dX6_inputs_44 : decode cX6_inputs 44 = .ok (.if_icmp .ge 63, 3) := by decide +kernel
theorem dX6_inputs_47 : decode cX6_inputs 47 = .ok (.aload_n 0, 1) := by decide +kernel
theorem dX6_inputs_48 : decode cX6_inputs 48 = .ok (.iload_n 2, 1) := by decide +kernel
theorem dX6_inputs_49 : decode cX6_inputs 49 = .ok (.bipush 10, 2) := by decide +kernel
theorem dX6_inputs_51 : decode cX6_inputs 51 = .ok (.idiv, 1) := by decide +kernel
theorem dX6_inputs_52 : decode cX6_inputs 52 = .ok (.iload_n 2, 1) := by decide +kernel
theorem dX6_inputs_53 : decode cX6_inputs 53 = .ok (.bipush 10, 2) := by decide +kernel
theorem dX6_inputs_55 : decode cX6_inputs 55 = .ok (.irem, 1) := by decide +kernel
theorem dX6_inputs_56 : decode cX6_inputs 56 = .ok (.invokevirtual 262, 3) := by decide +kernel
theorem dX6_inputs_59 : decode cX6_inputs 59 = .ok (.istore_n 3, 1) := by decide +kernel
theorem dX6_inputs_60 : decode cX6_inputs 60 = .ok (.aload_n 0, 1) := by decide +kernel
theorem dX6_inputs_61 : decode cX6_inputs 61 = .ok (.iload_n 3, 1) := by decide +kernel
theorem dX6_inputs_62 : decode cX6_inputs 62 = .ok (.ifCond .eq 14, 3) := by decide +kernel
theorem dX6_inputs_65 : decode cX6_inputs 65 = .ok (.aload_n 0, 1) := by decide +kernel
theorem dX6_inputs_66 : decode cX6_inputs 66 = .ok (.getfield 256, 3) := by decide +kernel
theorem dX6_inputs_69 : decode cX6_inputs 69 = .ok (.ifCond .ne 7, 3) := by decide +kernel
theorem dX6_inputs_72 : decode cX6_inputs 72 = .ok (.iload_n 2, 1) := by decide +kernel
theorem dX6_inputs_73 : decode cX6_inputs 73 = .ok (.goto 7, 3) := by decide +kernel
theorem dX6_inputs_76 : decode cX6_inputs 76 = .ok (.aload_n 0, 1) := by decide +kernel
theorem dX6_inputs_77 : decode cX6_inputs 77 = .ok (.getfield 259, 3) := by decide +kernel
theorem dX6_inputs_80 : decode cX6_inputs 80 = .ok (.putfield 259, 3) := by decide +kernel
theorem dX6_inputs_83 : decode cX6_inputs 83 = .ok (.aload_n 0, 1) := by decide +kernel
theorem dX6_inputs_84 : decode cX6_inputs 84 = .ok (.dup, 1) := by decide +kernel
theorem dX6_inputs_85 : decode cX6_inputs 85 = .ok (.getfield 256, 3) := by decide +kernel
theorem dX6_inputs_88 : decode cX6_inputs 88 = .ok (.iload_n 3, 1) := by decide +kernel
theorem dX6_inputs_89 : decode cX6_inputs 89 = .ok (.ifCond .eq 7, 3) := by decide +kernel
theorem dX6_inputs_92 : decode cX6_inputs 92 = .ok (.iconst 1, 1) := by decide +kernel
theorem dX6_inputs_93 : decode cX6_inputs 93 = .ok (.goto 4, 3) := by decide +kernel
theorem dX6_inputs_96 : decode cX6_inputs 96 = .ok (.iconst 0, 1) := by decide +kernel
theorem dX6_inputs_97 : decode cX6_inputs 97 = .ok (.iadd, 1) := by decide +kernel
theorem dX6_inputs_98 : decode cX6_inputs 98 = .ok (.putfield 256, 3) := by decide +kernel
theorem dX6_inputs_101 : decode cX6_inputs 101 = .ok (.iinc 2 1, 3) := by decide +kernel
theorem dX6_inputs_104 : decode cX6_inputs 104 = .ok (.goto (-63), 3) := by decide +kernel
theorem dX6_inputs_107 : decode cX6_inputs 107 = .ok (.iload_n 1, 1) := by decide +kernel
theorem dX6_inputs_108 : decode cX6_inputs 108 = .ok (.ifCond .ne 10, 3) := by decide +kernel
theorem dX6_inputs_111 : decode cX6_inputs 111 = .ok (.aload_n 0, 1) := by decide +kernel
theorem dX6_inputs_112 : decode cX6_inputs 112 = .ok (.getfield 256, 3) := by decide +kernel
theorem dX6_inputs_115 : decode cX6_inputs 115 = .ok (.goto 7, 3) := by decide +kernel
theorem dX6_inputs_118 : decode cX6_inputs 118 = .ok (.aload_n 0, 1) := by decide +kernel
theorem dX6_inputs_119 : decode cX6_inputs 119 = .ok (.getfield 259, 3) := by decide +kernel
theorem dX6_inputs_122 : decode cX6_inputs 122 = .ok (.ireturn, 1) := by decide +kernel
theorem dX6_divisor_0 : decode cX6_divisor 0 = .ok (.iload_n 0, 1) := by decide +kernel
theorem dX6_divisor_1 : decode cX6_divisor 1 = .ok (.istore_n 2, 1) := by decide +kernel
theorem dX6_divisor_2 : decode cX6_divisor 2 = .ok (.iload_n 1, 1) := by decide +kernel
theorem dX6_divisor_3 : decode cX6_divisor 3 = .ok (.istore_n 3, 1) := by decide +kernel
theorem dX6_divisor_4 : decode cX6_divisor 4 = .ok (.iload_n 3, 1) := by decide +kernel
theorem dX6_divisor_5 : decode cX6_divisor 5 = .ok (.ifCond .eq 16, 3) := by decide +kernel
theorem dX6_divisor_8 : decode cX6_divisor 8 = .ok (.iload_n 2, 1) := by decide +kernel
theorem dX6_divisor_9 : decode cX6_divisor 9 = .ok (.iload_n 3, 1) := by decide +kernel
theorem dX6_divisor_10 : decode cX6_divisor 10 = .ok (.irem, 1) := by decide +kernel
theorem dX6_divisor_11 : decode cX6_divisor 11 = .ok (.istore 4, 2) := by decide +kernel
theorem dX6_divisor_13 : decode cX6_divisor 13 = .ok (.iload_n 3, 1) := by decide +kernel
theorem dX6_divisor_14 : decode cX6_divisor 14 = .ok (.istore_n 2, 1) := by decide +kernel
theorem dX6_divisor_15 : decode cX6_divisor 15 = .ok (.iload 4, 2) := by decide +kernel
theorem dX6_divisor_17 : decode cX6_divisor 17 = .ok (.istore_n 3, 1) := by decide +kernel
theorem dX6_divisor_18 : decode cX6_divisor 18 = .ok (.goto (-14), 3) := by decide +kernel
theorem dX6_divisor_21 : decode cX6_divisor 21 = .ok (.iload_n 2, 1) := by decide +kernel
theorem dX6_divisor_22 : decode cX6_divisor 22 = .ok (.ireturn, 1) := by decide +kernel
theorem dX6_fraction_0 : decode cX6_fraction 0 = .ok (.iload_n 0, 1) := by decide +kernel
theorem dX6_fraction_1 : decode cX6_fraction 1 = .ok (.iload_n 1, 1) := by decide +kernel
theorem dX6_fraction_2 : decode cX6_fraction 2 = .ok (.invokestatic 265, 3) := by decide +kernel
theorem dX6_fraction_5 : decode cX6_fraction 5 = .ok (.istore_n 3, 1) := by decide +kernel
theorem dX6_fraction_6 : decode cX6_fraction 6 = .ok (.iload_n 2, 1) := by decide +kernel
theorem dX6_fraction_7 : decode cX6_fraction 7 = .ok (.ifCond .eq 9, 3) := by decide +kernel
theorem dX6_fraction_10 : decode cX6_fraction 10 = .ok (.iload_n 0, 1) := by decide +kernel
theorem dX6_fraction_11 : decode cX6_fraction 11 = .ok (.iload_n 3, 1) := by decide +kernel
theorem dX6_fraction_12 : decode cX6_fraction 12 = .ok (.idiv, 1) := by decide +kernel
theorem dX6_fraction_13 : decode cX6_fraction 13 = .ok (.goto 6, 3) := by decide +kernel
theorem dX6_fraction_16 : decode cX6_fraction 16 = .ok (.iload_n 1, 1) := by decide +kernel
theorem dX6_fraction_17 : decode cX6_fraction 17 = .ok (.iload_n 3, 1) := by decide +kernel
theorem dX6_fraction_18 : decode cX6_fraction 18 = .ok (.idiv, 1) := by decide +kernel
theorem dX6_fraction_19 : decode cX6_fraction 19 = .ok (.ireturn, 1) := by decide +kernel
theorem dX6_timesThere_0 : decode cX6_timesThere 0 = .ok (.aload_n 0, 1) := by decide +kernel
theorem dX6_timesThere_1 : decode cX6_timesThere 1 = .ok (.invokevirtual 219, 3) := by decide +kernel
theorem dX6_timesThere_4 : decode cX6_timesThere 4 = .ok (.iconst 0, 1) := by decide +kernel
theorem dX6_timesThere_5 : decode cX6_timesThere 5 = .ok (.istore 4, 2) := by decide +kernel
theorem dX6_timesThere_7 : decode cX6_timesThere 7 = .ok (.iconst 0, 1) := by decide +kernel
theorem dX6_timesThere_8 : decode cX6_timesThere 8 = .ok (.istore 5, 2) := by decide +kernel
theorem dX6_timesThere_10 : decode cX6_timesThere 10 = .ok (.iload 5, 2) := by decide +kernel
theorem dX6_timesThere_12 : decode cX6_timesThere 12 = .ok (.iload_n 3, 1) := by decide +kernel
theorem dX6_timesThere_13 : decode cX6_timesThere 13 = .ok (.if_icmp .ge 49, 3) := by decide +kernel
theorem dX6_timesThere_16 : decode cX6_timesThere 16 = .ok (.aload_n 0, 1) := by decide +kernel
theorem dX6_timesThere_17 : decode cX6_timesThere 17 = .ok (.aload_n 0, 1) := by decide +kernel
theorem dX6_timesThere_18 : decode cX6_timesThere 18 = .ok (.getfield 19, 3) := by decide +kernel
theorem dX6_timesThere_21 : decode cX6_timesThere 21 = .ok (.iload_n 2, 1) := by decide +kernel
theorem dX6_timesThere_22 : decode cX6_timesThere 22 = .ok (.iload 5, 2) := by decide +kernel
theorem dX6_timesThere_24 : decode cX6_timesThere 24 = .ok (.ishr, 1) := by decide +kernel
theorem dX6_timesThere_25 : decode cX6_timesThere 25 = .ok (.iconst 1, 1) := by decide +kernel
theorem dX6_timesThere_26 : decode cX6_timesThere 26 = .ok (.iand, 1) := by decide +kernel
theorem dX6_timesThere_27 : decode cX6_timesThere 27 = .ok (.iconst 0, 1) := by decide +kernel
theorem dX6_timesThere_28 : decode cX6_timesThere 28 = .ok (.invokevirtual 208, 3) := by decide +kernel
theorem dX6_timesThere_31 : decode cX6_timesThere 31 = .ok (.pop, 1) := by decide +kernel
theorem dX6_timesThere_32 : decode cX6_timesThere 32 = .ok (.iload 4, 2) := by decide +kernel
theorem dX6_timesThere_34 : decode cX6_timesThere 34 = .ok (.aload_n 0, 1) := by decide +kernel
theorem dX6_timesThere_35 : decode cX6_timesThere 35 = .ok (.getfield 19, 3) := by decide +kernel
theorem dX6_timesThere_38 : decode cX6_timesThere 38 = .ok (.bipush 41, 2) := by decide +kernel
theorem dX6_timesThere_40 : decode cX6_timesThere 40 = .ok (.iload_n 1, 1) := by decide +kernel
theorem dX6_timesThere_41 : decode cX6_timesThere 41 = .ok (.iadd, 1) := by decide +kernel
theorem dX6_timesThere_42 : decode cX6_timesThere 42 = .ok (.iaload, 1) := by decide +kernel
theorem dX6_timesThere_43 : decode cX6_timesThere 43 = .ok (.bipush (-9), 2) := by decide +kernel
theorem dX6_timesThere_45 : decode cX6_timesThere 45 = .ok (.if_icmp .ne 7, 3) := by decide +kernel
theorem dX6_timesThere_48 : decode cX6_timesThere 48 = .ok (.iconst 0, 1) := by decide +kernel
theorem dX6_timesThere_49 : decode cX6_timesThere 49 = .ok (.goto 4, 3) := by decide +kernel
theorem dX6_timesThere_52 : decode cX6_timesThere 52 = .ok (.iconst 1, 1) := by decide +kernel
theorem dX6_timesThere_53 : decode cX6_timesThere 53 = .ok (.iadd, 1) := by decide +kernel
theorem dX6_timesThere_54 : decode cX6_timesThere 54 = .ok (.istore 4, 2) := by decide +kernel
theorem dX6_timesThere_56 : decode cX6_timesThere 56 = .ok (.iinc 5 1, 3) := by decide +kernel
theorem dX6_timesThere_59 : decode cX6_timesThere 59 = .ok (.goto (-49), 3) := by decide +kernel
theorem dX6_timesThere_62 : decode cX6_timesThere 62 = .ok (.iload 4, 2) := by decide +kernel
theorem dX6_timesThere_64 : decode cX6_timesThere 64 = .ok (.ireturn, 1) := by decide +kernel
theorem dX6_odds_0 : decode cX6_odds 0 = .ok (.aload_n 0, 1) := by decide +kernel
theorem dX6_odds_1 : decode cX6_odds 1 = .ok (.iconst 0, 1) := by decide +kernel
theorem dX6_odds_2 : decode cX6_odds 2 = .ok (.putfield 62, 3) := by decide +kernel
theorem dX6_odds_5 : decode cX6_odds 5 = .ok (.aload_n 0, 1) := by decide +kernel
theorem dX6_odds_6 : decode cX6_odds 6 = .ok (.iload_n 1, 1) := by decide +kernel
theorem dX6_odds_7 : decode cX6_odds 7 = .ok (.invokevirtual 196, 3) := by decide +kernel
theorem dX6_odds_10 : decode cX6_odds 10 = .ok (.ifCond .eq 5, 3) := by decide +kernel
theorem dX6_odds_13 : decode cX6_odds 13 = .ok (.iconst (-1), 1) := by decide +kernel
theorem dX6_odds_14 : decode cX6_odds 14 = .ok (.ireturn, 1) := by decide +kernel
theorem dX6_odds_15 : decode cX6_odds 15 = .ok (.iload_n 2, 1) := by decide +kernel
theorem dX6_odds_16 : decode cX6_odds 16 = .ok (.i2l, 1) := by decide +kernel
theorem dX6_odds_17 : decode cX6_odds 17 = .ok (.lconst 0, 1) := by decide +kernel
theorem dX6_odds_18 : decode cX6_odds 18 = .ok (.ldc2_w 226, 3) := by decide +kernel
theorem dX6_odds_21 : decode cX6_odds 21 = .ok (.invokestatic 66, 3) := by decide +kernel
theorem dX6_odds_24 : decode cX6_odds 24 = .ok (.ifCond .eq 28, 3) := by decide +kernel
theorem dX6_odds_27 : decode cX6_odds 27 = .ok (.iload_n 3, 1) := by decide +kernel
theorem dX6_odds_28 : decode cX6_odds 28 = .ok (.i2l, 1) := by decide +kernel
theorem dX6_odds_29 : decode cX6_odds 29 = .ok (.lconst 1, 1) := by decide +kernel
theorem dX6_odds_30 : decode cX6_odds 30 = .ok (.ldc2_w 226, 3) := by decide +kernel
theorem dX6_odds_33 : decode cX6_odds 33 = .ok (.invokestatic 66, 3) := by decide +kernel
theorem dX6_odds_36 : decode cX6_odds 36 = .ok (.ifCond .eq 16, 3) := by decide +kernel
theorem dX6_odds_39 : decode cX6_odds 39 = .ok (.iload 4, 2) := by decide +kernel
theorem dX6_odds_41 : decode cX6_odds 41 = .ok (.i2l, 1) := by decide +kernel
theorem dX6_odds_42 : decode cX6_odds 42 = .ok (.lconst 0, 1) := by decide +kernel
theorem dX6_odds_43 : decode cX6_odds 43 = .ok (.ldc2_w 269, 3) := by decide +kernel
theorem dX6_odds_46 : decode cX6_odds 46 = .ok (.invokestatic 66, 3) := by decide +kernel
theorem dX6_odds_49 : decode cX6_odds 49 = .ok (.ifCond .ne 6, 3) := by decide +kernel
theorem dX6_odds_52 : decode cX6_odds 52 = .ok (.bipush (-2), 2) := by decide +kernel
theorem dX6_odds_54 : decode cX6_odds 54 = .ok (.ireturn, 1) := by decide +kernel
theorem dX6_odds_55 : decode cX6_odds 55 = .ok (.aload_n 0, 1) := by decide +kernel
theorem dX6_odds_56 : decode cX6_odds 56 = .ok (.invokevirtual 187, 3) := by decide +kernel
theorem dX6_odds_59 : decode cX6_odds 59 = .ok (.ifCond .ne 6, 3) := by decide +kernel
theorem dX6_odds_62 : decode cX6_odds 62 = .ok (.bipush (-3), 2) := by decide +kernel
theorem dX6_odds_64 : decode cX6_odds 64 = .ok (.ireturn, 1) := by decide +kernel
theorem dX6_odds_65 : decode cX6_odds 65 = .ok (.iconst 0, 1) := by decide +kernel
theorem dX6_odds_66 : decode cX6_odds 66 = .ok (.istore 6, 2) := by decide +kernel
theorem dX6_odds_68 : decode cX6_odds 68 = .ok (.iconst 0, 1) := by decide +kernel
theorem dX6_odds_69 : decode cX6_odds 69 = .ok (.istore 7, 2) := by decide +kernel
theorem dX6_odds_71 : decode cX6_odds 71 = .ok (.iload 7, 2) := by decide +kernel
theorem dX6_odds_73 : decode cX6_odds 73 = .ok (.iconst 1, 1) := by decide +kernel
theorem dX6_odds_74 : decode cX6_odds 74 = .ok (.iload_n 3, 1) := by decide +kernel
theorem dX6_odds_75 : decode cX6_odds 75 = .ok (.ishl, 1) := by decide +kernel
theorem dX6_odds_76 : decode cX6_odds 76 = .ok (.if_icmp .ge 80, 3) := by decide +kernel
theorem dX6_odds_79 : decode cX6_odds 79 = .ok (.iconst 0, 1) := by decide +kernel
theorem dX6_odds_80 : decode cX6_odds 80 = .ok (.istore 8, 2) := by decide +kernel
theorem dX6_odds_82 : decode cX6_odds 82 = .ok (.iconst 0, 1) := by decide +kernel
theorem dX6_odds_83 : decode cX6_odds 83 = .ok (.istore 9, 2) := by decide +kernel
theorem dX6_odds_85 : decode cX6_odds 85 = .ok (.iload 9, 2) := by decide +kernel
theorem dX6_odds_87 : decode cX6_odds 87 = .ok (.iload_n 3, 1) := by decide +kernel
theorem dX6_odds_88 : decode cX6_odds 88 = .ok (.if_icmp .ge 21, 3) := by decide +kernel
theorem dX6_odds_91 : decode cX6_odds 91 = .ok (.iload 8, 2) := by decide +kernel
theorem dX6_odds_93 : decode cX6_odds 93 = .ok (.iload 7, 2) := by decide +kernel
theorem dX6_odds_95 : decode cX6_odds 95 = .ok (.iload 9, 2) := by decide +kernel
theorem dX6_odds_97 : decode cX6_odds 97 = .ok (.ishr, 1) := by decide +kernel
theorem dX6_odds_98 : decode cX6_odds 98 = .ok (.iconst 1, 1) := by decide +kernel
theorem dX6_odds_99 : decode cX6_odds 99 = .ok (.iand, 1) := by decide +kernel
theorem dX6_odds_100 : decode cX6_odds 100 = .ok (.iadd, 1) := by decide +kernel
theorem dX6_odds_101 : decode cX6_odds 101 = .ok (.istore 8, 2) := by decide +kernel
theorem dX6_odds_103 : decode cX6_odds 103 = .ok (.iinc 9 1, 3) := by decide +kernel
theorem dX6_odds_106 : decode cX6_odds 106 = .ok (.goto (-21), 3) := by decide +kernel
theorem dX6_odds_109 : decode cX6_odds 109 = .ok (.iload 6, 2) := by decide +kernel
theorem dX6_odds_111 : decode cX6_odds 111 = .ok (.aload_n 0, 1) := by decide +kernel
theorem dX6_odds_112 : decode cX6_odds 112 = .ok (.iload_n 1, 1) := by decide +kernel
theorem dX6_odds_113 : decode cX6_odds 113 = .ok (.iload 7, 2) := by decide +kernel
theorem dX6_odds_115 : decode cX6_odds 115 = .ok (.iload_n 3, 1) := by decide +kernel
theorem dX6_odds_116 : decode cX6_odds 116 = .ok (.invokevirtual 271, 3) := by decide +kernel
theorem dX6_odds_119 : decode cX6_odds 119 = .ok (.iload_n 2, 1) := by decide +kernel
theorem dX6_odds_120 : decode cX6_odds 120 = .ok (.if_icmp .lt 26, 3) := by decide +kernel
theorem dX6_odds_123 : decode cX6_odds 123 = .ok (.iload 4, 2) := by decide +kernel
theorem dX6_odds_125 : decode cX6_odds 125 = .ok (.iload 8, 2) := by decide +kernel
theorem dX6_odds_127 : decode cX6_odds 127 = .ok (.invokestatic 274, 3) := by decide +kernel
theorem dX6_odds_130 : decode cX6_odds 130 = .ok (.bipush 10, 2) := by decide +kernel
theorem dX6_odds_132 : decode cX6_odds 132 = .ok (.iload 4, 2) := by decide +kernel
theorem dX6_odds_134 : decode cX6_odds 134 = .ok (.isub, 1) := by decide +kernel
theorem dX6_odds_135 : decode cX6_odds 135 = .ok (.iload_n 3, 1) := by decide +kernel
theorem dX6_odds_136 : decode cX6_odds 136 = .ok (.iload 8, 2) := by decide +kernel
theorem dX6_odds_138 : decode cX6_odds 138 = .ok (.isub, 1) := by decide +kernel
theorem dX6_odds_139 : decode cX6_odds 139 = .ok (.invokestatic 274, 3) := by decide +kernel
theorem dX6_odds_142 : decode cX6_odds 142 = .ok (.imul, 1) := by decide +kernel
theorem dX6_odds_143 : decode cX6_odds 143 = .ok (.goto 4, 3) := by decide +kernel
theorem dX6_odds_146 : decode cX6_odds 146 = .ok (.iconst 0, 1) := by decide +kernel
theorem dX6_odds_147 : decode cX6_odds 147 = .ok (.iadd, 1) := by decide +kernel
theorem dX6_odds_148 : decode cX6_odds 148 = .ok (.istore 6, 2) := by decide +kernel
theorem dX6_odds_150 : decode cX6_odds 150 = .ok (.iinc 7 1, 3) := by decide +kernel
theorem dX6_odds_153 : decode cX6_odds 153 = .ok (.goto (-82), 3) := by decide +kernel
theorem dX6_odds_156 : decode cX6_odds 156 = .ok (.iload 6, 2) := by decide +kernel
theorem dX6_odds_158 : decode cX6_odds 158 = .ok (.bipush 10, 2) := by decide +kernel
theorem dX6_odds_160 : decode cX6_odds 160 = .ok (.iload_n 3, 1) := by decide +kernel
theorem dX6_odds_161 : decode cX6_odds 161 = .ok (.invokestatic 274, 3) := by decide +kernel
theorem dX6_odds_164 : decode cX6_odds 164 = .ok (.iload 5, 2) := by decide +kernel
theorem dX6_odds_166 : decode cX6_odds 166 = .ok (.invokestatic 277, 3) := by decide +kernel
theorem dX6_odds_169 : decode cX6_odds 169 = .ok (.ireturn, 1) := by decide +kernel
theorem dX6_seed_0 : decode cX6_seed 0 = .ok (.aload_n 0, 1) := by decide +kernel
theorem dX6_seed_1 : decode cX6_seed 1 = .ok (.iconst 0, 1) := by decide +kernel
theorem dX6_seed_2 : decode cX6_seed 2 = .ok (.putfield 62, 3) := by decide +kernel
theorem dX6_seed_5 : decode cX6_seed 5 = .ok (.aload_n 0, 1) := by decide +kernel
theorem dX6_seed_6 : decode cX6_seed 6 = .ok (.getfield 281, 3) := by decide +kernel
theorem dX6_seed_9 : decode cX6_seed 9 = .ok (.lstore_n 3, 1) := by decide +kernel
theorem dX6_seed_10 : decode cX6_seed 10 = .ok (.aload_n 0, 1) := by decide +kernel
theorem dX6_seed_11 : decode cX6_seed 11 = .ok (.lload_n 1, 1) := by decide +kernel
theorem dX6_seed_12 : decode cX6_seed 12 = .ok (.putfield 281, 3) := by decide +kernel
theorem dX6_seed_15 : decode cX6_seed 15 = .ok (.lload_n 3, 1) := by decide +kernel
theorem dX6_seed_16 : decode cX6_seed 16 = .ok (.lreturn, 1) := by decide +kernel
theorem dX6_sumOf_0 : decode cX6_sumOf 0 = .ok (.iload_n 1, 1) := by decide +kernel
theorem dX6_sumOf_1 : decode cX6_sumOf 1 = .ok (.istore_n 2, 1) := by decide +kernel
theorem dX6_sumOf_2 : decode cX6_sumOf 2 = .ok (.iconst 0, 1) := by decide +kernel
theorem dX6_sumOf_3 : decode cX6_sumOf 3 = .ok (.istore_n 3, 1) := by decide +kernel
theorem dX6_sumOf_4 : decode cX6_sumOf 4 = .ok (.iload_n 3, 1) := by decide +kernel
theorem dX6_sumOf_5 : decode cX6_sumOf 5 = .ok (.bipush 8, 2) := by decide +kernel
theorem dX6_sumOf_7 : decode cX6_sumOf 7 = .ok (.if_icmp .ge 37, 3) := by decide +kernel
theorem dX6_sumOf_10 : decode cX6_sumOf 10 = .ok (.iload_n 2, 1) := by decide +kernel
theorem dX6_sumOf_11 : decode cX6_sumOf 11 = .ok (.aload_n 0, 1) := by decide +kernel
theorem dX6_sumOf_12 : decode cX6_sumOf 12 = .ok (.getfield 19, 3) := by decide +kernel
theorem dX6_sumOf_15 : decode cX6_sumOf 15 = .ok (.bipush 41, 2) := by decide +kernel
theorem dX6_sumOf_17 : decode cX6_sumOf 17 = .ok (.iload_n 3, 1) := by decide +kernel
theorem dX6_sumOf_18 : decode cX6_sumOf 18 = .ok (.iadd, 1) := by decide +kernel
theorem dX6_sumOf_19 : decode cX6_sumOf 19 = .ok (.iaload, 1) := by decide +kernel
theorem dX6_sumOf_20 : decode cX6_sumOf 20 = .ok (.ifCond .le 15, 3) := by decide +kernel
theorem dX6_sumOf_23 : decode cX6_sumOf 23 = .ok (.aload_n 0, 1) := by decide +kernel
theorem dX6_sumOf_24 : decode cX6_sumOf 24 = .ok (.getfield 19, 3) := by decide +kernel
theorem dX6_sumOf_27 : decode cX6_sumOf 27 = .ok (.bipush 41, 2) := by decide +kernel
theorem dX6_sumOf_29 : decode cX6_sumOf 29 = .ok (.iload_n 3, 1) := by decide +kernel
theorem dX6_sumOf_30 : decode cX6_sumOf 30 = .ok (.iadd, 1) := by decide +kernel
theorem dX6_sumOf_31 : decode cX6_sumOf 31 = .ok (.iaload, 1) := by decide +kernel
theorem dX6_sumOf_32 : decode cX6_sumOf 32 = .ok (.goto 4, 3) := by decide +kernel
theorem dX6_sumOf_35 : decode cX6_sumOf 35 = .ok (.iconst 0, 1) := by decide +kernel
theorem dX6_sumOf_36 : decode cX6_sumOf 36 = .ok (.iadd, 1) := by decide +kernel
theorem dX6_sumOf_37 : decode cX6_sumOf 37 = .ok (.istore_n 2, 1) := by decide +kernel
theorem dX6_sumOf_38 : decode cX6_sumOf 38 = .ok (.iinc 3 1, 3) := by decide +kernel
theorem dX6_sumOf_41 : decode cX6_sumOf 41 = .ok (.goto (-37), 3) := by decide +kernel
theorem dX6_sumOf_44 : decode cX6_sumOf 44 = .ok (.iload_n 2, 1) := by decide +kernel
theorem dX6_sumOf_45 : decode cX6_sumOf 45 = .ok (.ireturn, 1) := by decide +kernel
theorem dX6_runs_0 : decode cX6_runs 0 = .ok (.aload_n 0, 1) := by decide +kernel
theorem dX6_runs_1 : decode cX6_runs 1 = .ok (.iconst 0, 1) := by decide +kernel
theorem dX6_runs_2 : decode cX6_runs 2 = .ok (.putfield 62, 3) := by decide +kernel
theorem dX6_runs_5 : decode cX6_runs 5 = .ok (.iload_n 1, 1) := by decide +kernel
theorem dX6_runs_6 : decode cX6_runs 6 = .ok (.i2l, 1) := by decide +kernel
theorem dX6_runs_7 : decode cX6_runs 7 = .ok (.lconst 1, 1) := by decide +kernel
theorem dX6_runs_8 : decode cX6_runs 8 = .ok (.ldc2_w 285, 3) := by decide +kernel
theorem dX6_runs_11 : decode cX6_runs 11 = .ok (.invokestatic 66, 3) := by decide +kernel
theorem dX6_runs_14 : decode cX6_runs 14 = .ok (.ifCond .ne 6, 3) := by decide +kernel
theorem dX6_runs_17 : decode cX6_runs 17 = .ok (.bipush (-2), 2) := by decide +kernel
theorem dX6_runs_19 : decode cX6_runs 19 = .ok (.ireturn, 1) := by decide +kernel
theorem dX6_runs_20 : decode cX6_runs 20 = .ok (.aload_n 0, 1) := by decide +kernel
theorem dX6_runs_21 : decode cX6_runs 21 = .ok (.invokevirtual 187, 3) := by decide +kernel
theorem dX6_runs_24 : decode cX6_runs 24 = .ok (.ifCond .ne 6, 3) := by decide +kernel
theorem dX6_runs_27 : decode cX6_runs 27 = .ok (.bipush (-3), 2) := by decide +kernel
theorem dX6_runs_29 : decode cX6_runs 29 = .ok (.ireturn, 1) := by decide +kernel
theorem dX6_runs_30 : decode cX6_runs 30 = .ok (.aload_n 0, 1) := by decide +kernel
theorem dX6_runs_31 : decode cX6_runs 31 = .ok (.invokevirtual 219, 3) := by decide +kernel
theorem dX6_runs_34 : decode cX6_runs 34 = .ok (.iconst 0, 1) := by decide +kernel
theorem dX6_runs_35 : decode cX6_runs 35 = .ok (.istore_n 2, 1) := by decide +kernel
theorem dX6_runs_36 : decode cX6_runs 36 = .ok (.iconst 0, 1) := by decide +kernel
theorem dX6_runs_37 : decode cX6_runs 37 = .ok (.istore_n 3, 1) := by decide +kernel
theorem dX6_runs_38 : decode cX6_runs 38 = .ok (.iload_n 3, 1) := by decide +kernel
theorem dX6_runs_39 : decode cX6_runs 39 = .ok (.iload_n 1, 1) := by decide +kernel
theorem dX6_runs_40 : decode cX6_runs 40 = .ok (.if_icmp .ge 63, 3) := by decide +kernel
theorem dX6_runs_43 : decode cX6_runs 43 = .ok (.aload_n 0, 1) := by decide +kernel
theorem dX6_runs_44 : decode cX6_runs 44 = .ok (.aload_n 0, 1) := by decide +kernel
theorem dX6_runs_45 : decode cX6_runs 45 = .ok (.getfield 281, 3) := by decide +kernel
theorem dX6_runs_48 : decode cX6_runs 48 = .ok (.ldc2_w 287, 3) := by decide +kernel
theorem dX6_runs_51 : decode cX6_runs 51 = .ok (.lmul, 1) := by decide +kernel
theorem dX6_runs_52 : decode cX6_runs 52 = .ok (.ldc2_w 289, 3) := by decide +kernel
theorem dX6_runs_55 : decode cX6_runs 55 = .ok (.ladd, 1) := by decide +kernel
theorem dX6_runs_56 : decode cX6_runs 56 = .ok (.putfield 281, 3) := by decide +kernel
theorem dX6_runs_59 : decode cX6_runs 59 = .ok (.aload_n 0, 1) := by decide +kernel
theorem dX6_runs_60 : decode cX6_runs 60 = .ok (.getfield 281, 3) := by decide +kernel
theorem dX6_runs_63 : decode cX6_runs 63 = .ok (.bipush 33, 2) := by decide +kernel
theorem dX6_runs_65 : decode cX6_runs 65 = .ok (.lushr, 1) := by decide +kernel
theorem dX6_runs_66 : decode cX6_runs 66 = .ok (.l2i, 1) := by decide +kernel
theorem dX6_runs_67 : decode cX6_runs 67 = .ok (.istore 4, 2) := by decide +kernel
theorem dX6_runs_69 : decode cX6_runs 69 = .ok (.iload_n 2, 1) := by decide +kernel
theorem dX6_runs_70 : decode cX6_runs 70 = .ok (.aload_n 0, 1) := by decide +kernel
theorem dX6_runs_71 : decode cX6_runs 71 = .ok (.aload_n 0, 1) := by decide +kernel
theorem dX6_runs_72 : decode cX6_runs 72 = .ok (.aload_n 0, 1) := by decide +kernel
theorem dX6_runs_73 : decode cX6_runs 73 = .ok (.getfield 19, 3) := by decide +kernel
theorem dX6_runs_76 : decode cX6_runs 76 = .ok (.iload 4, 2) := by decide +kernel
theorem dX6_runs_78 : decode cX6_runs 78 = .ok (.bipush 10, 2) := by decide +kernel
theorem dX6_runs_80 : decode cX6_runs 80 = .ok (.irem, 1) := by decide +kernel
theorem dX6_runs_81 : decode cX6_runs 81 = .ok (.iload 4, 2) := by decide +kernel
theorem dX6_runs_83 : decode cX6_runs 83 = .ok (.bipush 16, 2) := by decide +kernel
theorem dX6_runs_85 : decode cX6_runs 85 = .ok (.idiv, 1) := by decide +kernel
theorem dX6_runs_86 : decode cX6_runs 86 = .ok (.bipush 10, 2) := by decide +kernel
theorem dX6_runs_88 : decode cX6_runs 88 = .ok (.irem, 1) := by decide +kernel
theorem dX6_runs_89 : decode cX6_runs 89 = .ok (.invokevirtual 208, 3) := by decide +kernel
theorem dX6_runs_92 : decode cX6_runs 92 = .ok (.invokevirtual 291, 3) := by decide +kernel
theorem dX6_runs_95 : decode cX6_runs 95 = .ok (.iadd, 1) := by decide +kernel
theorem dX6_runs_96 : decode cX6_runs 96 = .ok (.istore_n 2, 1) := by decide +kernel
theorem dX6_runs_97 : decode cX6_runs 97 = .ok (.iinc 3 1, 3) := by decide +kernel
theorem dX6_runs_100 : decode cX6_runs 100 = .ok (.goto (-62), 3) := by decide +kernel
theorem dX6_runs_103 : decode cX6_runs 103 = .ok (.iload_n 2, 1) := by decide +kernel
theorem dX6_runs_104 : decode cX6_runs 104 = .ok (.ireturn, 1) := by decide +kernel
theorem dX6_keep_0 : decode cX6_keep 0 = .ok (.aload_n 0, 1) := by decide +kernel
theorem dX6_keep_1 : decode cX6_keep 1 = .ok (.iconst 0, 1) := by decide +kernel
theorem dX6_keep_2 : decode cX6_keep 2 = .ok (.putfield 62, 3) := by decide +kernel
theorem dX6_keep_5 : decode cX6_keep 5 = .ok (.iload_n 1, 1) := by decide +kernel
theorem dX6_keep_6 : decode cX6_keep 6 = .ok (.i2l, 1) := by decide +kernel
theorem dX6_keep_7 : decode cX6_keep 7 = .ok (.lconst 0, 1) := by decide +kernel
theorem dX6_keep_8 : decode cX6_keep 8 = .ok (.lconst 1, 1) := by decide +kernel
theorem dX6_keep_9 : decode cX6_keep 9 = .ok (.invokestatic 66, 3) := by decide +kernel
theorem dX6_keep_12 : decode cX6_keep 12 = .ok (.ifCond .ne 5, 3) := by decide +kernel
theorem dX6_keep_15 : decode cX6_keep 15 = .ok (.iconst (-1), 1) := by decide +kernel
theorem dX6_keep_16 : decode cX6_keep 16 = .ok (.ireturn, 1) := by decide +kernel
theorem dX6_keep_17 : decode cX6_keep 17 = .ok (.aload_n 0, 1) := by decide +kernel
theorem dX6_keep_18 : decode cX6_keep 18 = .ok (.getfield 28, 3) := by decide +kernel
theorem dX6_keep_21 : decode cX6_keep 21 = .ok (.iload_n 1, 1) := by decide +kernel
theorem dX6_keep_22 : decode cX6_keep 22 = .ok (.iconst 1, 1) := by decide +kernel
theorem dX6_keep_23 : decode cX6_keep 23 = .ok (.bastore, 1) := by decide +kernel
theorem dX6_keep_24 : decode cX6_keep 24 = .ok (.iconst 0, 1) := by decide +kernel
theorem dX6_keep_25 : decode cX6_keep 25 = .ok (.istore_n 2, 1) := by decide +kernel
theorem dX6_keep_26 : decode cX6_keep 26 = .ok (.iload_n 2, 1) := by decide +kernel
theorem dX6_keep_27 : decode cX6_keep 27 = .ok (.bipush 50, 2) := by decide +kernel
theorem dX6_keep_29 : decode cX6_keep 29 = .ok (.if_icmp .ge 26, 3) := by decide +kernel
theorem dX6_keep_32 : decode cX6_keep 32 = .ok (.aload_n 0, 1) := by decide +kernel
theorem dX6_keep_33 : decode cX6_keep 33 = .ok (.getfield 25, 3) := by decide +kernel
theorem dX6_keep_36 : decode cX6_keep 36 = .ok (.bipush 50, 2) := by decide +kernel
theorem dX6_keep_38 : decode cX6_keep 38 = .ok (.iload_n 1, 1) := by decide +kernel
theorem dX6_keep_39 : decode cX6_keep 39 = .ok (.imul, 1) := by decide +kernel
theorem dX6_keep_40 : decode cX6_keep 40 = .ok (.iload_n 2, 1) := by decide +kernel
theorem dX6_keep_41 : decode cX6_keep 41 = .ok (.iadd, 1) := by decide +kernel
theorem dX6_keep_42 : decode cX6_keep 42 = .ok (.aload_n 0, 1) := by decide +kernel
theorem dX6_keep_43 : decode cX6_keep 43 = .ok (.getfield 16, 3) := by decide +kernel
theorem dX6_keep_46 : decode cX6_keep 46 = .ok (.iload_n 2, 1) := by decide +kernel
theorem dX6_keep_47 : decode cX6_keep 47 = .ok (.iaload, 1) := by decide +kernel
theorem dX6_keep_48 : decode cX6_keep 48 = .ok (.iastore, 1) := by decide +kernel
theorem dX6_keep_49 : decode cX6_keep 49 = .ok (.iinc 2 1, 3) := by decide +kernel
theorem dX6_keep_52 : decode cX6_keep 52 = .ok (.goto (-26), 3) := by decide +kernel
theorem dX6_keep_55 : decode cX6_keep 55 = .ok (.aload_n 0, 1) := by decide +kernel
theorem dX6_keep_56 : decode cX6_keep 56 = .ok (.getfield 16, 3) := by decide +kernel
theorem dX6_keep_59 : decode cX6_keep 59 = .ok (.bipush 49, 2) := by decide +kernel
theorem dX6_keep_61 : decode cX6_keep 61 = .ok (.iaload, 1) := by decide +kernel
theorem dX6_keep_62 : decode cX6_keep 62 = .ok (.ireturn, 1) := by decide +kernel
theorem dX6_again_0 : decode cX6_again 0 = .ok (.aload_n 0, 1) := by decide +kernel
theorem dX6_again_1 : decode cX6_again 1 = .ok (.iconst 0, 1) := by decide +kernel
theorem dX6_again_2 : decode cX6_again 2 = .ok (.putfield 62, 3) := by decide +kernel
theorem dX6_again_5 : decode cX6_again 5 = .ok (.iload_n 1, 1) := by decide +kernel
theorem dX6_again_6 : decode cX6_again 6 = .ok (.i2l, 1) := by decide +kernel
theorem dX6_again_7 : decode cX6_again 7 = .ok (.lconst 0, 1) := by decide +kernel
theorem dX6_again_8 : decode cX6_again 8 = .ok (.lconst 1, 1) := by decide +kernel
theorem dX6_again_9 : decode cX6_again 9 = .ok (.invokestatic 66, 3) := by decide +kernel
theorem dX6_again_12 : decode cX6_again 12 = .ok (.ifCond .ne 5, 3) := by decide +kernel
theorem dX6_again_15 : decode cX6_again 15 = .ok (.iconst (-1), 1) := by decide +kernel
theorem dX6_again_16 : decode cX6_again 16 = .ok (.ireturn, 1) := by decide +kernel
theorem dX6_again_17 : decode cX6_again 17 = .ok (.aload_n 0, 1) := by decide +kernel
theorem dX6_again_18 : decode cX6_again 18 = .ok (.getfield 28, 3) := by decide +kernel
theorem dX6_again_21 : decode cX6_again 21 = .ok (.iload_n 1, 1) := by decide +kernel
theorem dX6_again_22 : decode cX6_again 22 = .ok (.baload, 1) := by decide +kernel
theorem dX6_again_23 : decode cX6_again 23 = .ok (.ifCond .ne 6, 3) := by decide +kernel
theorem dX6_again_26 : decode cX6_again 26 = .ok (.bipush (-3), 2) := by decide +kernel
theorem dX6_again_28 : decode cX6_again 28 = .ok (.ireturn, 1) := by decide +kernel
theorem dX6_again_29 : decode cX6_again 29 = .ok (.iconst 0, 1) := by decide +kernel
theorem dX6_again_30 : decode cX6_again 30 = .ok (.istore_n 2, 1) := by decide +kernel
theorem dX6_again_31 : decode cX6_again 31 = .ok (.iload_n 2, 1) := by decide +kernel
theorem dX6_again_32 : decode cX6_again 32 = .ok (.bipush 50, 2) := by decide +kernel
theorem dX6_again_34 : decode cX6_again 34 = .ok (.if_icmp .ge 26, 3) := by decide +kernel
theorem dX6_again_37 : decode cX6_again 37 = .ok (.aload_n 0, 1) := by decide +kernel
theorem dX6_again_38 : decode cX6_again 38 = .ok (.getfield 16, 3) := by decide +kernel
theorem dX6_again_41 : decode cX6_again 41 = .ok (.iload_n 2, 1) := by decide +kernel
theorem dX6_again_42 : decode cX6_again 42 = .ok (.aload_n 0, 1) := by decide +kernel
theorem dX6_again_43 : decode cX6_again 43 = .ok (.getfield 25, 3) := by decide +kernel
theorem dX6_again_46 : decode cX6_again 46 = .ok (.bipush 50, 2) := by decide +kernel
theorem dX6_again_48 : decode cX6_again 48 = .ok (.iload_n 1, 1) := by decide +kernel
theorem dX6_again_49 : decode cX6_again 49 = .ok (.imul, 1) := by decide +kernel
theorem dX6_again_50 : decode cX6_again 50 = .ok (.iload_n 2, 1) := by decide +kernel
theorem dX6_again_51 : decode cX6_again 51 = .ok (.iadd, 1) := by decide +kernel
theorem dX6_again_52 : decode cX6_again 52 = .ok (.iaload, 1) := by decide +kernel
theorem dX6_again_53 : decode cX6_again 53 = .ok (.iastore, 1) := by decide +kernel
theorem dX6_again_54 : decode cX6_again 54 = .ok (.iinc 2 1, 3) := by decide +kernel
theorem dX6_again_57 : decode cX6_again 57 = .ok (.goto (-26), 3) := by decide +kernel
theorem dX6_again_60 : decode cX6_again 60 = .ok (.aload_n 0, 1) := by decide +kernel
theorem dX6_again_61 : decode cX6_again 61 = .ok (.iconst 0, 1) := by decide +kernel
theorem dX6_again_62 : decode cX6_again 62 = .ok (.putfield 184, 3) := by decide +kernel
theorem dX6_again_65 : decode cX6_again 65 = .ok (.aload_n 0, 1) := by decide +kernel
theorem dX6_again_66 : decode cX6_again 66 = .ok (.getfield 16, 3) := by decide +kernel
theorem dX6_again_69 : decode cX6_again 69 = .ok (.bipush 49, 2) := by decide +kernel
theorem dX6_again_71 : decode cX6_again 71 = .ok (.iaload, 1) := by decide +kernel
theorem dX6_again_72 : decode cX6_again 72 = .ok (.ireturn, 1) := by decide +kernel
theorem dJ0_length_8abf5_0 : decode cJ0_length_8abf5 0 = .ok (.aload_n 0, 1) := by decide +kernel
theorem dJ0_length_8abf5_1 : decode cJ0_length_8abf5 1 = .ok (.getfield 9, 3) := by decide +kernel
theorem dJ0_length_8abf5_4 : decode cJ0_length_8abf5 4 = .ok (.arraylength, 1) := by decide +kernel
theorem dJ0_length_8abf5_5 : decode cJ0_length_8abf5 5 = .ok (.aload_n 0, 1) := by decide +kernel
theorem dJ0_length_8abf5_6 : decode cJ0_length_8abf5 6 = .ok (.invokevirtual 335, 3) := by decide +kernel
theorem dJ0_length_8abf5_9 : decode cJ0_length_8abf5 9 = .ok (.ishr, 1) := by decide +kernel
theorem dJ0_length_8abf5_10 : decode cJ0_length_8abf5 10 = .ok (.ireturn, 1) := by decide +kernel
theorem dJ0_indexOf_0f7a4_0 : decode cJ0_indexOf_0f7a4 0 = .ok (.aload_n 0, 1) := by decide +kernel
theorem dJ0_indexOf_0f7a4_1 : decode cJ0_indexOf_0f7a4 1 = .ok (.iload_n 1, 1) := by decide +kernel
theorem dJ0_indexOf_0f7a4_2 : decode cJ0_indexOf_0f7a4 2 = .ok (.iconst 0, 1) := by decide +kernel
theorem dJ0_indexOf_0f7a4_3 : decode cJ0_indexOf_0f7a4 3 = .ok (.invokevirtual 633, 3) := by decide +kernel
theorem dJ0_indexOf_0f7a4_6 : decode cJ0_indexOf_0f7a4 6 = .ok (.ireturn, 1) := by decide +kernel
theorem dJ0_indexOf_7cf53_0 : decode cJ0_indexOf_7cf53 0 = .ok (.aload_n 0, 1) := by decide +kernel
theorem dJ0_indexOf_7cf53_1 : decode cJ0_indexOf_7cf53 1 = .ok (.invokevirtual 492, 3) := by decide +kernel
theorem dJ0_indexOf_7cf53_4 : decode cJ0_indexOf_7cf53 4 = .ok (.ifCond .eq 19, 3) := by decide +kernel
theorem dJ0_indexOf_7cf53_7 : decode cJ0_indexOf_7cf53 7 = .ok (.aload_n 0, 1) := by decide +kernel
theorem dJ0_indexOf_7cf53_8 : decode cJ0_indexOf_7cf53 8 = .ok (.getfield 9, 3) := by decide +kernel
theorem dJ0_indexOf_7cf53_11 : decode cJ0_indexOf_7cf53 11 = .ok (.iload_n 1, 1) := by decide +kernel
theorem dJ0_indexOf_7cf53_12 : decode cJ0_indexOf_7cf53 12 = .ok (.iload_n 2, 1) := by decide +kernel
theorem dJ0_indexOf_7cf53_13 : decode cJ0_indexOf_7cf53 13 = .ok (.aload_n 0, 1) := by decide +kernel
theorem dJ0_indexOf_7cf53_14 : decode cJ0_indexOf_7cf53 14 = .ok (.invokevirtual 505, 3) := by decide +kernel
theorem dJ0_indexOf_7cf53_17 : decode cJ0_indexOf_7cf53 17 = .ok (.invokestatic 637, 3) := by decide +kernel
theorem dJ0_indexOf_7cf53_20 : decode cJ0_indexOf_7cf53 20 = .ok (.goto 16, 3) := by decide +kernel
theorem dJ0_indexOf_7cf53_23 : decode cJ0_indexOf_7cf53 23 = .ok (.aload_n 0, 1) := by decide +kernel
theorem dJ0_indexOf_7cf53_24 : decode cJ0_indexOf_7cf53 24 = .ok (.getfield 9, 3) := by decide +kernel
theorem dJ0_indexOf_7cf53_27 : decode cJ0_indexOf_7cf53 27 = .ok (.iload_n 1, 1) := by decide +kernel
theorem dJ0_indexOf_7cf53_28 : decode cJ0_indexOf_7cf53 28 = .ok (.iload_n 2, 1) := by decide +kernel
theorem dJ0_indexOf_7cf53_29 : decode cJ0_indexOf_7cf53 29 = .ok (.aload_n 0, 1) := by decide +kernel
theorem dJ0_indexOf_7cf53_30 : decode cJ0_indexOf_7cf53 30 = .ok (.invokevirtual 505, 3) := by decide +kernel
theorem dJ0_indexOf_7cf53_33 : decode cJ0_indexOf_7cf53 33 = .ok (.invokestatic 640, 3) := by decide +kernel
theorem dJ0_indexOf_7cf53_36 : decode cJ0_indexOf_7cf53 36 = .ok (.ireturn, 1) := by decide +kernel
theorem dJ0_coder_7d493_0 : decode cJ0_coder_7d493 0 = .ok (.getstatic 38, 3) := by decide +kernel
theorem dJ0_coder_7d493_3 : decode cJ0_coder_7d493 3 = .ok (.ifCond .eq 10, 3) := by decide +kernel
theorem dJ0_coder_7d493_6 : decode cJ0_coder_7d493 6 = .ok (.aload_n 0, 1) := by decide +kernel
theorem dJ0_coder_7d493_7 : decode cJ0_coder_7d493 7 = .ok (.getfield 15, 3) := by decide +kernel
theorem dJ0_coder_7d493_10 : decode cJ0_coder_7d493 10 = .ok (.goto 4, 3) := by decide +kernel
theorem dJ0_coder_7d493_13 : decode cJ0_coder_7d493 13 = .ok (.iconst 1, 1) := by decide +kernel
theorem dJ0_coder_7d493_14 : decode cJ0_coder_7d493 14 = .ok (.ireturn, 1) := by decide +kernel
theorem dJ0_isLatin1_aae02_0 : decode cJ0_isLatin1_aae02 0 = .ok (.getstatic 38, 3) := by decide +kernel
theorem dJ0_isLatin1_aae02_3 : decode cJ0_isLatin1_aae02 3 = .ok (.ifCond .eq 14, 3) := by decide +kernel
theorem dJ0_isLatin1_aae02_6 : decode cJ0_isLatin1_aae02 6 = .ok (.aload_n 0, 1) := by decide +kernel
theorem dJ0_isLatin1_aae02_7 : decode cJ0_isLatin1_aae02 7 = .ok (.getfield 15, 3) := by decide +kernel
theorem dJ0_isLatin1_aae02_10 : decode cJ0_isLatin1_aae02 10 = .ok (.ifCond .ne 7, 3) := by decide +kernel
theorem dJ0_isLatin1_aae02_13 : decode cJ0_isLatin1_aae02 13 = .ok (.iconst 1, 1) := by decide +kernel
theorem dJ0_isLatin1_aae02_14 : decode cJ0_isLatin1_aae02 14 = .ok (.goto 4, 3) := by decide +kernel
theorem dJ0_isLatin1_aae02_17 : decode cJ0_isLatin1_aae02 17 = .ok (.iconst 0, 1) := by decide +kernel
theorem dJ0_isLatin1_aae02_18 : decode cJ0_isLatin1_aae02 18 = .ok (.ireturn, 1) := by decide +kernel
theorem dJ1_canEncode_9a6ad_0 : decode cJ1_canEncode_9a6ad 0 = .ok (.iload_n 0, 1) := by decide +kernel
theorem dJ1_canEncode_9a6ad_1 : decode cJ1_canEncode_9a6ad 1 = .ok (.ifCond .lt 14, 3) := by decide +kernel
theorem dJ1_canEncode_9a6ad_4 : decode cJ1_canEncode_9a6ad 4 = .ok (.iload_n 0, 1) := by decide +kernel
theorem dJ1_canEncode_9a6ad_5 : decode cJ1_canEncode_9a6ad 5 = .ok (.sipush 255, 3) := by decide +kernel
theorem dJ1_canEncode_9a6ad_8 : decode cJ1_canEncode_9a6ad 8 = .ok (.if_icmp .gt 7, 3) := by decide +kernel
theorem dJ1_canEncode_9a6ad_11 : decode cJ1_canEncode_9a6ad 11 = .ok (.iconst 1, 1) := by decide +kernel
theorem dJ1_canEncode_9a6ad_12 : decode cJ1_canEncode_9a6ad 12 = .ok (.goto 4, 3) := by decide +kernel
theorem dJ1_canEncode_9a6ad_15 : decode cJ1_canEncode_9a6ad 15 = .ok (.iconst 0, 1) := by decide +kernel
theorem dJ1_canEncode_9a6ad_16 : decode cJ1_canEncode_9a6ad 16 = .ok (.ireturn, 1) := by decide +kernel
theorem dJ1_indexOf_4cfef_0 : decode cJ1_indexOf_4cfef 0 = .ok (.iload_n 1, 1) := by decide +kernel
theorem dJ1_indexOf_4cfef_1 : decode cJ1_indexOf_4cfef 1 = .ok (.invokestatic 88, 3) := by decide +kernel
theorem dJ1_indexOf_4cfef_4 : decode cJ1_indexOf_4cfef 4 = .ok (.ifCond .ne 5, 3) := by decide +kernel
theorem dJ1_indexOf_4cfef_7 : decode cJ1_indexOf_4cfef 7 = .ok (.iconst (-1), 1) := by decide +kernel
theorem dJ1_indexOf_4cfef_8 : decode cJ1_indexOf_4cfef 8 = .ok (.ireturn, 1) := by decide +kernel
theorem dJ1_indexOf_4cfef_9 : decode cJ1_indexOf_4cfef 9 = .ok (.iload_n 2, 1) := by decide +kernel
theorem dJ1_indexOf_4cfef_10 : decode cJ1_indexOf_4cfef 10 = .ok (.iconst 0, 1) := by decide +kernel
theorem dJ1_indexOf_4cfef_11 : decode cJ1_indexOf_4cfef 11 = .ok (.invokestatic 92, 3) := by decide +kernel
theorem dJ1_indexOf_4cfef_14 : decode cJ1_indexOf_4cfef 14 = .ok (.istore_n 2, 1) := by decide +kernel
theorem dJ1_indexOf_4cfef_15 : decode cJ1_indexOf_4cfef 15 = .ok (.iload_n 3, 1) := by decide +kernel
theorem dJ1_indexOf_4cfef_16 : decode cJ1_indexOf_4cfef 16 = .ok (.aload_n 0, 1) := by decide +kernel
theorem dJ1_indexOf_4cfef_17 : decode cJ1_indexOf_4cfef 17 = .ok (.arraylength, 1) := by decide +kernel
theorem dJ1_indexOf_4cfef_18 : decode cJ1_indexOf_4cfef 18 = .ok (.invokestatic 38, 3) := by decide +kernel
theorem dJ1_indexOf_4cfef_21 : decode cJ1_indexOf_4cfef 21 = .ok (.istore_n 3, 1) := by decide +kernel
theorem dJ1_indexOf_4cfef_22 : decode cJ1_indexOf_4cfef 22 = .ok (.iload_n 2, 1) := by decide +kernel
theorem dJ1_indexOf_4cfef_23 : decode cJ1_indexOf_4cfef 23 = .ok (.iload_n 3, 1) := by decide +kernel
theorem dJ1_indexOf_4cfef_24 : decode cJ1_indexOf_4cfef 24 = .ok (.if_icmp .lt 5, 3) := by decide +kernel
theorem dJ1_indexOf_4cfef_27 : decode cJ1_indexOf_4cfef 27 = .ok (.iconst (-1), 1) := by decide +kernel
theorem dJ1_indexOf_4cfef_28 : decode cJ1_indexOf_4cfef 28 = .ok (.ireturn, 1) := by decide +kernel
theorem dJ1_indexOf_4cfef_29 : decode cJ1_indexOf_4cfef 29 = .ok (.aload_n 0, 1) := by decide +kernel
theorem dJ1_indexOf_4cfef_30 : decode cJ1_indexOf_4cfef 30 = .ok (.iload_n 1, 1) := by decide +kernel
theorem dJ1_indexOf_4cfef_31 : decode cJ1_indexOf_4cfef 31 = .ok (.iload_n 2, 1) := by decide +kernel
theorem dJ1_indexOf_4cfef_32 : decode cJ1_indexOf_4cfef 32 = .ok (.iload_n 3, 1) := by decide +kernel
theorem dJ1_indexOf_4cfef_33 : decode cJ1_indexOf_4cfef 33 = .ok (.invokestatic 95, 3) := by decide +kernel
theorem dJ1_indexOf_4cfef_36 : decode cJ1_indexOf_4cfef 36 = .ok (.ireturn, 1) := by decide +kernel
theorem dJ1_indexOfChar_4cfef_0 : decode cJ1_indexOfChar_4cfef 0 = .ok (.iload_n 1, 1) := by decide +kernel
theorem dJ1_indexOfChar_4cfef_1 : decode cJ1_indexOfChar_4cfef 1 = .ok (.i2b, 1) := by decide +kernel
theorem dJ1_indexOfChar_4cfef_2 : decode cJ1_indexOfChar_4cfef 2 = .ok (.istore 4, 2) := by decide +kernel
theorem dJ1_indexOfChar_4cfef_4 : decode cJ1_indexOfChar_4cfef 4 = .ok (.iload_n 2, 1) := by decide +kernel
theorem dJ1_indexOfChar_4cfef_5 : decode cJ1_indexOfChar_4cfef 5 = .ok (.istore 5, 2) := by decide +kernel
theorem dJ1_indexOfChar_4cfef_7 : decode cJ1_indexOfChar_4cfef 7 = .ok (.iload 5, 2) := by decide +kernel
theorem dJ1_indexOfChar_4cfef_9 : decode cJ1_indexOfChar_4cfef 9 = .ok (.iload_n 3, 1) := by decide +kernel
theorem dJ1_indexOfChar_4cfef_10 : decode cJ1_indexOfChar_4cfef 10 = .ok (.if_icmp .ge 21, 3) := by decide +kernel
theorem dJ1_indexOfChar_4cfef_13 : decode cJ1_indexOfChar_4cfef 13 = .ok (.aload_n 0, 1) := by decide +kernel
theorem dJ1_indexOfChar_4cfef_14 : decode cJ1_indexOfChar_4cfef 14 = .ok (.iload 5, 2) := by decide +kernel
theorem dJ1_indexOfChar_4cfef_16 : decode cJ1_indexOfChar_4cfef 16 = .ok (.baload, 1) := by decide +kernel
theorem dJ1_indexOfChar_4cfef_17 : decode cJ1_indexOfChar_4cfef 17 = .ok (.iload 4, 2) := by decide +kernel
theorem dJ1_indexOfChar_4cfef_19 : decode cJ1_indexOfChar_4cfef 19 = .ok (.if_icmp .ne 6, 3) := by decide +kernel
theorem dJ1_indexOfChar_4cfef_22 : decode cJ1_indexOfChar_4cfef 22 = .ok (.iload 5, 2) := by decide +kernel
theorem dJ1_indexOfChar_4cfef_24 : decode cJ1_indexOfChar_4cfef 24 = .ok (.ireturn, 1) := by decide +kernel
theorem dJ1_indexOfChar_4cfef_25 : decode cJ1_indexOfChar_4cfef 25 = .ok (.iinc 5 1, 3) := by decide +kernel
theorem dJ1_indexOfChar_4cfef_28 : decode cJ1_indexOfChar_4cfef 28 = .ok (.goto (-21), 3) := by decide +kernel
theorem dJ1_indexOfChar_4cfef_31 : decode cJ1_indexOfChar_4cfef 31 = .ok (.iconst (-1), 1) := by decide +kernel
theorem dJ1_indexOfChar_4cfef_32 : decode cJ1_indexOfChar_4cfef 32 = .ok (.ireturn, 1) := by decide +kernel
theorem dJ6_bitCount_0f7a4_0 : decode cJ6_bitCount_0f7a4 0 = .ok (.iload_n 0, 1) := by decide +kernel
theorem dJ6_bitCount_0f7a4_1 : decode cJ6_bitCount_0f7a4 1 = .ok (.iload_n 0, 1) := by decide +kernel
theorem dJ6_bitCount_0f7a4_2 : decode cJ6_bitCount_0f7a4 2 = .ok (.iconst 1, 1) := by decide +kernel
theorem dJ6_bitCount_0f7a4_3 : decode cJ6_bitCount_0f7a4 3 = .ok (.iushr, 1) := by decide +kernel
theorem dJ6_bitCount_0f7a4_4 : decode cJ6_bitCount_0f7a4 4 = .ok (.ldc_w 265, 3) := by decide +kernel
theorem dJ6_bitCount_0f7a4_7 : decode cJ6_bitCount_0f7a4 7 = .ok (.iand, 1) := by decide +kernel
theorem dJ6_bitCount_0f7a4_8 : decode cJ6_bitCount_0f7a4 8 = .ok (.isub, 1) := by decide +kernel
theorem dJ6_bitCount_0f7a4_9 : decode cJ6_bitCount_0f7a4 9 = .ok (.istore_n 0, 1) := by decide +kernel
theorem dJ6_bitCount_0f7a4_10 : decode cJ6_bitCount_0f7a4 10 = .ok (.iload_n 0, 1) := by decide +kernel
theorem dJ6_bitCount_0f7a4_11 : decode cJ6_bitCount_0f7a4 11 = .ok (.ldc_w 266, 3) := by decide +kernel
theorem dJ6_bitCount_0f7a4_14 : decode cJ6_bitCount_0f7a4 14 = .ok (.iand, 1) := by decide +kernel
theorem dJ6_bitCount_0f7a4_15 : decode cJ6_bitCount_0f7a4 15 = .ok (.iload_n 0, 1) := by decide +kernel
theorem dJ6_bitCount_0f7a4_16 : decode cJ6_bitCount_0f7a4 16 = .ok (.iconst 2, 1) := by decide +kernel
theorem dJ6_bitCount_0f7a4_17 : decode cJ6_bitCount_0f7a4 17 = .ok (.iushr, 1) := by decide +kernel
theorem dJ6_bitCount_0f7a4_18 : decode cJ6_bitCount_0f7a4 18 = .ok (.ldc_w 266, 3) := by decide +kernel
theorem dJ6_bitCount_0f7a4_21 : decode cJ6_bitCount_0f7a4 21 = .ok (.iand, 1) := by decide +kernel
theorem dJ6_bitCount_0f7a4_22 : decode cJ6_bitCount_0f7a4 22 = .ok (.iadd, 1) := by decide +kernel
theorem dJ6_bitCount_0f7a4_23 : decode cJ6_bitCount_0f7a4 23 = .ok (.istore_n 0, 1) := by decide +kernel
theorem dJ6_bitCount_0f7a4_24 : decode cJ6_bitCount_0f7a4 24 = .ok (.iload_n 0, 1) := by decide +kernel
theorem dJ6_bitCount_0f7a4_25 : decode cJ6_bitCount_0f7a4 25 = .ok (.iload_n 0, 1) := by decide +kernel
theorem dJ6_bitCount_0f7a4_26 : decode cJ6_bitCount_0f7a4 26 = .ok (.iconst 4, 1) := by decide +kernel
theorem dJ6_bitCount_0f7a4_27 : decode cJ6_bitCount_0f7a4 27 = .ok (.iushr, 1) := by decide +kernel
theorem dJ6_bitCount_0f7a4_28 : decode cJ6_bitCount_0f7a4 28 = .ok (.iadd, 1) := by decide +kernel
theorem dJ6_bitCount_0f7a4_29 : decode cJ6_bitCount_0f7a4 29 = .ok (.ldc_w 267, 3) := by decide +kernel
theorem dJ6_bitCount_0f7a4_32 : decode cJ6_bitCount_0f7a4 32 = .ok (.iand, 1) := by decide +kernel
theorem dJ6_bitCount_0f7a4_33 : decode cJ6_bitCount_0f7a4 33 = .ok (.istore_n 0, 1) := by decide +kernel
theorem dJ6_bitCount_0f7a4_34 : decode cJ6_bitCount_0f7a4 34 = .ok (.iload_n 0, 1) := by decide +kernel
theorem dJ6_bitCount_0f7a4_35 : decode cJ6_bitCount_0f7a4 35 = .ok (.iload_n 0, 1) := by decide +kernel
theorem dJ6_bitCount_0f7a4_36 : decode cJ6_bitCount_0f7a4 36 = .ok (.bipush 8, 2) := by decide +kernel
theorem dJ6_bitCount_0f7a4_38 : decode cJ6_bitCount_0f7a4 38 = .ok (.iushr, 1) := by decide +kernel
theorem dJ6_bitCount_0f7a4_39 : decode cJ6_bitCount_0f7a4 39 = .ok (.iadd, 1) := by decide +kernel
theorem dJ6_bitCount_0f7a4_40 : decode cJ6_bitCount_0f7a4 40 = .ok (.istore_n 0, 1) := by decide +kernel
theorem dJ6_bitCount_0f7a4_41 : decode cJ6_bitCount_0f7a4 41 = .ok (.iload_n 0, 1) := by decide +kernel
theorem dJ6_bitCount_0f7a4_42 : decode cJ6_bitCount_0f7a4 42 = .ok (.iload_n 0, 1) := by decide +kernel
theorem dJ6_bitCount_0f7a4_43 : decode cJ6_bitCount_0f7a4 43 = .ok (.bipush 16, 2) := by decide +kernel
theorem dJ6_bitCount_0f7a4_45 : decode cJ6_bitCount_0f7a4 45 = .ok (.iushr, 1) := by decide +kernel
theorem dJ6_bitCount_0f7a4_46 : decode cJ6_bitCount_0f7a4 46 = .ok (.iadd, 1) := by decide +kernel
theorem dJ6_bitCount_0f7a4_47 : decode cJ6_bitCount_0f7a4 47 = .ok (.istore_n 0, 1) := by decide +kernel
theorem dJ6_bitCount_0f7a4_48 : decode cJ6_bitCount_0f7a4 48 = .ok (.iload_n 0, 1) := by decide +kernel
theorem dJ6_bitCount_0f7a4_49 : decode cJ6_bitCount_0f7a4 49 = .ok (.bipush 63, 2) := by decide +kernel
theorem dJ6_bitCount_0f7a4_51 : decode cJ6_bitCount_0f7a4 51 = .ok (.iand, 1) := by decide +kernel
theorem dJ6_bitCount_0f7a4_52 : decode cJ6_bitCount_0f7a4 52 = .ok (.ireturn, 1) := by decide +kernel
theorem dJ7_fill_53178_0 : decode cJ7_fill_53178 0 = .ok (.iconst 0, 1) := by decide +kernel
theorem dJ7_fill_53178_1 : decode cJ7_fill_53178 1 = .ok (.istore_n 2, 1) := by decide +kernel
theorem dJ7_fill_53178_2 : decode cJ7_fill_53178 2 = .ok (.aload_n 0, 1) := by decide +kernel
theorem dJ7_fill_53178_3 : decode cJ7_fill_53178 3 = .ok (.arraylength, 1) := by decide +kernel
theorem dJ7_fill_53178_4 : decode cJ7_fill_53178 4 = .ok (.istore_n 3, 1) := by decide +kernel
theorem dJ7_fill_53178_5 : decode cJ7_fill_53178 5 = .ok (.iload_n 2, 1) := by decide +kernel
theorem dJ7_fill_53178_6 : decode cJ7_fill_53178 6 = .ok (.iload_n 3, 1) := by decide +kernel
theorem dJ7_fill_53178_7 : decode cJ7_fill_53178 7 = .ok (.if_icmp .ge 13, 3) := by decide +kernel
theorem dJ7_fill_53178_10 : decode cJ7_fill_53178 10 = .ok (.aload_n 0, 1) := by decide +kernel
theorem dJ7_fill_53178_11 : decode cJ7_fill_53178 11 = .ok (.iload_n 2, 1) := by decide +kernel
theorem dJ7_fill_53178_12 : decode cJ7_fill_53178 12 = .ok (.iload_n 1, 1) := by decide +kernel
theorem dJ7_fill_53178_13 : decode cJ7_fill_53178 13 = .ok (.iastore, 1) := by decide +kernel
theorem dJ7_fill_53178_14 : decode cJ7_fill_53178 14 = .ok (.iinc 2 1, 3) := by decide +kernel
theorem dJ7_fill_53178_17 : decode cJ7_fill_53178 17 = .ok (.goto (-12), 3) := by decide +kernel
theorem dJ7_fill_53178_20 : decode cJ7_fill_53178 20 = .ok (.return_, 1) := by decide +kernel
theorem dL_law_0 : decode cL_law 0 = .ok (.new 7, 3) := by decide +kernel
theorem dL_law_3 : decode cL_law 3 = .ok (.dup, 1) := by decide +kernel
theorem dL_law_4 : decode cL_law 4 = .ok (.invokespecial 9, 3) := by decide +kernel
theorem dL_law_7 : decode cL_law 7 = .ok (.astore_n 1, 1) := by decide +kernel
theorem dL_law_8 : decode cL_law 8 = .ok (.new 10, 3) := by decide +kernel
theorem dL_law_11 : decode cL_law 11 = .ok (.dup, 1) := by decide +kernel
theorem dL_law_12 : decode cL_law 12 = .ok (.invokespecial 12, 3) := by decide +kernel
theorem dL_law_15 : decode cL_law 15 = .ok (.astore_n 2, 1) := by decide +kernel
theorem dL_law_16 : decode cL_law 16 = .ok (.iconst 0, 1) := by decide +kernel
theorem dL_law_17 : decode cL_law 17 = .ok (.istore_n 3, 1) := by decide +kernel
theorem dL_law_18 : decode cL_law 18 = .ok (.iload_n 3, 1) := by decide +kernel
theorem dL_law_19 : decode cL_law 19 = .ok (.aload_n 0, 1) := by decide +kernel
theorem dL_law_20 : decode cL_law 20 = .ok (.arraylength, 1) := by decide +kernel
theorem dL_law_21 : decode cL_law 21 = .ok (.bipush 6, 2) := by decide +kernel
theorem dL_law_23 : decode cL_law 23 = .ok (.isub, 1) := by decide +kernel
theorem dL_law_24 : decode cL_law 24 = .ok (.if_icmp .gt 935, 3) := by decide +kernel
theorem dL_law_27 : decode cL_law 27 = .ok (.aload_n 0, 1) := by decide +kernel
theorem dL_law_28 : decode cL_law 28 = .ok (.iload_n 3, 1) := by decide +kernel
theorem dL_law_29 : decode cL_law 29 = .ok (.iaload, 1) := by decide +kernel
theorem dL_law_30 : decode cL_law 30 = .ok (.bipush 31, 2) := by decide +kernel
theorem dL_law_32 : decode cL_law 32 = .ok (.iand, 1) := by decide +kernel
theorem dL_law_33 : decode cL_law 33 = .ok (.tableswitch 920 0 23 #[111, 134, 147, 160, 173, 196, 229, 262, 295, 328, 341, 404, 417, 470, 523, 566, 629, 682, 695, 718, 797, 851, 874, 897], 111) := by decide +kernel
theorem dL_law_144 : decode cL_law 144 = .ok (.aload_n 1, 1) := by decide +kernel
theorem dL_law_145 : decode cL_law 145 = .ok (.aload_n 0, 1) := by decide +kernel
theorem dL_law_146 : decode cL_law 146 = .ok (.iload_n 3, 1) := by decide +kernel
theorem dL_law_147 : decode cL_law 147 = .ok (.iconst 1, 1) := by decide +kernel
theorem dL_law_148 : decode cL_law 148 = .ok (.iadd, 1) := by decide +kernel
theorem dL_law_149 : decode cL_law 149 = .ok (.iaload, 1) := by decide +kernel
theorem dL_law_150 : decode cL_law 150 = .ok (.invokevirtual 13, 3) := by decide +kernel
theorem dL_law_153 : decode cL_law 153 = .ok (.aload_n 2, 1) := by decide +kernel
theorem dL_law_154 : decode cL_law 154 = .ok (.aload_n 0, 1) := by decide +kernel
theorem dL_law_155 : decode cL_law 155 = .ok (.iload_n 3, 1) := by decide +kernel
theorem dL_law_156 : decode cL_law 156 = .ok (.iconst 1, 1) := by decide +kernel
theorem dL_law_157 : decode cL_law 157 = .ok (.iadd, 1) := by decide +kernel
theorem dL_law_158 : decode cL_law 158 = .ok (.iaload, 1) := by decide +kernel
theorem dL_law_159 : decode cL_law 159 = .ok (.invokevirtual 17, 3) := by decide +kernel
theorem dL_law_162 : decode cL_law 162 = .ok (.if_icmp .eq 791, 3) := by decide +kernel
theorem dL_law_165 : decode cL_law 165 = .ok (.iconst 0, 1) := by decide +kernel
theorem dL_law_166 : decode cL_law 166 = .ok (.ireturn, 1) := by decide +kernel
theorem dL_law_167 : decode cL_law 167 = .ok (.aload_n 1, 1) := by decide +kernel
theorem dL_law_168 : decode cL_law 168 = .ok (.invokevirtual 18, 3) := by decide +kernel
theorem dL_law_171 : decode cL_law 171 = .ok (.aload_n 2, 1) := by decide +kernel
theorem dL_law_172 : decode cL_law 172 = .ok (.invokevirtual 22, 3) := by decide +kernel
theorem dL_law_175 : decode cL_law 175 = .ok (.if_icmp .eq 778, 3) := by decide +kernel
theorem dL_law_178 : decode cL_law 178 = .ok (.iconst 0, 1) := by decide +kernel
theorem dL_law_179 : decode cL_law 179 = .ok (.ireturn, 1) := by decide +kernel
theorem dL_law_180 : decode cL_law 180 = .ok (.aload_n 1, 1) := by decide +kernel
theorem dL_law_181 : decode cL_law 181 = .ok (.invokevirtual 23, 3) := by decide +kernel
theorem dL_law_184 : decode cL_law 184 = .ok (.aload_n 2, 1) := by decide +kernel
theorem dL_law_185 : decode cL_law 185 = .ok (.invokevirtual 26, 3) := by decide +kernel
theorem dL_law_188 : decode cL_law 188 = .ok (.if_icmp .eq 765, 3) := by decide +kernel
theorem dL_law_191 : decode cL_law 191 = .ok (.iconst 0, 1) := by decide +kernel
theorem dL_law_192 : decode cL_law 192 = .ok (.ireturn, 1) := by decide +kernel
theorem dL_law_193 : decode cL_law 193 = .ok (.aload_n 1, 1) := by decide +kernel
theorem dL_law_194 : decode cL_law 194 = .ok (.invokevirtual 27, 3) := by decide +kernel
theorem dL_law_197 : decode cL_law 197 = .ok (.aload_n 2, 1) := by decide +kernel
theorem dL_law_198 : decode cL_law 198 = .ok (.invokevirtual 30, 3) := by decide +kernel
theorem dL_law_201 : decode cL_law 201 = .ok (.if_icmp .eq 752, 3) := by decide +kernel
theorem dL_law_204 : decode cL_law 204 = .ok (.iconst 0, 1) := by decide +kernel
theorem dL_law_205 : decode cL_law 205 = .ok (.ireturn, 1) := by decide +kernel
theorem dL_law_206 : decode cL_law 206 = .ok (.aload_n 1, 1) := by decide +kernel
theorem dL_law_207 : decode cL_law 207 = .ok (.aload_n 0, 1) := by decide +kernel
theorem dL_law_208 : decode cL_law 208 = .ok (.iload_n 3, 1) := by decide +kernel
theorem dL_law_209 : decode cL_law 209 = .ok (.iconst 1, 1) := by decide +kernel
theorem dL_law_210 : decode cL_law 210 = .ok (.iadd, 1) := by decide +kernel
theorem dL_law_211 : decode cL_law 211 = .ok (.iaload, 1) := by decide +kernel
theorem dL_law_212 : decode cL_law 212 = .ok (.invokevirtual 31, 3) := by decide +kernel
theorem dL_law_215 : decode cL_law 215 = .ok (.aload_n 2, 1) := by decide +kernel
theorem dL_law_216 : decode cL_law 216 = .ok (.aload_n 0, 1) := by decide +kernel
theorem dL_law_217 : decode cL_law 217 = .ok (.iload_n 3, 1) := by decide +kernel
theorem dL_law_218 : decode cL_law 218 = .ok (.iconst 1, 1) := by decide +kernel
theorem dL_law_219 : decode cL_law 219 = .ok (.iadd, 1) := by decide +kernel
theorem dL_law_220 : decode cL_law 220 = .ok (.iaload, 1) := by decide +kernel
theorem dL_law_221 : decode cL_law 221 = .ok (.invokevirtual 34, 3) := by decide +kernel
theorem dL_law_224 : decode cL_law 224 = .ok (.if_icmp .eq 729, 3) := by decide +kernel
theorem dL_law_227 : decode cL_law 227 = .ok (.iconst 0, 1) := by decide +kernel
theorem dL_law_228 : decode cL_law 228 = .ok (.ireturn, 1) := by decide +kernel
theorem dL_law_229 : decode cL_law 229 = .ok (.aload_n 1, 1) := by decide +kernel
theorem dL_law_230 : decode cL_law 230 = .ok (.aload_n 0, 1) := by decide +kernel
theorem dL_law_231 : decode cL_law 231 = .ok (.iload_n 3, 1) := by decide +kernel
theorem dL_law_232 : decode cL_law 232 = .ok (.iconst 1, 1) := by decide +kernel
theorem dL_law_233 : decode cL_law 233 = .ok (.iadd, 1) := by decide +kernel
theorem dL_law_234 : decode cL_law 234 = .ok (.iaload, 1) := by decide +kernel
theorem dL_law_235 : decode cL_law 235 = .ok (.aload_n 0, 1) := by decide +kernel
theorem dL_law_236 : decode cL_law 236 = .ok (.iload_n 3, 1) := by decide +kernel
theorem dL_law_237 : decode cL_law 237 = .ok (.iconst 2, 1) := by decide +kernel
theorem dL_law_238 : decode cL_law 238 = .ok (.iadd, 1) := by decide +kernel
theorem dL_law_239 : decode cL_law 239 = .ok (.iaload, 1) := by decide +kernel
theorem dL_law_240 : decode cL_law 240 = .ok (.invokevirtual 35, 3) := by decide +kernel
theorem dL_law_243 : decode cL_law 243 = .ok (.aload_n 2, 1) := by decide +kernel
theorem dL_law_244 : decode cL_law 244 = .ok (.aload_n 0, 1) := by decide +kernel
theorem dL_law_245 : decode cL_law 245 = .ok (.iload_n 3, 1) := by decide +kernel
theorem dL_law_246 : decode cL_law 246 = .ok (.iconst 1, 1) := by decide +kernel
theorem dL_law_247 : decode cL_law 247 = .ok (.iadd, 1) := by decide +kernel
theorem dL_law_248 : decode cL_law 248 = .ok (.iaload, 1) := by decide +kernel
theorem dL_law_249 : decode cL_law 249 = .ok (.aload_n 0, 1) := by decide +kernel
theorem dL_law_250 : decode cL_law 250 = .ok (.iload_n 3, 1) := by decide +kernel
theorem dL_law_251 : decode cL_law 251 = .ok (.iconst 2, 1) := by decide +kernel
theorem dL_law_252 : decode cL_law 252 = .ok (.iadd, 1) := by decide +kernel
theorem dL_law_253 : decode cL_law 253 = .ok (.iaload, 1) := by decide +kernel
theorem dL_law_254 : decode cL_law 254 = .ok (.invokevirtual 39, 3) := by decide +kernel
theorem dL_law_257 : decode cL_law 257 = .ok (.if_icmp .eq 696, 3) := by decide +kernel
theorem dL_law_260 : decode cL_law 260 = .ok (.iconst 0, 1) := by decide +kernel
theorem dL_law_261 : decode cL_law 261 = .ok (.ireturn, 1) := by decide +kernel
theorem dL_law_262 : decode cL_law 262 = .ok (.aload_n 1, 1) := by decide +kernel
theorem dL_law_263 : decode cL_law 263 = .ok (.aload_n 0, 1) := by decide +kernel
theorem dL_law_264 : decode cL_law 264 = .ok (.iload_n 3, 1) := by decide +kernel
theorem dL_law_265 : decode cL_law 265 = .ok (.iconst 1, 1) := by decide +kernel
theorem dL_law_266 : decode cL_law 266 = .ok (.iadd, 1) := by decide +kernel
theorem dL_law_267 : decode cL_law 267 = .ok (.iaload, 1) := by decide +kernel
theorem dL_law_268 : decode cL_law 268 = .ok (.aload_n 0, 1) := by decide +kernel
theorem dL_law_269 : decode cL_law 269 = .ok (.iload_n 3, 1) := by decide +kernel
theorem dL_law_270 : decode cL_law 270 = .ok (.iconst 2, 1) := by decide +kernel
theorem dL_law_271 : decode cL_law 271 = .ok (.iadd, 1) := by decide +kernel
theorem dL_law_272 : decode cL_law 272 = .ok (.iaload, 1) := by decide +kernel
theorem dL_law_273 : decode cL_law 273 = .ok (.invokevirtual 40, 3) := by decide +kernel
theorem dL_law_276 : decode cL_law 276 = .ok (.aload_n 2, 1) := by decide +kernel
theorem dL_law_277 : decode cL_law 277 = .ok (.aload_n 0, 1) := by decide +kernel
theorem dL_law_278 : decode cL_law 278 = .ok (.iload_n 3, 1) := by decide +kernel
theorem dL_law_279 : decode cL_law 279 = .ok (.iconst 1, 1) := by decide +kernel
theorem dL_law_280 : decode cL_law 280 = .ok (.iadd, 1) := by decide +kernel
theorem dL_law_281 : decode cL_law 281 = .ok (.iaload, 1) := by decide +kernel
theorem dL_law_282 : decode cL_law 282 = .ok (.aload_n 0, 1) := by decide +kernel
theorem dL_law_283 : decode cL_law 283 = .ok (.iload_n 3, 1) := by decide +kernel
theorem dL_law_284 : decode cL_law 284 = .ok (.iconst 2, 1) := by decide +kernel
theorem dL_law_285 : decode cL_law 285 = .ok (.iadd, 1) := by decide +kernel
theorem dL_law_286 : decode cL_law 286 = .ok (.iaload, 1) := by decide +kernel
theorem dL_law_287 : decode cL_law 287 = .ok (.invokevirtual 43, 3) := by decide +kernel
theorem dL_law_290 : decode cL_law 290 = .ok (.if_icmp .eq 663, 3) := by decide +kernel
theorem dL_law_293 : decode cL_law 293 = .ok (.iconst 0, 1) := by decide +kernel
theorem dL_law_294 : decode cL_law 294 = .ok (.ireturn, 1) := by decide +kernel
theorem dL_law_295 : decode cL_law 295 = .ok (.aload_n 1, 1) := by decide +kernel
theorem dL_law_296 : decode cL_law 296 = .ok (.aload_n 0, 1) := by decide +kernel
theorem dL_law_297 : decode cL_law 297 = .ok (.iload_n 3, 1) := by decide +kernel
theorem dL_law_298 : decode cL_law 298 = .ok (.iconst 1, 1) := by decide +kernel
theorem dL_law_299 : decode cL_law 299 = .ok (.iadd, 1) := by decide +kernel
theorem dL_law_300 : decode cL_law 300 = .ok (.iaload, 1) := by decide +kernel
theorem dL_law_301 : decode cL_law 301 = .ok (.aload_n 0, 1) := by decide +kernel
theorem dL_law_302 : decode cL_law 302 = .ok (.iload_n 3, 1) := by decide +kernel
theorem dL_law_303 : decode cL_law 303 = .ok (.iconst 2, 1) := by decide +kernel
theorem dL_law_304 : decode cL_law 304 = .ok (.iadd, 1) := by decide +kernel
theorem dL_law_305 : decode cL_law 305 = .ok (.iaload, 1) := by decide +kernel
theorem dL_law_306 : decode cL_law 306 = .ok (.invokevirtual 44, 3) := by decide +kernel
theorem dL_law_309 : decode cL_law 309 = .ok (.aload_n 2, 1) := by decide +kernel
theorem dL_law_310 : decode cL_law 310 = .ok (.aload_n 0, 1) := by decide +kernel
theorem dL_law_311 : decode cL_law 311 = .ok (.iload_n 3, 1) := by decide +kernel
theorem dL_law_312 : decode cL_law 312 = .ok (.iconst 1, 1) := by decide +kernel
theorem dL_law_313 : decode cL_law 313 = .ok (.iadd, 1) := by decide +kernel
theorem dL_law_314 : decode cL_law 314 = .ok (.iaload, 1) := by decide +kernel
theorem dL_law_315 : decode cL_law 315 = .ok (.aload_n 0, 1) := by decide +kernel
theorem dL_law_316 : decode cL_law 316 = .ok (.iload_n 3, 1) := by decide +kernel
theorem dL_law_317 : decode cL_law 317 = .ok (.iconst 2, 1) := by decide +kernel
theorem dL_law_318 : decode cL_law 318 = .ok (.iadd, 1) := by decide +kernel
theorem dL_law_319 : decode cL_law 319 = .ok (.iaload, 1) := by decide +kernel
theorem dL_law_320 : decode cL_law 320 = .ok (.invokevirtual 47, 3) := by decide +kernel
theorem dL_law_323 : decode cL_law 323 = .ok (.if_icmp .eq 630, 3) := by decide +kernel
theorem dL_law_326 : decode cL_law 326 = .ok (.iconst 0, 1) := by decide +kernel
theorem dL_law_327 : decode cL_law 327 = .ok (.ireturn, 1) := by decide +kernel
theorem dL_law_328 : decode cL_law 328 = .ok (.aload_n 1, 1) := by decide +kernel
theorem dL_law_329 : decode cL_law 329 = .ok (.aload_n 0, 1) := by decide +kernel
theorem dL_law_330 : decode cL_law 330 = .ok (.iload_n 3, 1) := by decide +kernel
theorem dL_law_331 : decode cL_law 331 = .ok (.iconst 1, 1) := by decide +kernel
theorem dL_law_332 : decode cL_law 332 = .ok (.iadd, 1) := by decide +kernel
theorem dL_law_333 : decode cL_law 333 = .ok (.iaload, 1) := by decide +kernel
theorem dL_law_334 : decode cL_law 334 = .ok (.aload_n 0, 1) := by decide +kernel
theorem dL_law_335 : decode cL_law 335 = .ok (.iload_n 3, 1) := by decide +kernel
theorem dL_law_336 : decode cL_law 336 = .ok (.iconst 2, 1) := by decide +kernel
theorem dL_law_337 : decode cL_law 337 = .ok (.iadd, 1) := by decide +kernel
theorem dL_law_338 : decode cL_law 338 = .ok (.iaload, 1) := by decide +kernel
theorem dL_law_339 : decode cL_law 339 = .ok (.invokevirtual 48, 3) := by decide +kernel
theorem dL_law_342 : decode cL_law 342 = .ok (.aload_n 2, 1) := by decide +kernel
theorem dL_law_343 : decode cL_law 343 = .ok (.aload_n 0, 1) := by decide +kernel
theorem dL_law_344 : decode cL_law 344 = .ok (.iload_n 3, 1) := by decide +kernel
theorem dL_law_345 : decode cL_law 345 = .ok (.iconst 1, 1) := by decide +kernel
theorem dL_law_346 : decode cL_law 346 = .ok (.iadd, 1) := by decide +kernel
theorem dL_law_347 : decode cL_law 347 = .ok (.iaload, 1) := by decide +kernel
theorem dL_law_348 : decode cL_law 348 = .ok (.aload_n 0, 1) := by decide +kernel
theorem dL_law_349 : decode cL_law 349 = .ok (.iload_n 3, 1) := by decide +kernel
theorem dL_law_350 : decode cL_law 350 = .ok (.iconst 2, 1) := by decide +kernel
theorem dL_law_351 : decode cL_law 351 = .ok (.iadd, 1) := by decide +kernel
theorem dL_law_352 : decode cL_law 352 = .ok (.iaload, 1) := by decide +kernel
theorem dL_law_353 : decode cL_law 353 = .ok (.invokevirtual 51, 3) := by decide +kernel
theorem dL_law_356 : decode cL_law 356 = .ok (.if_icmp .eq 597, 3) := by decide +kernel
theorem dL_law_359 : decode cL_law 359 = .ok (.iconst 0, 1) := by decide +kernel
theorem dL_law_360 : decode cL_law 360 = .ok (.ireturn, 1) := by decide +kernel
theorem dL_law_361 : decode cL_law 361 = .ok (.aload_n 1, 1) := by decide +kernel
theorem dL_law_362 : decode cL_law 362 = .ok (.invokevirtual 52, 3) := by decide +kernel
theorem dL_law_365 : decode cL_law 365 = .ok (.aload_n 2, 1) := by decide +kernel
theorem dL_law_366 : decode cL_law 366 = .ok (.invokevirtual 55, 3) := by decide +kernel
theorem dL_law_369 : decode cL_law 369 = .ok (.if_icmp .eq 584, 3) := by decide +kernel
theorem dL_law_372 : decode cL_law 372 = .ok (.iconst 0, 1) := by decide +kernel
theorem dL_law_373 : decode cL_law 373 = .ok (.ireturn, 1) := by decide +kernel
theorem dL_law_374 : decode cL_law 374 = .ok (.aload_n 1, 1) := by decide +kernel
theorem dL_law_375 : decode cL_law 375 = .ok (.aload_n 0, 1) := by decide +kernel
theorem dL_law_376 : decode cL_law 376 = .ok (.iload_n 3, 1) := by decide +kernel
theorem dL_law_377 : decode cL_law 377 = .ok (.iconst 1, 1) := by decide +kernel
theorem dL_law_378 : decode cL_law 378 = .ok (.iadd, 1) := by decide +kernel
theorem dL_law_379 : decode cL_law 379 = .ok (.iaload, 1) := by decide +kernel
theorem dL_law_380 : decode cL_law 380 = .ok (.aload_n 0, 1) := by decide +kernel
theorem dL_law_381 : decode cL_law 381 = .ok (.iload_n 3, 1) := by decide +kernel
theorem dL_law_382 : decode cL_law 382 = .ok (.iconst 2, 1) := by decide +kernel
theorem dL_law_383 : decode cL_law 383 = .ok (.iadd, 1) := by decide +kernel
theorem dL_law_384 : decode cL_law 384 = .ok (.iaload, 1) := by decide +kernel
theorem dL_law_385 : decode cL_law 385 = .ok (.aload_n 0, 1) := by decide +kernel
theorem dL_law_386 : decode cL_law 386 = .ok (.iload_n 3, 1) := by decide +kernel
theorem dL_law_387 : decode cL_law 387 = .ok (.iconst 3, 1) := by decide +kernel
theorem dL_law_388 : decode cL_law 388 = .ok (.iadd, 1) := by decide +kernel
theorem dL_law_389 : decode cL_law 389 = .ok (.iaload, 1) := by decide +kernel
theorem dL_law_390 : decode cL_law 390 = .ok (.aload_n 0, 1) := by decide +kernel
theorem dL_law_391 : decode cL_law 391 = .ok (.iload_n 3, 1) := by decide +kernel
theorem dL_law_392 : decode cL_law 392 = .ok (.iconst 4, 1) := by decide +kernel
theorem dL_law_393 : decode cL_law 393 = .ok (.iadd, 1) := by decide +kernel
theorem dL_law_394 : decode cL_law 394 = .ok (.iaload, 1) := by decide +kernel
theorem dL_law_395 : decode cL_law 395 = .ok (.aload_n 0, 1) := by decide +kernel
theorem dL_law_396 : decode cL_law 396 = .ok (.iload_n 3, 1) := by decide +kernel
theorem dL_law_397 : decode cL_law 397 = .ok (.iconst 5, 1) := by decide +kernel
theorem dL_law_398 : decode cL_law 398 = .ok (.iadd, 1) := by decide +kernel
theorem dL_law_399 : decode cL_law 399 = .ok (.iaload, 1) := by decide +kernel
theorem dL_law_400 : decode cL_law 400 = .ok (.invokevirtual 56, 3) := by decide +kernel
theorem dL_law_403 : decode cL_law 403 = .ok (.aload_n 2, 1) := by decide +kernel
theorem dL_law_404 : decode cL_law 404 = .ok (.aload_n 0, 1) := by decide +kernel
theorem dL_law_405 : decode cL_law 405 = .ok (.iload_n 3, 1) := by decide +kernel
theorem dL_law_406 : decode cL_law 406 = .ok (.iconst 1, 1) := by decide +kernel
theorem dL_law_407 : decode cL_law 407 = .ok (.iadd, 1) := by decide +kernel
theorem dL_law_408 : decode cL_law 408 = .ok (.iaload, 1) := by decide +kernel
theorem dL_law_409 : decode cL_law 409 = .ok (.aload_n 0, 1) := by decide +kernel
theorem dL_law_410 : decode cL_law 410 = .ok (.iload_n 3, 1) := by decide +kernel
theorem dL_law_411 : decode cL_law 411 = .ok (.iconst 2, 1) := by decide +kernel
theorem dL_law_412 : decode cL_law 412 = .ok (.iadd, 1) := by decide +kernel
theorem dL_law_413 : decode cL_law 413 = .ok (.iaload, 1) := by decide +kernel
theorem dL_law_414 : decode cL_law 414 = .ok (.aload_n 0, 1) := by decide +kernel
theorem dL_law_415 : decode cL_law 415 = .ok (.iload_n 3, 1) := by decide +kernel
theorem dL_law_416 : decode cL_law 416 = .ok (.iconst 3, 1) := by decide +kernel
theorem dL_law_417 : decode cL_law 417 = .ok (.iadd, 1) := by decide +kernel
theorem dL_law_418 : decode cL_law 418 = .ok (.iaload, 1) := by decide +kernel
theorem dL_law_419 : decode cL_law 419 = .ok (.aload_n 0, 1) := by decide +kernel
theorem dL_law_420 : decode cL_law 420 = .ok (.iload_n 3, 1) := by decide +kernel
theorem dL_law_421 : decode cL_law 421 = .ok (.iconst 4, 1) := by decide +kernel
theorem dL_law_422 : decode cL_law 422 = .ok (.iadd, 1) := by decide +kernel
theorem dL_law_423 : decode cL_law 423 = .ok (.iaload, 1) := by decide +kernel
theorem dL_law_424 : decode cL_law 424 = .ok (.aload_n 0, 1) := by decide +kernel
theorem dL_law_425 : decode cL_law 425 = .ok (.iload_n 3, 1) := by decide +kernel
theorem dL_law_426 : decode cL_law 426 = .ok (.iconst 5, 1) := by decide +kernel
theorem dL_law_427 : decode cL_law 427 = .ok (.iadd, 1) := by decide +kernel
theorem dL_law_428 : decode cL_law 428 = .ok (.iaload, 1) := by decide +kernel
theorem dL_law_429 : decode cL_law 429 = .ok (.invokevirtual 60, 3) := by decide +kernel
theorem dL_law_432 : decode cL_law 432 = .ok (.if_icmp .eq 521, 3) := by decide +kernel
theorem dL_law_435 : decode cL_law 435 = .ok (.iconst 0, 1) := by decide +kernel
theorem dL_law_436 : decode cL_law 436 = .ok (.ireturn, 1) := by decide +kernel
theorem dL_law_437 : decode cL_law 437 = .ok (.aload_n 1, 1) := by decide +kernel
theorem dL_law_438 : decode cL_law 438 = .ok (.invokevirtual 61, 3) := by decide +kernel
theorem dL_law_441 : decode cL_law 441 = .ok (.aload_n 2, 1) := by decide +kernel
theorem dL_law_442 : decode cL_law 442 = .ok (.invokevirtual 64, 3) := by decide +kernel
theorem dL_law_445 : decode cL_law 445 = .ok (.if_icmp .eq 508, 3) := by decide +kernel
theorem dL_law_448 : decode cL_law 448 = .ok (.iconst 0, 1) := by decide +kernel
theorem dL_law_449 : decode cL_law 449 = .ok (.ireturn, 1) := by decide +kernel
theorem dL_law_450 : decode cL_law 450 = .ok (.aload_n 1, 1) := by decide +kernel
theorem dL_law_451 : decode cL_law 451 = .ok (.aload_n 0, 1) := by decide +kernel
theorem dL_law_452 : decode cL_law 452 = .ok (.iload_n 3, 1) := by decide +kernel
theorem dL_law_453 : decode cL_law 453 = .ok (.iconst 1, 1) := by decide +kernel
theorem dL_law_454 : decode cL_law 454 = .ok (.iadd, 1) := by decide +kernel
theorem dL_law_455 : decode cL_law 455 = .ok (.iaload, 1) := by decide +kernel
theorem dL_law_456 : decode cL_law 456 = .ok (.aload_n 0, 1) := by decide +kernel
theorem dL_law_457 : decode cL_law 457 = .ok (.iload_n 3, 1) := by decide +kernel
theorem dL_law_458 : decode cL_law 458 = .ok (.iconst 2, 1) := by decide +kernel
theorem dL_law_459 : decode cL_law 459 = .ok (.iadd, 1) := by decide +kernel
theorem dL_law_460 : decode cL_law 460 = .ok (.iaload, 1) := by decide +kernel
theorem dL_law_461 : decode cL_law 461 = .ok (.aload_n 0, 1) := by decide +kernel
theorem dL_law_462 : decode cL_law 462 = .ok (.iload_n 3, 1) := by decide +kernel
theorem dL_law_463 : decode cL_law 463 = .ok (.iconst 3, 1) := by decide +kernel
theorem dL_law_464 : decode cL_law 464 = .ok (.iadd, 1) := by decide +kernel
theorem dL_law_465 : decode cL_law 465 = .ok (.iaload, 1) := by decide +kernel
theorem dL_law_466 : decode cL_law 466 = .ok (.aload_n 0, 1) := by decide +kernel
theorem dL_law_467 : decode cL_law 467 = .ok (.iload_n 3, 1) := by decide +kernel
theorem dL_law_468 : decode cL_law 468 = .ok (.iconst 4, 1) := by decide +kernel
theorem dL_law_469 : decode cL_law 469 = .ok (.iadd, 1) := by decide +kernel
theorem dL_law_470 : decode cL_law 470 = .ok (.iaload, 1) := by decide +kernel
theorem dL_law_471 : decode cL_law 471 = .ok (.invokevirtual 65, 3) := by decide +kernel
theorem dL_law_474 : decode cL_law 474 = .ok (.aload_n 2, 1) := by decide +kernel
theorem dL_law_475 : decode cL_law 475 = .ok (.aload_n 0, 1) := by decide +kernel
theorem dL_law_476 : decode cL_law 476 = .ok (.iload_n 3, 1) := by decide +kernel
theorem dL_law_477 : decode cL_law 477 = .ok (.iconst 1, 1) := by decide +kernel
theorem dL_law_478 : decode cL_law 478 = .ok (.iadd, 1) := by decide +kernel
theorem dL_law_479 : decode cL_law 479 = .ok (.iaload, 1) := by decide +kernel
theorem dL_law_480 : decode cL_law 480 = .ok (.aload_n 0, 1) := by decide +kernel
theorem dL_law_481 : decode cL_law 481 = .ok (.iload_n 3, 1) := by decide +kernel
theorem dL_law_482 : decode cL_law 482 = .ok (.iconst 2, 1) := by decide +kernel
theorem dL_law_483 : decode cL_law 483 = .ok (.iadd, 1) := by decide +kernel
theorem dL_law_484 : decode cL_law 484 = .ok (.iaload, 1) := by decide +kernel
theorem dL_law_485 : decode cL_law 485 = .ok (.aload_n 0, 1) := by decide +kernel
theorem dL_law_486 : decode cL_law 486 = .ok (.iload_n 3, 1) := by decide +kernel
theorem dL_law_487 : decode cL_law 487 = .ok (.iconst 3, 1) := by decide +kernel
theorem dL_law_488 : decode cL_law 488 = .ok (.iadd, 1) := by decide +kernel
theorem dL_law_489 : decode cL_law 489 = .ok (.iaload, 1) := by decide +kernel
theorem dL_law_490 : decode cL_law 490 = .ok (.aload_n 0, 1) := by decide +kernel
theorem dL_law_491 : decode cL_law 491 = .ok (.iload_n 3, 1) := by decide +kernel
theorem dL_law_492 : decode cL_law 492 = .ok (.iconst 4, 1) := by decide +kernel
theorem dL_law_493 : decode cL_law 493 = .ok (.iadd, 1) := by decide +kernel
theorem dL_law_494 : decode cL_law 494 = .ok (.iaload, 1) := by decide +kernel
theorem dL_law_495 : decode cL_law 495 = .ok (.invokevirtual 69, 3) := by decide +kernel
theorem dL_law_498 : decode cL_law 498 = .ok (.if_icmp .eq 455, 3) := by decide +kernel
theorem dL_law_501 : decode cL_law 501 = .ok (.iconst 0, 1) := by decide +kernel
theorem dL_law_502 : decode cL_law 502 = .ok (.ireturn, 1) := by decide +kernel
theorem dL_law_503 : decode cL_law 503 = .ok (.aload_n 1, 1) := by decide +kernel
theorem dL_law_504 : decode cL_law 504 = .ok (.aload_n 0, 1) := by decide +kernel
theorem dL_law_505 : decode cL_law 505 = .ok (.iload_n 3, 1) := by decide +kernel
theorem dL_law_506 : decode cL_law 506 = .ok (.iconst 1, 1) := by decide +kernel
theorem dL_law_507 : decode cL_law 507 = .ok (.iadd, 1) := by decide +kernel
theorem dL_law_508 : decode cL_law 508 = .ok (.iaload, 1) := by decide +kernel
theorem dL_law_509 : decode cL_law 509 = .ok (.aload_n 0, 1) := by decide +kernel
theorem dL_law_510 : decode cL_law 510 = .ok (.iload_n 3, 1) := by decide +kernel
theorem dL_law_511 : decode cL_law 511 = .ok (.iconst 2, 1) := by decide +kernel
theorem dL_law_512 : decode cL_law 512 = .ok (.iadd, 1) := by decide +kernel
theorem dL_law_513 : decode cL_law 513 = .ok (.iaload, 1) := by decide +kernel
theorem dL_law_514 : decode cL_law 514 = .ok (.aload_n 0, 1) := by decide +kernel
theorem dL_law_515 : decode cL_law 515 = .ok (.iload_n 3, 1) := by decide +kernel
theorem dL_law_516 : decode cL_law 516 = .ok (.iconst 3, 1) := by decide +kernel
theorem dL_law_517 : decode cL_law 517 = .ok (.iadd, 1) := by decide +kernel
theorem dL_law_518 : decode cL_law 518 = .ok (.iaload, 1) := by decide +kernel
theorem dL_law_519 : decode cL_law 519 = .ok (.aload_n 0, 1) := by decide +kernel
theorem dL_law_520 : decode cL_law 520 = .ok (.iload_n 3, 1) := by decide +kernel
theorem dL_law_521 : decode cL_law 521 = .ok (.iconst 4, 1) := by decide +kernel
theorem dL_law_522 : decode cL_law 522 = .ok (.iadd, 1) := by decide +kernel
theorem dL_law_523 : decode cL_law 523 = .ok (.iaload, 1) := by decide +kernel
theorem dL_law_524 : decode cL_law 524 = .ok (.invokevirtual 70, 3) := by decide +kernel
theorem dL_law_527 : decode cL_law 527 = .ok (.aload_n 2, 1) := by decide +kernel
theorem dL_law_528 : decode cL_law 528 = .ok (.aload_n 0, 1) := by decide +kernel
theorem dL_law_529 : decode cL_law 529 = .ok (.iload_n 3, 1) := by decide +kernel
theorem dL_law_530 : decode cL_law 530 = .ok (.iconst 1, 1) := by decide +kernel
theorem dL_law_531 : decode cL_law 531 = .ok (.iadd, 1) := by decide +kernel
theorem dL_law_532 : decode cL_law 532 = .ok (.iaload, 1) := by decide +kernel
theorem dL_law_533 : decode cL_law 533 = .ok (.aload_n 0, 1) := by decide +kernel
theorem dL_law_534 : decode cL_law 534 = .ok (.iload_n 3, 1) := by decide +kernel
theorem dL_law_535 : decode cL_law 535 = .ok (.iconst 2, 1) := by decide +kernel
theorem dL_law_536 : decode cL_law 536 = .ok (.iadd, 1) := by decide +kernel
theorem dL_law_537 : decode cL_law 537 = .ok (.iaload, 1) := by decide +kernel
theorem dL_law_538 : decode cL_law 538 = .ok (.aload_n 0, 1) := by decide +kernel
theorem dL_law_539 : decode cL_law 539 = .ok (.iload_n 3, 1) := by decide +kernel
theorem dL_law_540 : decode cL_law 540 = .ok (.iconst 3, 1) := by decide +kernel
theorem dL_law_541 : decode cL_law 541 = .ok (.iadd, 1) := by decide +kernel
theorem dL_law_542 : decode cL_law 542 = .ok (.iaload, 1) := by decide +kernel
theorem dL_law_543 : decode cL_law 543 = .ok (.aload_n 0, 1) := by decide +kernel
theorem dL_law_544 : decode cL_law 544 = .ok (.iload_n 3, 1) := by decide +kernel
theorem dL_law_545 : decode cL_law 545 = .ok (.iconst 4, 1) := by decide +kernel
theorem dL_law_546 : decode cL_law 546 = .ok (.iadd, 1) := by decide +kernel
theorem dL_law_547 : decode cL_law 547 = .ok (.iaload, 1) := by decide +kernel
theorem dL_law_548 : decode cL_law 548 = .ok (.invokevirtual 73, 3) := by decide +kernel
theorem dL_law_551 : decode cL_law 551 = .ok (.if_icmp .eq 402, 3) := by decide +kernel
theorem dL_law_554 : decode cL_law 554 = .ok (.iconst 0, 1) := by decide +kernel
theorem dL_law_555 : decode cL_law 555 = .ok (.ireturn, 1) := by decide +kernel
theorem dL_law_556 : decode cL_law 556 = .ok (.aload_n 1, 1) := by decide +kernel
theorem dL_law_557 : decode cL_law 557 = .ok (.aload_n 0, 1) := by decide +kernel
theorem dL_law_558 : decode cL_law 558 = .ok (.iload_n 3, 1) := by decide +kernel
theorem dL_law_559 : decode cL_law 559 = .ok (.iconst 1, 1) := by decide +kernel
theorem dL_law_560 : decode cL_law 560 = .ok (.iadd, 1) := by decide +kernel
theorem dL_law_561 : decode cL_law 561 = .ok (.iaload, 1) := by decide +kernel
theorem dL_law_562 : decode cL_law 562 = .ok (.aload_n 0, 1) := by decide +kernel
theorem dL_law_563 : decode cL_law 563 = .ok (.iload_n 3, 1) := by decide +kernel
theorem dL_law_564 : decode cL_law 564 = .ok (.iconst 2, 1) := by decide +kernel
theorem dL_law_565 : decode cL_law 565 = .ok (.iadd, 1) := by decide +kernel
theorem dL_law_566 : decode cL_law 566 = .ok (.iaload, 1) := by decide +kernel
theorem dL_law_567 : decode cL_law 567 = .ok (.aload_n 0, 1) := by decide +kernel
theorem dL_law_568 : decode cL_law 568 = .ok (.iload_n 3, 1) := by decide +kernel
theorem dL_law_569 : decode cL_law 569 = .ok (.iconst 3, 1) := by decide +kernel
theorem dL_law_570 : decode cL_law 570 = .ok (.iadd, 1) := by decide +kernel
theorem dL_law_571 : decode cL_law 571 = .ok (.iaload, 1) := by decide +kernel
theorem dL_law_572 : decode cL_law 572 = .ok (.invokevirtual 74, 3) := by decide +kernel
theorem dL_law_575 : decode cL_law 575 = .ok (.aload_n 2, 1) := by decide +kernel
theorem dL_law_576 : decode cL_law 576 = .ok (.aload_n 0, 1) := by decide +kernel
theorem dL_law_577 : decode cL_law 577 = .ok (.iload_n 3, 1) := by decide +kernel
theorem dL_law_578 : decode cL_law 578 = .ok (.iconst 1, 1) := by decide +kernel
theorem dL_law_579 : decode cL_law 579 = .ok (.iadd, 1) := by decide +kernel
theorem dL_law_580 : decode cL_law 580 = .ok (.iaload, 1) := by decide +kernel
theorem dL_law_581 : decode cL_law 581 = .ok (.aload_n 0, 1) := by decide +kernel
theorem dL_law_582 : decode cL_law 582 = .ok (.iload_n 3, 1) := by decide +kernel
theorem dL_law_583 : decode cL_law 583 = .ok (.iconst 2, 1) := by decide +kernel
theorem dL_law_584 : decode cL_law 584 = .ok (.iadd, 1) := by decide +kernel
theorem dL_law_585 : decode cL_law 585 = .ok (.iaload, 1) := by decide +kernel
theorem dL_law_586 : decode cL_law 586 = .ok (.aload_n 0, 1) := by decide +kernel
theorem dL_law_587 : decode cL_law 587 = .ok (.iload_n 3, 1) := by decide +kernel
theorem dL_law_588 : decode cL_law 588 = .ok (.iconst 3, 1) := by decide +kernel
theorem dL_law_589 : decode cL_law 589 = .ok (.iadd, 1) := by decide +kernel
theorem dL_law_590 : decode cL_law 590 = .ok (.iaload, 1) := by decide +kernel
theorem dL_law_591 : decode cL_law 591 = .ok (.invokevirtual 78, 3) := by decide +kernel
theorem dL_law_594 : decode cL_law 594 = .ok (.if_icmp .eq 359, 3) := by decide +kernel
theorem dL_law_597 : decode cL_law 597 = .ok (.iconst 0, 1) := by decide +kernel
theorem dL_law_598 : decode cL_law 598 = .ok (.ireturn, 1) := by decide +kernel
theorem dL_law_599 : decode cL_law 599 = .ok (.aload_n 1, 1) := by decide +kernel
theorem dL_law_600 : decode cL_law 600 = .ok (.aload_n 0, 1) := by decide +kernel
theorem dL_law_601 : decode cL_law 601 = .ok (.iload_n 3, 1) := by decide +kernel
theorem dL_law_602 : decode cL_law 602 = .ok (.iconst 1, 1) := by decide +kernel
theorem dL_law_603 : decode cL_law 603 = .ok (.iadd, 1) := by decide +kernel
theorem dL_law_604 : decode cL_law 604 = .ok (.iaload, 1) := by decide +kernel
theorem dL_law_605 : decode cL_law 605 = .ok (.aload_n 0, 1) := by decide +kernel
theorem dL_law_606 : decode cL_law 606 = .ok (.iload_n 3, 1) := by decide +kernel
theorem dL_law_607 : decode cL_law 607 = .ok (.iconst 2, 1) := by decide +kernel
theorem dL_law_608 : decode cL_law 608 = .ok (.iadd, 1) := by decide +kernel
theorem dL_law_609 : decode cL_law 609 = .ok (.iaload, 1) := by decide +kernel
theorem dL_law_610 : decode cL_law 610 = .ok (.i2l, 1) := by decide +kernel
theorem dL_law_611 : decode cL_law 611 = .ok (.bipush 32, 2) := by decide +kernel
theorem dL_law_613 : decode cL_law 613 = .ok (.lshl, 1) := by decide +kernel
theorem dL_law_614 : decode cL_law 614 = .ok (.aload_n 0, 1) := by decide +kernel
theorem dL_law_615 : decode cL_law 615 = .ok (.iload_n 3, 1) := by decide +kernel
theorem dL_law_616 : decode cL_law 616 = .ok (.iconst 3, 1) := by decide +kernel
theorem dL_law_617 : decode cL_law 617 = .ok (.iadd, 1) := by decide +kernel
theorem dL_law_618 : decode cL_law 618 = .ok (.iaload, 1) := by decide +kernel
theorem dL_law_619 : decode cL_law 619 = .ok (.i2l, 1) := by decide +kernel
theorem dL_law_620 : decode cL_law 620 = .ok (.ldc2_w 79, 3) := by decide +kernel
theorem dL_law_623 : decode cL_law 623 = .ok (.land, 1) := by decide +kernel
theorem dL_law_624 : decode cL_law 624 = .ok (.lor, 1) := by decide +kernel
theorem dL_law_625 : decode cL_law 625 = .ok (.invokevirtual 81, 3) := by decide +kernel
theorem dL_law_628 : decode cL_law 628 = .ok (.aload_n 2, 1) := by decide +kernel
theorem dL_law_629 : decode cL_law 629 = .ok (.aload_n 0, 1) := by decide +kernel
theorem dL_law_630 : decode cL_law 630 = .ok (.iload_n 3, 1) := by decide +kernel
theorem dL_law_631 : decode cL_law 631 = .ok (.iconst 1, 1) := by decide +kernel
theorem dL_law_632 : decode cL_law 632 = .ok (.iadd, 1) := by decide +kernel
theorem dL_law_633 : decode cL_law 633 = .ok (.iaload, 1) := by decide +kernel
theorem dL_law_634 : decode cL_law 634 = .ok (.aload_n 0, 1) := by decide +kernel
theorem dL_law_635 : decode cL_law 635 = .ok (.iload_n 3, 1) := by decide +kernel
theorem dL_law_636 : decode cL_law 636 = .ok (.iconst 2, 1) := by decide +kernel
theorem dL_law_637 : decode cL_law 637 = .ok (.iadd, 1) := by decide +kernel
theorem dL_law_638 : decode cL_law 638 = .ok (.iaload, 1) := by decide +kernel
theorem dL_law_639 : decode cL_law 639 = .ok (.i2l, 1) := by decide +kernel
theorem dL_law_640 : decode cL_law 640 = .ok (.bipush 32, 2) := by decide +kernel
theorem dL_law_642 : decode cL_law 642 = .ok (.lshl, 1) := by decide +kernel
theorem dL_law_643 : decode cL_law 643 = .ok (.aload_n 0, 1) := by decide +kernel
theorem dL_law_644 : decode cL_law 644 = .ok (.iload_n 3, 1) := by decide +kernel
theorem dL_law_645 : decode cL_law 645 = .ok (.iconst 3, 1) := by decide +kernel
theorem dL_law_646 : decode cL_law 646 = .ok (.iadd, 1) := by decide +kernel
theorem dL_law_647 : decode cL_law 647 = .ok (.iaload, 1) := by decide +kernel
theorem dL_law_648 : decode cL_law 648 = .ok (.i2l, 1) := by decide +kernel
theorem dL_law_649 : decode cL_law 649 = .ok (.ldc2_w 79, 3) := by decide +kernel
theorem dL_law_652 : decode cL_law 652 = .ok (.land, 1) := by decide +kernel
theorem dL_law_653 : decode cL_law 653 = .ok (.lor, 1) := by decide +kernel
theorem dL_law_654 : decode cL_law 654 = .ok (.invokevirtual 85, 3) := by decide +kernel
theorem dL_law_657 : decode cL_law 657 = .ok (.if_icmp .eq 296, 3) := by decide +kernel
theorem dL_law_660 : decode cL_law 660 = .ok (.iconst 0, 1) := by decide +kernel
theorem dL_law_661 : decode cL_law 661 = .ok (.ireturn, 1) := by decide +kernel
theorem dL_law_662 : decode cL_law 662 = .ok (.aload_n 1, 1) := by decide +kernel
theorem dL_law_663 : decode cL_law 663 = .ok (.aload_n 0, 1) := by decide +kernel
theorem dL_law_664 : decode cL_law 664 = .ok (.iload_n 3, 1) := by decide +kernel
theorem dL_law_665 : decode cL_law 665 = .ok (.iconst 1, 1) := by decide +kernel
theorem dL_law_666 : decode cL_law 666 = .ok (.iadd, 1) := by decide +kernel
theorem dL_law_667 : decode cL_law 667 = .ok (.iaload, 1) := by decide +kernel
theorem dL_law_668 : decode cL_law 668 = .ok (.aload_n 0, 1) := by decide +kernel
theorem dL_law_669 : decode cL_law 669 = .ok (.iload_n 3, 1) := by decide +kernel
theorem dL_law_670 : decode cL_law 670 = .ok (.iconst 2, 1) := by decide +kernel
theorem dL_law_671 : decode cL_law 671 = .ok (.iadd, 1) := by decide +kernel
theorem dL_law_672 : decode cL_law 672 = .ok (.iaload, 1) := by decide +kernel
theorem dL_law_673 : decode cL_law 673 = .ok (.aload_n 0, 1) := by decide +kernel
theorem dL_law_674 : decode cL_law 674 = .ok (.iload_n 3, 1) := by decide +kernel
theorem dL_law_675 : decode cL_law 675 = .ok (.iconst 3, 1) := by decide +kernel
theorem dL_law_676 : decode cL_law 676 = .ok (.iadd, 1) := by decide +kernel
theorem dL_law_677 : decode cL_law 677 = .ok (.iaload, 1) := by decide +kernel
theorem dL_law_678 : decode cL_law 678 = .ok (.aload_n 0, 1) := by decide +kernel
theorem dL_law_679 : decode cL_law 679 = .ok (.iload_n 3, 1) := by decide +kernel
theorem dL_law_680 : decode cL_law 680 = .ok (.iconst 4, 1) := by decide +kernel
theorem dL_law_681 : decode cL_law 681 = .ok (.iadd, 1) := by decide +kernel
theorem dL_law_682 : decode cL_law 682 = .ok (.iaload, 1) := by decide +kernel
theorem dL_law_683 : decode cL_law 683 = .ok (.invokevirtual 86, 3) := by decide +kernel
theorem dL_law_686 : decode cL_law 686 = .ok (.aload_n 2, 1) := by decide +kernel
theorem dL_law_687 : decode cL_law 687 = .ok (.aload_n 0, 1) := by decide +kernel
theorem dL_law_688 : decode cL_law 688 = .ok (.iload_n 3, 1) := by decide +kernel
theorem dL_law_689 : decode cL_law 689 = .ok (.iconst 1, 1) := by decide +kernel
theorem dL_law_690 : decode cL_law 690 = .ok (.iadd, 1) := by decide +kernel
theorem dL_law_691 : decode cL_law 691 = .ok (.iaload, 1) := by decide +kernel
theorem dL_law_692 : decode cL_law 692 = .ok (.aload_n 0, 1) := by decide +kernel
theorem dL_law_693 : decode cL_law 693 = .ok (.iload_n 3, 1) := by decide +kernel
theorem dL_law_694 : decode cL_law 694 = .ok (.iconst 2, 1) := by decide +kernel
theorem dL_law_695 : decode cL_law 695 = .ok (.iadd, 1) := by decide +kernel
theorem dL_law_696 : decode cL_law 696 = .ok (.iaload, 1) := by decide +kernel
theorem dL_law_697 : decode cL_law 697 = .ok (.aload_n 0, 1) := by decide +kernel
theorem dL_law_698 : decode cL_law 698 = .ok (.iload_n 3, 1) := by decide +kernel
theorem dL_law_699 : decode cL_law 699 = .ok (.iconst 3, 1) := by decide +kernel
theorem dL_law_700 : decode cL_law 700 = .ok (.iadd, 1) := by decide +kernel
theorem dL_law_701 : decode cL_law 701 = .ok (.iaload, 1) := by decide +kernel
theorem dL_law_702 : decode cL_law 702 = .ok (.aload_n 0, 1) := by decide +kernel
theorem dL_law_703 : decode cL_law 703 = .ok (.iload_n 3, 1) := by decide +kernel
theorem dL_law_704 : decode cL_law 704 = .ok (.iconst 4, 1) := by decide +kernel
theorem dL_law_705 : decode cL_law 705 = .ok (.iadd, 1) := by decide +kernel
theorem dL_law_706 : decode cL_law 706 = .ok (.iaload, 1) := by decide +kernel
theorem dL_law_707 : decode cL_law 707 = .ok (.invokevirtual 89, 3) := by decide +kernel
theorem dL_law_710 : decode cL_law 710 = .ok (.if_icmp .eq 243, 3) := by decide +kernel
theorem dL_law_713 : decode cL_law 713 = .ok (.iconst 0, 1) := by decide +kernel
theorem dL_law_714 : decode cL_law 714 = .ok (.ireturn, 1) := by decide +kernel
theorem dL_law_715 : decode cL_law 715 = .ok (.aload_n 1, 1) := by decide +kernel
theorem dL_law_716 : decode cL_law 716 = .ok (.invokevirtual 90, 3) := by decide +kernel
theorem dL_law_719 : decode cL_law 719 = .ok (.aload_n 2, 1) := by decide +kernel
theorem dL_law_720 : decode cL_law 720 = .ok (.invokevirtual 93, 3) := by decide +kernel
theorem dL_law_723 : decode cL_law 723 = .ok (.if_icmp .eq 230, 3) := by decide +kernel
theorem dL_law_726 : decode cL_law 726 = .ok (.iconst 0, 1) := by decide +kernel
theorem dL_law_727 : decode cL_law 727 = .ok (.ireturn, 1) := by decide +kernel
theorem dL_law_728 : decode cL_law 728 = .ok (.aload_n 1, 1) := by decide +kernel
theorem dL_law_729 : decode cL_law 729 = .ok (.aload_n 0, 1) := by decide +kernel
theorem dL_law_730 : decode cL_law 730 = .ok (.iload_n 3, 1) := by decide +kernel
theorem dL_law_731 : decode cL_law 731 = .ok (.iconst 1, 1) := by decide +kernel
theorem dL_law_732 : decode cL_law 732 = .ok (.iadd, 1) := by decide +kernel
theorem dL_law_733 : decode cL_law 733 = .ok (.iaload, 1) := by decide +kernel
theorem dL_law_734 : decode cL_law 734 = .ok (.invokevirtual 94, 3) := by decide +kernel
theorem dL_law_737 : decode cL_law 737 = .ok (.aload_n 2, 1) := by decide +kernel
theorem dL_law_738 : decode cL_law 738 = .ok (.aload_n 0, 1) := by decide +kernel
theorem dL_law_739 : decode cL_law 739 = .ok (.iload_n 3, 1) := by decide +kernel
theorem dL_law_740 : decode cL_law 740 = .ok (.iconst 1, 1) := by decide +kernel
theorem dL_law_741 : decode cL_law 741 = .ok (.iadd, 1) := by decide +kernel
theorem dL_law_742 : decode cL_law 742 = .ok (.iaload, 1) := by decide +kernel
theorem dL_law_743 : decode cL_law 743 = .ok (.invokevirtual 97, 3) := by decide +kernel
theorem dL_law_746 : decode cL_law 746 = .ok (.if_icmp .eq 207, 3) := by decide +kernel
theorem dL_law_749 : decode cL_law 749 = .ok (.iconst 0, 1) := by decide +kernel
theorem dL_law_750 : decode cL_law 750 = .ok (.ireturn, 1) := by decide +kernel
theorem dL_law_751 : decode cL_law 751 = .ok (.aload_n 1, 1) := by decide +kernel
theorem dL_law_752 : decode cL_law 752 = .ok (.aload_n 0, 1) := by decide +kernel
theorem dL_law_753 : decode cL_law 753 = .ok (.iload_n 3, 1) := by decide +kernel
theorem dL_law_754 : decode cL_law 754 = .ok (.iconst 1, 1) := by decide +kernel
theorem dL_law_755 : decode cL_law 755 = .ok (.iadd, 1) := by decide +kernel
theorem dL_law_756 : decode cL_law 756 = .ok (.iaload, 1) := by decide +kernel
theorem dL_law_757 : decode cL_law 757 = .ok (.aload_n 0, 1) := by decide +kernel
theorem dL_law_758 : decode cL_law 758 = .ok (.iload_n 3, 1) := by decide +kernel
theorem dL_law_759 : decode cL_law 759 = .ok (.iconst 2, 1) := by decide +kernel
theorem dL_law_760 : decode cL_law 760 = .ok (.iadd, 1) := by decide +kernel
theorem dL_law_761 : decode cL_law 761 = .ok (.iaload, 1) := by decide +kernel
theorem dL_law_762 : decode cL_law 762 = .ok (.aload_n 0, 1) := by decide +kernel
theorem dL_law_763 : decode cL_law 763 = .ok (.iload_n 3, 1) := by decide +kernel
theorem dL_law_764 : decode cL_law 764 = .ok (.iconst 3, 1) := by decide +kernel
theorem dL_law_765 : decode cL_law 765 = .ok (.iadd, 1) := by decide +kernel
theorem dL_law_766 : decode cL_law 766 = .ok (.iaload, 1) := by decide +kernel
theorem dL_law_767 : decode cL_law 767 = .ok (.aload_n 0, 1) := by decide +kernel
theorem dL_law_768 : decode cL_law 768 = .ok (.iload_n 3, 1) := by decide +kernel
theorem dL_law_769 : decode cL_law 769 = .ok (.iconst 4, 1) := by decide +kernel
theorem dL_law_770 : decode cL_law 770 = .ok (.iadd, 1) := by decide +kernel
theorem dL_law_771 : decode cL_law 771 = .ok (.iaload, 1) := by decide +kernel
theorem dL_law_772 : decode cL_law 772 = .ok (.aload_n 0, 1) := by decide +kernel
theorem dL_law_773 : decode cL_law 773 = .ok (.iload_n 3, 1) := by decide +kernel
theorem dL_law_774 : decode cL_law 774 = .ok (.iconst 5, 1) := by decide +kernel
theorem dL_law_775 : decode cL_law 775 = .ok (.iadd, 1) := by decide +kernel
theorem dL_law_776 : decode cL_law 776 = .ok (.iaload, 1) := by decide +kernel
theorem dL_law_777 : decode cL_law 777 = .ok (.ifCond .eq 7, 3) := by decide +kernel
theorem dL_law_780 : decode cL_law 780 = .ok (.iconst 1, 1) := by decide +kernel
theorem dL_law_781 : decode cL_law 781 = .ok (.goto 4, 3) := by decide +kernel
theorem dL_law_784 : decode cL_law 784 = .ok (.iconst 0, 1) := by decide +kernel
theorem dL_law_785 : decode cL_law 785 = .ok (.invokevirtual 98, 3) := by decide +kernel
theorem dL_law_788 : decode cL_law 788 = .ok (.aload_n 2, 1) := by decide +kernel
theorem dL_law_789 : decode cL_law 789 = .ok (.aload_n 0, 1) := by decide +kernel
theorem dL_law_790 : decode cL_law 790 = .ok (.iload_n 3, 1) := by decide +kernel
theorem dL_law_791 : decode cL_law 791 = .ok (.iconst 1, 1) := by decide +kernel
theorem dL_law_792 : decode cL_law 792 = .ok (.iadd, 1) := by decide +kernel
theorem dL_law_793 : decode cL_law 793 = .ok (.iaload, 1) := by decide +kernel
theorem dL_law_794 : decode cL_law 794 = .ok (.aload_n 0, 1) := by decide +kernel
theorem dL_law_795 : decode cL_law 795 = .ok (.iload_n 3, 1) := by decide +kernel
theorem dL_law_796 : decode cL_law 796 = .ok (.iconst 2, 1) := by decide +kernel
theorem dL_law_797 : decode cL_law 797 = .ok (.iadd, 1) := by decide +kernel
theorem dL_law_798 : decode cL_law 798 = .ok (.iaload, 1) := by decide +kernel
theorem dL_law_799 : decode cL_law 799 = .ok (.aload_n 0, 1) := by decide +kernel
theorem dL_law_800 : decode cL_law 800 = .ok (.iload_n 3, 1) := by decide +kernel
theorem dL_law_801 : decode cL_law 801 = .ok (.iconst 3, 1) := by decide +kernel
theorem dL_law_802 : decode cL_law 802 = .ok (.iadd, 1) := by decide +kernel
theorem dL_law_803 : decode cL_law 803 = .ok (.iaload, 1) := by decide +kernel
theorem dL_law_804 : decode cL_law 804 = .ok (.aload_n 0, 1) := by decide +kernel
theorem dL_law_805 : decode cL_law 805 = .ok (.iload_n 3, 1) := by decide +kernel
theorem dL_law_806 : decode cL_law 806 = .ok (.iconst 4, 1) := by decide +kernel
theorem dL_law_807 : decode cL_law 807 = .ok (.iadd, 1) := by decide +kernel
theorem dL_law_808 : decode cL_law 808 = .ok (.iaload, 1) := by decide +kernel
theorem dL_law_809 : decode cL_law 809 = .ok (.aload_n 0, 1) := by decide +kernel
theorem dL_law_810 : decode cL_law 810 = .ok (.iload_n 3, 1) := by decide +kernel
theorem dL_law_811 : decode cL_law 811 = .ok (.iconst 5, 1) := by decide +kernel
theorem dL_law_812 : decode cL_law 812 = .ok (.iadd, 1) := by decide +kernel
theorem dL_law_813 : decode cL_law 813 = .ok (.iaload, 1) := by decide +kernel
theorem dL_law_814 : decode cL_law 814 = .ok (.ifCond .eq 7, 3) := by decide +kernel
theorem dL_law_817 : decode cL_law 817 = .ok (.iconst 1, 1) := by decide +kernel
theorem dL_law_818 : decode cL_law 818 = .ok (.goto 4, 3) := by decide +kernel
theorem dL_law_821 : decode cL_law 821 = .ok (.iconst 0, 1) := by decide +kernel
theorem dL_law_822 : decode cL_law 822 = .ok (.invokevirtual 102, 3) := by decide +kernel
theorem dL_law_825 : decode cL_law 825 = .ok (.if_icmp .eq 128, 3) := by decide +kernel
theorem dL_law_828 : decode cL_law 828 = .ok (.iconst 0, 1) := by decide +kernel
theorem dL_law_829 : decode cL_law 829 = .ok (.ireturn, 1) := by decide +kernel
theorem dL_law_830 : decode cL_law 830 = .ok (.aload_n 1, 1) := by decide +kernel
theorem dL_law_831 : decode cL_law 831 = .ok (.aload_n 0, 1) := by decide +kernel
theorem dL_law_832 : decode cL_law 832 = .ok (.iload_n 3, 1) := by decide +kernel
theorem dL_law_833 : decode cL_law 833 = .ok (.iconst 1, 1) := by decide +kernel
theorem dL_law_834 : decode cL_law 834 = .ok (.iadd, 1) := by decide +kernel
theorem dL_law_835 : decode cL_law 835 = .ok (.iaload, 1) := by decide +kernel
theorem dL_law_836 : decode cL_law 836 = .ok (.i2l, 1) := by decide +kernel
theorem dL_law_837 : decode cL_law 837 = .ok (.bipush 32, 2) := by decide +kernel
theorem dL_law_839 : decode cL_law 839 = .ok (.lshl, 1) := by decide +kernel
theorem dL_law_840 : decode cL_law 840 = .ok (.aload_n 0, 1) := by decide +kernel
theorem dL_law_841 : decode cL_law 841 = .ok (.iload_n 3, 1) := by decide +kernel
theorem dL_law_842 : decode cL_law 842 = .ok (.iconst 2, 1) := by decide +kernel
theorem dL_law_843 : decode cL_law 843 = .ok (.iadd, 1) := by decide +kernel
theorem dL_law_844 : decode cL_law 844 = .ok (.iaload, 1) := by decide +kernel
theorem dL_law_845 : decode cL_law 845 = .ok (.i2l, 1) := by decide +kernel
theorem dL_law_846 : decode cL_law 846 = .ok (.ldc2_w 79, 3) := by decide +kernel
theorem dL_law_849 : decode cL_law 849 = .ok (.land, 1) := by decide +kernel
theorem dL_law_850 : decode cL_law 850 = .ok (.lor, 1) := by decide +kernel
theorem dL_law_851 : decode cL_law 851 = .ok (.invokevirtual 103, 3) := by decide +kernel
theorem dL_law_854 : decode cL_law 854 = .ok (.aload_n 2, 1) := by decide +kernel
theorem dL_law_855 : decode cL_law 855 = .ok (.aload_n 0, 1) := by decide +kernel
theorem dL_law_856 : decode cL_law 856 = .ok (.iload_n 3, 1) := by decide +kernel
theorem dL_law_857 : decode cL_law 857 = .ok (.iconst 1, 1) := by decide +kernel
theorem dL_law_858 : decode cL_law 858 = .ok (.iadd, 1) := by decide +kernel
theorem dL_law_859 : decode cL_law 859 = .ok (.iaload, 1) := by decide +kernel
theorem dL_law_860 : decode cL_law 860 = .ok (.i2l, 1) := by decide +kernel
theorem dL_law_861 : decode cL_law 861 = .ok (.bipush 32, 2) := by decide +kernel
theorem dL_law_863 : decode cL_law 863 = .ok (.lshl, 1) := by decide +kernel
theorem dL_law_864 : decode cL_law 864 = .ok (.aload_n 0, 1) := by decide +kernel
theorem dL_law_865 : decode cL_law 865 = .ok (.iload_n 3, 1) := by decide +kernel
theorem dL_law_866 : decode cL_law 866 = .ok (.iconst 2, 1) := by decide +kernel
theorem dL_law_867 : decode cL_law 867 = .ok (.iadd, 1) := by decide +kernel
theorem dL_law_868 : decode cL_law 868 = .ok (.iaload, 1) := by decide +kernel
theorem dL_law_869 : decode cL_law 869 = .ok (.i2l, 1) := by decide +kernel
theorem dL_law_870 : decode cL_law 870 = .ok (.ldc2_w 79, 3) := by decide +kernel
theorem dL_law_873 : decode cL_law 873 = .ok (.land, 1) := by decide +kernel
theorem dL_law_874 : decode cL_law 874 = .ok (.lor, 1) := by decide +kernel
theorem dL_law_875 : decode cL_law 875 = .ok (.invokevirtual 107, 3) := by decide +kernel
theorem dL_law_878 : decode cL_law 878 = .ok (.lcmp, 1) := by decide +kernel
theorem dL_law_879 : decode cL_law 879 = .ok (.ifCond .eq 74, 3) := by decide +kernel
theorem dL_law_882 : decode cL_law 882 = .ok (.iconst 0, 1) := by decide +kernel
theorem dL_law_883 : decode cL_law 883 = .ok (.ireturn, 1) := by decide +kernel
theorem dL_law_884 : decode cL_law 884 = .ok (.aload_n 1, 1) := by decide +kernel
theorem dL_law_885 : decode cL_law 885 = .ok (.aload_n 0, 1) := by decide +kernel
theorem dL_law_886 : decode cL_law 886 = .ok (.iload_n 3, 1) := by decide +kernel
theorem dL_law_887 : decode cL_law 887 = .ok (.iconst 1, 1) := by decide +kernel
theorem dL_law_888 : decode cL_law 888 = .ok (.iadd, 1) := by decide +kernel
theorem dL_law_889 : decode cL_law 889 = .ok (.iaload, 1) := by decide +kernel
theorem dL_law_890 : decode cL_law 890 = .ok (.invokevirtual 108, 3) := by decide +kernel
theorem dL_law_893 : decode cL_law 893 = .ok (.aload_n 2, 1) := by decide +kernel
theorem dL_law_894 : decode cL_law 894 = .ok (.aload_n 0, 1) := by decide +kernel
theorem dL_law_895 : decode cL_law 895 = .ok (.iload_n 3, 1) := by decide +kernel
theorem dL_law_896 : decode cL_law 896 = .ok (.iconst 1, 1) := by decide +kernel
theorem dL_law_897 : decode cL_law 897 = .ok (.iadd, 1) := by decide +kernel
theorem dL_law_898 : decode cL_law 898 = .ok (.iaload, 1) := by decide +kernel
theorem dL_law_899 : decode cL_law 899 = .ok (.invokevirtual 111, 3) := by decide +kernel
theorem dL_law_902 : decode cL_law 902 = .ok (.if_icmp .eq 51, 3) := by decide +kernel
theorem dL_law_905 : decode cL_law 905 = .ok (.iconst 0, 1) := by decide +kernel
theorem dL_law_906 : decode cL_law 906 = .ok (.ireturn, 1) := by decide +kernel
theorem dL_law_907 : decode cL_law 907 = .ok (.aload_n 1, 1) := by decide +kernel
theorem dL_law_908 : decode cL_law 908 = .ok (.aload_n 0, 1) := by decide +kernel
theorem dL_law_909 : decode cL_law 909 = .ok (.iload_n 3, 1) := by decide +kernel
theorem dL_law_910 : decode cL_law 910 = .ok (.iconst 1, 1) := by decide +kernel
theorem dL_law_911 : decode cL_law 911 = .ok (.iadd, 1) := by decide +kernel
theorem dL_law_912 : decode cL_law 912 = .ok (.iaload, 1) := by decide +kernel
theorem dL_law_913 : decode cL_law 913 = .ok (.invokevirtual 112, 3) := by decide +kernel
theorem dL_law_916 : decode cL_law 916 = .ok (.aload_n 2, 1) := by decide +kernel
theorem dL_law_917 : decode cL_law 917 = .ok (.aload_n 0, 1) := by decide +kernel
theorem dL_law_918 : decode cL_law 918 = .ok (.iload_n 3, 1) := by decide +kernel
theorem dL_law_919 : decode cL_law 919 = .ok (.iconst 1, 1) := by decide +kernel
theorem dL_law_920 : decode cL_law 920 = .ok (.iadd, 1) := by decide +kernel
theorem dL_law_921 : decode cL_law 921 = .ok (.iaload, 1) := by decide +kernel
theorem dL_law_922 : decode cL_law 922 = .ok (.invokevirtual 115, 3) := by decide +kernel
theorem dL_law_925 : decode cL_law 925 = .ok (.if_icmp .eq 28, 3) := by decide +kernel
theorem dL_law_928 : decode cL_law 928 = .ok (.iconst 0, 1) := by decide +kernel
theorem dL_law_929 : decode cL_law 929 = .ok (.ireturn, 1) := by decide +kernel
theorem dL_law_930 : decode cL_law 930 = .ok (.aload_n 1, 1) := by decide +kernel
theorem dL_law_931 : decode cL_law 931 = .ok (.aload_n 0, 1) := by decide +kernel
theorem dL_law_932 : decode cL_law 932 = .ok (.iload_n 3, 1) := by decide +kernel
theorem dL_law_933 : decode cL_law 933 = .ok (.iconst 1, 1) := by decide +kernel
theorem dL_law_934 : decode cL_law 934 = .ok (.iadd, 1) := by decide +kernel
theorem dL_law_935 : decode cL_law 935 = .ok (.iaload, 1) := by decide +kernel
theorem dL_law_936 : decode cL_law 936 = .ok (.invokevirtual 116, 3) := by decide +kernel
theorem dL_law_939 : decode cL_law 939 = .ok (.aload_n 2, 1) := by decide +kernel
theorem dL_law_940 : decode cL_law 940 = .ok (.aload_n 0, 1) := by decide +kernel
theorem dL_law_941 : decode cL_law 941 = .ok (.iload_n 3, 1) := by decide +kernel
theorem dL_law_942 : decode cL_law 942 = .ok (.iconst 1, 1) := by decide +kernel
theorem dL_law_943 : decode cL_law 943 = .ok (.iadd, 1) := by decide +kernel
theorem dL_law_944 : decode cL_law 944 = .ok (.iaload, 1) := by decide +kernel
theorem dL_law_945 : decode cL_law 945 = .ok (.invokevirtual 119, 3) := by decide +kernel
theorem dL_law_948 : decode cL_law 948 = .ok (.if_icmp .eq 5, 3) := by decide +kernel
theorem dL_law_951 : decode cL_law 951 = .ok (.iconst 0, 1) := by decide +kernel
theorem dL_law_952 : decode cL_law 952 = .ok (.ireturn, 1) := by decide +kernel
theorem dL_law_953 : decode cL_law 953 = .ok (.iinc 3 6, 3) := by decide +kernel
theorem dL_law_956 : decode cL_law 956 = .ok (.goto (-938), 3) := by decide +kernel
theorem dL_law_959 : decode cL_law 959 = .ok (.iconst 1, 1) := by decide +kernel
theorem dL_law_960 : decode cL_law 960 = .ok (.ireturn, 1) := by decide +kernel
