theorem dX5_odds_125 : decode cX5_odds 125 = .ok (.ifCond .ne 6, 3) := by decide +kernel
theorem dX5_odds_128 : decode cX5_odds 128 = .ok (.bipush (-9), 2) := by decide +kernel
theorem dX5_odds_130 : decode cX5_odds 130 = .ok (.ireturn, 1) := by decide +kernel
theorem dX5_odds_131 : decode cX5_odds 131 = .ok (.iload 5, 2) := by decide +kernel
theorem dX5_odds_133 : decode cX5_odds 133 = .ok (.ifCond .eq 8, 3) := by decide +kernel
theorem dX5_odds_136 : decode cX5_odds 136 = .ok (.iload 6, 2) := by decide +kernel
theorem dX5_odds_138 : decode cX5_odds 138 = .ok (.goto 5, 3) := by decide +kernel
theorem dX5_odds_141 : decode cX5_odds 141 = .ok (.iload 7, 2) := by decide +kernel
theorem dX5_odds_143 : decode cX5_odds 143 = .ok (.iload 8, 2) := by decide +kernel
theorem dX5_odds_145 : decode cX5_odds 145 = .ok (.idiv, 1) := by decide +kernel
theorem dX5_odds_146 : decode cX5_odds 146 = .ok (.ireturn, 1) := by decide +kernel
theorem dX5_seed_0 : decode cX5_seed 0 = .ok (.aload_n 0, 1) := by decide +kernel
theorem dX5_seed_1 : decode cX5_seed 1 = .ok (.getfield 59, 3) := by decide +kernel
theorem dX5_seed_4 : decode cX5_seed 4 = .ok (.lstore_n 3, 1) := by decide +kernel
theorem dX5_seed_5 : decode cX5_seed 5 = .ok (.aload_n 0, 1) := by decide +kernel
theorem dX5_seed_6 : decode cX5_seed 6 = .ok (.lload_n 1, 1) := by decide +kernel
theorem dX5_seed_7 : decode cX5_seed 7 = .ok (.putfield 59, 3) := by decide +kernel
theorem dX5_seed_10 : decode cX5_seed 10 = .ok (.lload_n 3, 1) := by decide +kernel
theorem dX5_seed_11 : decode cX5_seed 11 = .ok (.lreturn, 1) := by decide +kernel
theorem dX5_runs_0 : decode cX5_runs 0 = .ok (.iload_n 1, 1) := by decide +kernel
theorem dX5_runs_1 : decode cX5_runs 1 = .ok (.iconst 1, 1) := by decide +kernel
theorem dX5_runs_2 : decode cX5_runs 2 = .ok (.if_icmp .lt 9, 3) := by decide +kernel
theorem dX5_runs_5 : decode cX5_runs 5 = .ok (.iload_n 1, 1) := by decide +kernel
theorem dX5_runs_6 : decode cX5_runs 6 = .ok (.bipush 30, 2) := by decide +kernel
theorem dX5_runs_8 : decode cX5_runs 8 = .ok (.if_icmp .le 6, 3) := by decide +kernel
theorem dX5_runs_11 : decode cX5_runs 11 = .ok (.bipush (-2), 2) := by decide +kernel
theorem dX5_runs_13 : decode cX5_runs 13 = .ok (.ireturn, 1) := by decide +kernel
theorem dX5_runs_14 : decode cX5_runs 14 = .ok (.aload_n 0, 1) := by decide +kernel
theorem dX5_runs_15 : decode cX5_runs 15 = .ok (.getfield 29, 3) := by decide +kernel
theorem dX5_runs_18 : decode cX5_runs 18 = .ok (.invokevirtual 144, 3) := by decide +kernel
theorem dX5_runs_21 : decode cX5_runs 21 = .ok (.ifCond .ne 6, 3) := by decide +kernel
theorem dX5_runs_24 : decode cX5_runs 24 = .ok (.bipush (-3), 2) := by decide +kernel
theorem dX5_runs_26 : decode cX5_runs 26 = .ok (.ireturn, 1) := by decide +kernel
theorem dX5_runs_27 : decode cX5_runs 27 = .ok (.iconst 0, 1) := by decide +kernel
theorem dX5_runs_28 : decode cX5_runs 28 = .ok (.istore_n 2, 1) := by decide +kernel
theorem dX5_runs_29 : decode cX5_runs 29 = .ok (.aload_n 0, 1) := by decide +kernel
theorem dX5_runs_30 : decode cX5_runs 30 = .ok (.getfield 23, 3) := by decide +kernel
theorem dX5_runs_33 : decode cX5_runs 33 = .ok (.aload_n 0, 1) := by decide +kernel
theorem dX5_runs_34 : decode cX5_runs 34 = .ok (.getfield 19, 3) := by decide +kernel
theorem dX5_runs_37 : decode cX5_runs 37 = .ok (.invokevirtual 75, 3) := by decide +kernel
theorem dX5_runs_40 : decode cX5_runs 40 = .ok (.iconst 0, 1) := by decide +kernel
theorem dX5_runs_41 : decode cX5_runs 41 = .ok (.istore_n 3, 1) := by decide +kernel
theorem dX5_runs_42 : decode cX5_runs 42 = .ok (.iload_n 3, 1) := by decide +kernel
theorem dX5_runs_43 : decode cX5_runs 43 = .ok (.iload_n 1, 1) := by decide +kernel
theorem dX5_runs_44 : decode cX5_runs 44 = .ok (.if_icmp .ge 69, 3) := by decide +kernel
theorem dX5_runs_47 : decode cX5_runs 47 = .ok (.aload_n 0, 1) := by decide +kernel
theorem dX5_runs_48 : decode cX5_runs 48 = .ok (.aload_n 0, 1) := by decide +kernel
theorem dX5_runs_49 : decode cX5_runs 49 = .ok (.getfield 59, 3) := by decide +kernel
theorem dX5_runs_52 : decode cX5_runs 52 = .ok (.ldc2_w 206, 3) := by decide +kernel
theorem dX5_runs_55 : decode cX5_runs 55 = .ok (.lmul, 1) := by decide +kernel
theorem dX5_runs_56 : decode cX5_runs 56 = .ok (.ldc2_w 208, 3) := by decide +kernel
theorem dX5_runs_59 : decode cX5_runs 59 = .ok (.ladd, 1) := by decide +kernel
theorem dX5_runs_60 : decode cX5_runs 60 = .ok (.putfield 59, 3) := by decide +kernel
theorem dX5_runs_63 : decode cX5_runs 63 = .ok (.aload_n 0, 1) := by decide +kernel
theorem dX5_runs_64 : decode cX5_runs 64 = .ok (.getfield 59, 3) := by decide +kernel
theorem dX5_runs_67 : decode cX5_runs 67 = .ok (.bipush 33, 2) := by decide +kernel
theorem dX5_runs_69 : decode cX5_runs 69 = .ok (.lushr, 1) := by decide +kernel
theorem dX5_runs_70 : decode cX5_runs 70 = .ok (.l2i, 1) := by decide +kernel
theorem dX5_runs_71 : decode cX5_runs 71 = .ok (.istore 4, 2) := by decide +kernel
theorem dX5_runs_73 : decode cX5_runs 73 = .ok (.aload_n 0, 1) := by decide +kernel
theorem dX5_runs_74 : decode cX5_runs 74 = .ok (.getfield 23, 3) := by decide +kernel
theorem dX5_runs_77 : decode cX5_runs 77 = .ok (.aload_n 0, 1) := by decide +kernel
theorem dX5_runs_78 : decode cX5_runs 78 = .ok (.getfield 29, 3) := by decide +kernel
theorem dX5_runs_81 : decode cX5_runs 81 = .ok (.iload 4, 2) := by decide +kernel
theorem dX5_runs_83 : decode cX5_runs 83 = .ok (.bipush 10, 2) := by decide +kernel
theorem dX5_runs_85 : decode cX5_runs 85 = .ok (.irem, 1) := by decide +kernel
theorem dX5_runs_86 : decode cX5_runs 86 = .ok (.iload 4, 2) := by decide +kernel
theorem dX5_runs_88 : decode cX5_runs 88 = .ok (.bipush 16, 2) := by decide +kernel
theorem dX5_runs_90 : decode cX5_runs 90 = .ok (.idiv, 1) := by decide +kernel
theorem dX5_runs_91 : decode cX5_runs 91 = .ok (.bipush 10, 2) := by decide +kernel
theorem dX5_runs_93 : decode cX5_runs 93 = .ok (.irem, 1) := by decide +kernel
theorem dX5_runs_94 : decode cX5_runs 94 = .ok (.invokevirtual 151, 3) := by decide +kernel
theorem dX5_runs_97 : decode cX5_runs 97 = .ok (.iload_n 2, 1) := by decide +kernel
theorem dX5_runs_98 : decode cX5_runs 98 = .ok (.aload_n 0, 1) := by decide +kernel
theorem dX5_runs_99 : decode cX5_runs 99 = .ok (.getfield 23, 3) := by decide +kernel
theorem dX5_runs_102 : decode cX5_runs 102 = .ok (.invokevirtual 210, 3) := by decide +kernel
theorem dX5_runs_105 : decode cX5_runs 105 = .ok (.iadd, 1) := by decide +kernel
theorem dX5_runs_106 : decode cX5_runs 106 = .ok (.istore_n 2, 1) := by decide +kernel
theorem dX5_runs_107 : decode cX5_runs 107 = .ok (.iinc 3 1, 3) := by decide +kernel
theorem dX5_runs_110 : decode cX5_runs 110 = .ok (.goto (-68), 3) := by decide +kernel
theorem dX5_runs_113 : decode cX5_runs 113 = .ok (.iload_n 2, 1) := by decide +kernel
theorem dX5_runs_114 : decode cX5_runs 114 = .ok (.ireturn, 1) := by decide +kernel
theorem dX5_keep_0 : decode cX5_keep 0 = .ok (.iload_n 1, 1) := by decide +kernel
theorem dX5_keep_1 : decode cX5_keep 1 = .ok (.ifCond .lt 8, 3) := by decide +kernel
theorem dX5_keep_4 : decode cX5_keep 4 = .ok (.iload_n 1, 1) := by decide +kernel
theorem dX5_keep_5 : decode cX5_keep 5 = .ok (.iconst 2, 1) := by decide +kernel
theorem dX5_keep_6 : decode cX5_keep 6 = .ok (.if_icmp .lt 5, 3) := by decide +kernel
theorem dX5_keep_9 : decode cX5_keep 9 = .ok (.iconst (-1), 1) := by decide +kernel
theorem dX5_keep_10 : decode cX5_keep 10 = .ok (.ireturn, 1) := by decide +kernel
theorem dX5_keep_11 : decode cX5_keep 11 = .ok (.aload_n 0, 1) := by decide +kernel
theorem dX5_keep_12 : decode cX5_keep 12 = .ok (.getfield 19, 3) := by decide +kernel
theorem dX5_keep_15 : decode cX5_keep 15 = .ok (.aload_n 0, 1) := by decide +kernel
theorem dX5_keep_16 : decode cX5_keep 16 = .ok (.getfield 47, 3) := by decide +kernel
theorem dX5_keep_19 : decode cX5_keep 19 = .ok (.iload_n 1, 1) := by decide +kernel
theorem dX5_keep_20 : decode cX5_keep 20 = .ok (.aaload, 1) := by decide +kernel
theorem dX5_keep_21 : decode cX5_keep 21 = .ok (.invokestatic 213, 3) := by decide +kernel
theorem dX5_keep_24 : decode cX5_keep 24 = .ok (.aload_n 0, 1) := by decide +kernel
theorem dX5_keep_25 : decode cX5_keep 25 = .ok (.getfield 51, 3) := by decide +kernel
theorem dX5_keep_28 : decode cX5_keep 28 = .ok (.iload_n 1, 1) := by decide +kernel
theorem dX5_keep_29 : decode cX5_keep 29 = .ok (.iconst 1, 1) := by decide +kernel
theorem dX5_keep_30 : decode cX5_keep 30 = .ok (.bastore, 1) := by decide +kernel
theorem dX5_keep_31 : decode cX5_keep 31 = .ok (.aload_n 0, 1) := by decide +kernel
theorem dX5_keep_32 : decode cX5_keep 32 = .ok (.getfield 19, 3) := by decide +kernel
theorem dX5_keep_35 : decode cX5_keep 35 = .ok (.getfield 104, 3) := by decide +kernel
theorem dX5_keep_38 : decode cX5_keep 38 = .ok (.ireturn, 1) := by decide +kernel
theorem dX5_again_0 : decode cX5_again 0 = .ok (.iload_n 1, 1) := by decide +kernel
theorem dX5_again_1 : decode cX5_again 1 = .ok (.ifCond .lt 8, 3) := by decide +kernel
theorem dX5_again_4 : decode cX5_again 4 = .ok (.iload_n 1, 1) := by decide +kernel
theorem dX5_again_5 : decode cX5_again 5 = .ok (.iconst 2, 1) := by decide +kernel
theorem dX5_again_6 : decode cX5_again 6 = .ok (.if_icmp .lt 5, 3) := by decide +kernel
theorem dX5_again_9 : decode cX5_again 9 = .ok (.iconst (-1), 1) := by decide +kernel
theorem dX5_again_10 : decode cX5_again 10 = .ok (.ireturn, 1) := by decide +kernel
theorem dX5_again_11 : decode cX5_again 11 = .ok (.aload_n 0, 1) := by decide +kernel
theorem dX5_again_12 : decode cX5_again 12 = .ok (.getfield 51, 3) := by decide +kernel
theorem dX5_again_15 : decode cX5_again 15 = .ok (.iload_n 1, 1) := by decide +kernel
theorem dX5_again_16 : decode cX5_again 16 = .ok (.baload, 1) := by decide +kernel
theorem dX5_again_17 : decode cX5_again 17 = .ok (.ifCond .ne 6, 3) := by decide +kernel
theorem dX5_again_20 : decode cX5_again 20 = .ok (.bipush (-3), 2) := by decide +kernel
theorem dX5_again_22 : decode cX5_again 22 = .ok (.ireturn, 1) := by decide +kernel
theorem dX5_again_23 : decode cX5_again 23 = .ok (.aload_n 0, 1) := by decide +kernel
theorem dX5_again_24 : decode cX5_again 24 = .ok (.getfield 47, 3) := by decide +kernel
theorem dX5_again_27 : decode cX5_again 27 = .ok (.iload_n 1, 1) := by decide +kernel
theorem dX5_again_28 : decode cX5_again 28 = .ok (.aaload, 1) := by decide +kernel
theorem dX5_again_29 : decode cX5_again 29 = .ok (.aload_n 0, 1) := by decide +kernel
theorem dX5_again_30 : decode cX5_again 30 = .ok (.getfield 19, 3) := by decide +kernel
theorem dX5_again_33 : decode cX5_again 33 = .ok (.invokestatic 213, 3) := by decide +kernel
theorem dX5_again_36 : decode cX5_again 36 = .ok (.aload_n 0, 1) := by decide +kernel
theorem dX5_again_37 : decode cX5_again 37 = .ok (.getfield 36, 3) := by decide +kernel
theorem dX5_again_40 : decode cX5_again 40 = .ok (.invokevirtual 82, 3) := by decide +kernel
theorem dX5_again_43 : decode cX5_again 43 = .ok (.aload_n 0, 1) := by decide +kernel
theorem dX5_again_44 : decode cX5_again 44 = .ok (.getfield 29, 3) := by decide +kernel
theorem dX5_again_47 : decode cX5_again 47 = .ok (.aload_n 0, 1) := by decide +kernel
theorem dX5_again_48 : decode cX5_again 48 = .ok (.getfield 19, 3) := by decide +kernel
theorem dX5_again_51 : decode cX5_again 51 = .ok (.invokevirtual 85, 3) := by decide +kernel
theorem dX5_again_54 : decode cX5_again 54 = .ok (.aload_n 0, 1) := by decide +kernel
theorem dX5_again_55 : decode cX5_again 55 = .ok (.getfield 19, 3) := by decide +kernel
theorem dX5_again_58 : decode cX5_again 58 = .ok (.getfield 104, 3) := by decide +kernel
theorem dX5_again_61 : decode cX5_again 61 = .ok (.ireturn, 1) := by decide +kernel
theorem dX5_isStream_0 : decode cX5_isStream 0 = .ok (.iload_n 1, 1) := by decide +kernel
theorem dX5_isStream_1 : decode cX5_isStream 1 = .ok (.ifCond .lt 24, 3) := by decide +kernel
theorem dX5_isStream_4 : decode cX5_isStream 4 = .ok (.iload_n 1, 1) := by decide +kernel
theorem dX5_isStream_5 : decode cX5_isStream 5 = .ok (.aload_n 0, 1) := by decide +kernel
theorem dX5_isStream_6 : decode cX5_isStream 6 = .ok (.getfield 19, 3) := by decide +kernel
theorem dX5_isStream_9 : decode cX5_isStream 9 = .ok (.getfield 92, 3) := by decide +kernel
theorem dX5_isStream_12 : decode cX5_isStream 12 = .ok (.if_icmp .ge 13, 3) := by decide +kernel
theorem dX5_isStream_15 : decode cX5_isStream 15 = .ok (.iload_n 1, 1) := by decide +kernel
theorem dX5_isStream_16 : decode cX5_isStream 16 = .ok (.bipush 8, 2) := by decide +kernel
theorem dX5_isStream_18 : decode cX5_isStream 18 = .ok (.if_icmp .ge 7, 3) := by decide +kernel
theorem dX5_isStream_21 : decode cX5_isStream 21 = .ok (.iconst 1, 1) := by decide +kernel
theorem dX5_isStream_22 : decode cX5_isStream 22 = .ok (.goto 4, 3) := by decide +kernel
theorem dX5_isStream_25 : decode cX5_isStream 25 = .ok (.iconst 0, 1) := by decide +kernel
theorem dX5_isStream_26 : decode cX5_isStream 26 = .ok (.ireturn, 1) := by decide +kernel
theorem dX5_soundness_0 : decode cX5_soundness 0 = .ok (.aload_n 0, 1) := by decide +kernel
theorem dX5_soundness_1 : decode cX5_soundness 1 = .ok (.getfield 29, 3) := by decide +kernel
theorem dX5_soundness_4 : decode cX5_soundness 4 = .ok (.invokevirtual 144, 3) := by decide +kernel
theorem dX5_soundness_7 : decode cX5_soundness 7 = .ok (.ifCond .eq 7, 3) := by decide +kernel
theorem dX5_soundness_10 : decode cX5_soundness 10 = .ok (.iconst 1, 1) := by decide +kernel
theorem dX5_soundness_11 : decode cX5_soundness 11 = .ok (.goto 4, 3) := by decide +kernel
theorem dX5_soundness_14 : decode cX5_soundness 14 = .ok (.iconst 0, 1) := by decide +kernel
theorem dX5_soundness_15 : decode cX5_soundness 15 = .ok (.ireturn, 1) := by decide +kernel
theorem dX5_isEquation_0 : decode cX5_isEquation 0 = .ok (.iload_n 1, 1) := by decide +kernel
theorem dX5_isEquation_1 : decode cX5_isEquation 1 = .ok (.ifCond .lt 9, 3) := by decide +kernel
theorem dX5_isEquation_4 : decode cX5_isEquation 4 = .ok (.iload_n 1, 1) := by decide +kernel
theorem dX5_isEquation_5 : decode cX5_isEquation 5 = .ok (.bipush 11, 2) := by decide +kernel
theorem dX5_isEquation_7 : decode cX5_isEquation 7 = .ok (.if_icmp .le 5, 3) := by decide +kernel
theorem dX5_isEquation_10 : decode cX5_isEquation 10 = .ok (.iconst 0, 1) := by decide +kernel
theorem dX5_isEquation_11 : decode cX5_isEquation 11 = .ok (.ireturn, 1) := by decide +kernel
theorem dX5_isEquation_12 : decode cX5_isEquation 12 = .ok (.iload_n 1, 1) := by decide +kernel
theorem dX5_isEquation_13 : decode cX5_isEquation 13 = .ok (.iconst 0, 1) := by decide +kernel
theorem dX5_isEquation_14 : decode cX5_isEquation 14 = .ok (.iload_n 2, 1) := by decide +kernel
theorem dX5_isEquation_15 : decode cX5_isEquation 15 = .ok (.aload_n 0, 1) := by decide +kernel
theorem dX5_isEquation_16 : decode cX5_isEquation 16 = .ok (.getfield 19, 3) := by decide +kernel
theorem dX5_isEquation_19 : decode cX5_isEquation 19 = .ok (.getfield 92, 3) := by decide +kernel
theorem dX5_isEquation_22 : decode cX5_isEquation 22 = .ok (.invokestatic 217, 3) := by decide +kernel
theorem dX5_isEquation_25 : decode cX5_isEquation 25 = .ok (.ifCond .eq 40, 3) := by decide +kernel
theorem dX5_isEquation_28 : decode cX5_isEquation 28 = .ok (.iload_n 1, 1) := by decide +kernel
theorem dX5_isEquation_29 : decode cX5_isEquation 29 = .ok (.iconst 1, 1) := by decide +kernel
theorem dX5_isEquation_30 : decode cX5_isEquation 30 = .ok (.iload_n 3, 1) := by decide +kernel
theorem dX5_isEquation_31 : decode cX5_isEquation 31 = .ok (.aload_n 0, 1) := by decide +kernel
theorem dX5_isEquation_32 : decode cX5_isEquation 32 = .ok (.getfield 19, 3) := by decide +kernel
theorem dX5_isEquation_35 : decode cX5_isEquation 35 = .ok (.getfield 92, 3) := by decide +kernel
theorem dX5_isEquation_38 : decode cX5_isEquation 38 = .ok (.invokestatic 217, 3) := by decide +kernel
theorem dX5_isEquation_41 : decode cX5_isEquation 41 = .ok (.ifCond .eq 24, 3) := by decide +kernel
theorem dX5_isEquation_44 : decode cX5_isEquation 44 = .ok (.iload_n 1, 1) := by decide +kernel
theorem dX5_isEquation_45 : decode cX5_isEquation 45 = .ok (.iconst 2, 1) := by decide +kernel
theorem dX5_isEquation_46 : decode cX5_isEquation 46 = .ok (.iload 4, 2) := by decide +kernel
theorem dX5_isEquation_48 : decode cX5_isEquation 48 = .ok (.aload_n 0, 1) := by decide +kernel
theorem dX5_isEquation_49 : decode cX5_isEquation 49 = .ok (.getfield 19, 3) := by decide +kernel
theorem dX5_isEquation_52 : decode cX5_isEquation 52 = .ok (.getfield 92, 3) := by decide +kernel
theorem dX5_isEquation_55 : decode cX5_isEquation 55 = .ok (.invokestatic 217, 3) := by decide +kernel
theorem dX5_isEquation_58 : decode cX5_isEquation 58 = .ok (.ifCond .eq 7, 3) := by decide +kernel
theorem dX5_isEquation_61 : decode cX5_isEquation 61 = .ok (.iconst 1, 1) := by decide +kernel
theorem dX5_isEquation_62 : decode cX5_isEquation 62 = .ok (.goto 4, 3) := by decide +kernel
theorem dX5_isEquation_65 : decode cX5_isEquation 65 = .ok (.iconst 0, 1) := by decide +kernel
theorem dX5_isEquation_66 : decode cX5_isEquation 66 = .ok (.ireturn, 1) := by decide +kernel
theorem dX5_layTrail_0 : decode cX5_layTrail 0 = .ok (.aload_n 0, 1) := by decide +kernel
theorem dX5_layTrail_1 : decode cX5_layTrail 1 = .ok (.getfield 23, 3) := by decide +kernel
theorem dX5_layTrail_4 : decode cX5_layTrail 4 = .ok (.aload_n 0, 1) := by decide +kernel
theorem dX5_layTrail_5 : decode cX5_layTrail 5 = .ok (.getfield 19, 3) := by decide +kernel
theorem dX5_layTrail_8 : decode cX5_layTrail 8 = .ok (.invokevirtual 75, 3) := by decide +kernel
theorem dX5_layTrail_11 : decode cX5_layTrail 11 = .ok (.iconst 0, 1) := by decide +kernel
theorem dX5_layTrail_12 : decode cX5_layTrail 12 = .ok (.istore_n 3, 1) := by decide +kernel
theorem dX5_layTrail_13 : decode cX5_layTrail 13 = .ok (.iload_n 3, 1) := by decide +kernel
theorem dX5_layTrail_14 : decode cX5_layTrail 14 = .ok (.bipush 40, 2) := by decide +kernel
theorem dX5_layTrail_16 : decode cX5_layTrail 16 = .ok (.if_icmp .gt 43, 3) := by decide +kernel
theorem dX5_layTrail_19 : decode cX5_layTrail 19 = .ok (.aload_n 0, 1) := by decide +kernel
theorem dX5_layTrail_20 : decode cX5_layTrail 20 = .ok (.getfield 23, 3) := by decide +kernel
theorem dX5_layTrail_23 : decode cX5_layTrail 23 = .ok (.getfield 220, 3) := by decide +kernel
theorem dX5_layTrail_26 : decode cX5_layTrail 26 = .ok (.iconst 0, 1) := by decide +kernel
theorem dX5_layTrail_27 : decode cX5_layTrail 27 = .ok (.aload_n 0, 1) := by decide +kernel
theorem dX5_layTrail_28 : decode cX5_layTrail 28 = .ok (.getfield 55, 3) := by decide +kernel
theorem dX5_layTrail_31 : decode cX5_layTrail 31 = .ok (.iload_n 3, 1) := by decide +kernel
theorem dX5_layTrail_32 : decode cX5_layTrail 32 = .ok (.bipush 8, 2) := by decide +kernel
theorem dX5_layTrail_34 : decode cX5_layTrail 34 = .ok (.imul, 1) := by decide +kernel
theorem dX5_layTrail_35 : decode cX5_layTrail 35 = .ok (.bipush 8, 2) := by decide +kernel
theorem dX5_layTrail_37 : decode cX5_layTrail 37 = .ok (.invokestatic 223, 3) := by decide +kernel
theorem dX5_layTrail_40 : decode cX5_layTrail 40 = .ok (.aload_n 0, 1) := by decide +kernel
theorem dX5_layTrail_41 : decode cX5_layTrail 41 = .ok (.getfield 23, 3) := by decide +kernel
theorem dX5_layTrail_44 : decode cX5_layTrail 44 = .ok (.aload_n 0, 1) := by decide +kernel
theorem dX5_layTrail_45 : decode cX5_layTrail 45 = .ok (.getfield 29, 3) := by decide +kernel
theorem dX5_layTrail_48 : decode cX5_layTrail 48 = .ok (.iload_n 1, 1) := by decide +kernel
theorem dX5_layTrail_49 : decode cX5_layTrail 49 = .ok (.iload_n 2, 1) := by decide +kernel
theorem dX5_layTrail_50 : decode cX5_layTrail 50 = .ok (.invokevirtual 151, 3) := by decide +kernel
theorem dX5_layTrail_53 : decode cX5_layTrail 53 = .ok (.iinc 3 1, 3) := by decide +kernel
theorem dX5_layTrail_56 : decode cX5_layTrail 56 = .ok (.goto (-43), 3) := by decide +kernel
theorem dX5_layTrail_59 : decode cX5_layTrail 59 = .ok (.return_, 1) := by decide +kernel
theorem dX5_sameOnTrail_0 : decode cX5_sameOnTrail 0 = .ok (.iconst 0, 1) := by decide +kernel
theorem dX5_sameOnTrail_1 : decode cX5_sameOnTrail 1 = .ok (.istore_n 3, 1) := by decide +kernel
theorem dX5_sameOnTrail_2 : decode cX5_sameOnTrail 2 = .ok (.iload_n 3, 1) := by decide +kernel
theorem dX5_sameOnTrail_3 : decode cX5_sameOnTrail 3 = .ok (.bipush 8, 2) := by decide +kernel
theorem dX5_sameOnTrail_5 : decode cX5_sameOnTrail 5 = .ok (.if_icmp .ge 36, 3) := by decide +kernel
theorem dX5_sameOnTrail_8 : decode cX5_sameOnTrail 8 = .ok (.aload_n 0, 1) := by decide +kernel
theorem dX5_sameOnTrail_9 : decode cX5_sameOnTrail 9 = .ok (.getfield 55, 3) := by decide +kernel
theorem dX5_sameOnTrail_12 : decode cX5_sameOnTrail 12 = .ok (.iload_n 1, 1) := by decide +kernel
theorem dX5_sameOnTrail_13 : decode cX5_sameOnTrail 13 = .ok (.bipush 8, 2) := by decide +kernel
theorem dX5_sameOnTrail_15 : decode cX5_sameOnTrail 15 = .ok (.imul, 1) := by decide +kernel
theorem dX5_sameOnTrail_16 : decode cX5_sameOnTrail 16 = .ok (.iload_n 3, 1) := by decide +kernel
theorem dX5_sameOnTrail_17 : decode cX5_sameOnTrail 17 = .ok (.iadd, 1) := by decide +kernel
theorem dX5_sameOnTrail_18 : decode cX5_sameOnTrail 18 = .ok (.iaload, 1) := by decide +kernel
theorem dX5_sameOnTrail_19 : decode cX5_sameOnTrail 19 = .ok (.aload_n 0, 1) := by decide +kernel
theorem dX5_sameOnTrail_20 : decode cX5_sameOnTrail 20 = .ok (.getfield 55, 3) := by decide +kernel
theorem dX5_sameOnTrail_23 : decode cX5_sameOnTrail 23 = .ok (.iload_n 2, 1) := by decide +kernel
theorem dX5_sameOnTrail_24 : decode cX5_sameOnTrail 24 = .ok (.bipush 8, 2) := by decide +kernel
theorem dX5_sameOnTrail_26 : decode cX5_sameOnTrail 26 = .ok (.imul, 1) := by decide +kernel
theorem dX5_sameOnTrail_27 : decode cX5_sameOnTrail 27 = .ok (.iload_n 3, 1) := by decide +kernel
theorem dX5_sameOnTrail_28 : decode cX5_sameOnTrail 28 = .ok (.iadd, 1) := by decide +kernel
theorem dX5_sameOnTrail_29 : decode cX5_sameOnTrail 29 = .ok (.iaload, 1) := by decide +kernel
theorem dX5_sameOnTrail_30 : decode cX5_sameOnTrail 30 = .ok (.if_icmp .eq 5, 3) := by decide +kernel
theorem dX5_sameOnTrail_33 : decode cX5_sameOnTrail 33 = .ok (.iconst 0, 1) := by decide +kernel
theorem dX5_sameOnTrail_34 : decode cX5_sameOnTrail 34 = .ok (.ireturn, 1) := by decide +kernel
theorem dX5_sameOnTrail_35 : decode cX5_sameOnTrail 35 = .ok (.iinc 3 1, 3) := by decide +kernel
theorem dX5_sameOnTrail_38 : decode cX5_sameOnTrail 38 = .ok (.goto (-36), 3) := by decide +kernel
theorem dX5_sameOnTrail_41 : decode cX5_sameOnTrail 41 = .ok (.iconst 1, 1) := by decide +kernel
theorem dX5_sameOnTrail_42 : decode cX5_sameOnTrail 42 = .ok (.ireturn, 1) := by decide +kernel
theorem dX5_holds_0 : decode cX5_holds 0 = .ok (.iload_n 1, 1) := by decide +kernel
theorem dX5_holds_1 : decode cX5_holds 1 = .ok (.sipush 1000, 3) := by decide +kernel
theorem dX5_holds_4 : decode cX5_holds 4 = .ok (.idiv, 1) := by decide +kernel
theorem dX5_holds_5 : decode cX5_holds 5 = .ok (.bipush 10, 2) := by decide +kernel
theorem dX5_holds_7 : decode cX5_holds 7 = .ok (.irem, 1) := by decide +kernel
theorem dX5_holds_8 : decode cX5_holds 8 = .ok (.istore_n 2, 1) := by decide +kernel
theorem dX5_holds_9 : decode cX5_holds 9 = .ok (.iload_n 1, 1) := by decide +kernel
theorem dX5_holds_10 : decode cX5_holds 10 = .ok (.bipush 100, 2) := by decide +kernel
theorem dX5_holds_12 : decode cX5_holds 12 = .ok (.idiv, 1) := by decide +kernel
theorem dX5_holds_13 : decode cX5_holds 13 = .ok (.bipush 10, 2) := by decide +kernel
theorem dX5_holds_15 : decode cX5_holds 15 = .ok (.irem, 1) := by decide +kernel
theorem dX5_holds_16 : decode cX5_holds 16 = .ok (.istore_n 3, 1) := by decide +kernel
theorem dX5_holds_17 : decode cX5_holds 17 = .ok (.iload_n 1, 1) := by decide +kernel
theorem dX5_holds_18 : decode cX5_holds 18 = .ok (.bipush 100, 2) := by decide +kernel
theorem dX5_holds_20 : decode cX5_holds 20 = .ok (.irem, 1) := by decide +kernel
theorem dX5_holds_21 : decode cX5_holds 21 = .ok (.istore 4, 2) := by decide +kernel
theorem dX5_holds_23 : decode cX5_holds 23 = .ok (.iload_n 1, 1) := by decide +kernel
theorem dX5_holds_24 : decode cX5_holds 24 = .ok (.sipush 10000, 3) := by decide +kernel
theorem dX5_holds_27 : decode cX5_holds 27 = .ok (.idiv, 1) := by decide +kernel
theorem dX5_holds_28 : decode cX5_holds 28 = .ok (.tableswitch 229 1 6 #[40, 62, 82, 113, 149, 181], 40) := by decide +kernel
theorem dX5_holds_68 : decode cX5_holds 68 = .ok (.aload_n 0, 1) := by decide +kernel
theorem dX5_holds_69 : decode cX5_holds 69 = .ok (.getfield 23, 3) := by decide +kernel
theorem dX5_holds_72 : decode cX5_holds 72 = .ok (.aload_n 0, 1) := by decide +kernel
theorem dX5_holds_73 : decode cX5_holds 73 = .ok (.getfield 29, 3) := by decide +kernel
theorem dX5_holds_76 : decode cX5_holds 76 = .ok (.iload_n 1, 1) := by decide +kernel
theorem dX5_holds_77 : decode cX5_holds 77 = .ok (.bipush 100, 2) := by decide +kernel
theorem dX5_holds_79 : decode cX5_holds 79 = .ok (.idiv, 1) := by decide +kernel
theorem dX5_holds_80 : decode cX5_holds 80 = .ok (.bipush 100, 2) := by decide +kernel
theorem dX5_holds_82 : decode cX5_holds 82 = .ok (.irem, 1) := by decide +kernel
theorem dX5_holds_83 : decode cX5_holds 83 = .ok (.iload 4, 2) := by decide +kernel
theorem dX5_holds_85 : decode cX5_holds 85 = .ok (.invokevirtual 151, 3) := by decide +kernel
theorem dX5_holds_88 : decode cX5_holds 88 = .ok (.iconst 1, 1) := by decide +kernel
theorem dX5_holds_89 : decode cX5_holds 89 = .ok (.ireturn, 1) := by decide +kernel
theorem dX5_holds_90 : decode cX5_holds 90 = .ok (.aload_n 0, 1) := by decide +kernel
theorem dX5_holds_91 : decode cX5_holds 91 = .ok (.getfield 23, 3) := by decide +kernel
theorem dX5_holds_94 : decode cX5_holds 94 = .ok (.invokevirtual 79, 3) := by decide +kernel
theorem dX5_holds_97 : decode cX5_holds 97 = .ok (.iload_n 1, 1) := by decide +kernel
theorem dX5_holds_98 : decode cX5_holds 98 = .ok (.sipush 20000, 3) := by decide +kernel
theorem dX5_holds_101 : decode cX5_holds 101 = .ok (.if_icmp .ne 7, 3) := by decide +kernel
theorem dX5_holds_104 : decode cX5_holds 104 = .ok (.iconst 1, 1) := by decide +kernel
theorem dX5_holds_105 : decode cX5_holds 105 = .ok (.goto 4, 3) := by decide +kernel
theorem dX5_holds_108 : decode cX5_holds 108 = .ok (.iconst 0, 1) := by decide +kernel
theorem dX5_holds_109 : decode cX5_holds 109 = .ok (.ireturn, 1) := by decide +kernel
theorem dX5_holds_110 : decode cX5_holds 110 = .ok (.aload_n 0, 1) := by decide +kernel
theorem dX5_holds_111 : decode cX5_holds 111 = .ok (.iload_n 2, 1) := by decide +kernel
theorem dX5_holds_112 : decode cX5_holds 112 = .ok (.invokevirtual 112, 3) := by decide +kernel
theorem dX5_holds_115 : decode cX5_holds 115 = .ok (.ifCond .eq 24, 3) := by decide +kernel
theorem dX5_holds_118 : decode cX5_holds 118 = .ok (.iload_n 3, 1) := by decide +kernel
theorem dX5_holds_119 : decode cX5_holds 119 = .ok (.ifCond .ne 20, 3) := by decide +kernel
theorem dX5_holds_122 : decode cX5_holds 122 = .ok (.aload_n 0, 1) := by decide +kernel
theorem dX5_holds_123 : decode cX5_holds 123 = .ok (.getfield 23, 3) := by decide +kernel
theorem dX5_holds_126 : decode cX5_holds 126 = .ok (.iload_n 2, 1) := by decide +kernel
theorem dX5_holds_127 : decode cX5_holds 127 = .ok (.invokevirtual 128, 3) := by decide +kernel
theorem dX5_holds_130 : decode cX5_holds 130 = .ok (.iload 4, 2) := by decide +kernel
theorem dX5_holds_132 : decode cX5_holds 132 = .ok (.if_icmp .ne 7, 3) := by decide +kernel
theorem dX5_holds_135 : decode cX5_holds 135 = .ok (.iconst 1, 1) := by decide +kernel
theorem dX5_holds_136 : decode cX5_holds 136 = .ok (.goto 4, 3) := by decide +kernel
theorem dX5_holds_139 : decode cX5_holds 139 = .ok (.iconst 0, 1) := by decide +kernel
theorem dX5_holds_140 : decode cX5_holds 140 = .ok (.ireturn, 1) := by decide +kernel
theorem dX5_holds_141 : decode cX5_holds 141 = .ok (.aload_n 0, 1) := by decide +kernel
theorem dX5_holds_142 : decode cX5_holds 142 = .ok (.iload_n 2, 1) := by decide +kernel
theorem dX5_holds_143 : decode cX5_holds 143 = .ok (.invokevirtual 112, 3) := by decide +kernel
theorem dX5_holds_146 : decode cX5_holds 146 = .ok (.ifCond .eq 29, 3) := by decide +kernel
theorem dX5_holds_149 : decode cX5_holds 149 = .ok (.iload_n 3, 1) := by decide +kernel
theorem dX5_holds_150 : decode cX5_holds 150 = .ok (.ifCond .ne 25, 3) := by decide +kernel
theorem dX5_holds_153 : decode cX5_holds 153 = .ok (.iload 4, 2) := by decide +kernel
theorem dX5_holds_155 : decode cX5_holds 155 = .ok (.ifCond .ne 20, 3) := by decide +kernel
theorem dX5_holds_158 : decode cX5_holds 158 = .ok (.aload_n 0, 1) := by decide +kernel
theorem dX5_holds_159 : decode cX5_holds 159 = .ok (.getfield 23, 3) := by decide +kernel
theorem dX5_holds_162 : decode cX5_holds 162 = .ok (.iload_n 2, 1) := by decide +kernel
theorem dX5_holds_163 : decode cX5_holds 163 = .ok (.invokevirtual 128, 3) := by decide +kernel
theorem dX5_holds_166 : decode cX5_holds 166 = .ok (.bipush (-9), 2) := by decide +kernel
theorem dX5_holds_168 : decode cX5_holds 168 = .ok (.if_icmp .ne 7, 3) := by decide +kernel
theorem dX5_holds_171 : decode cX5_holds 171 = .ok (.iconst 1, 1) := by decide +kernel
theorem dX5_holds_172 : decode cX5_holds 172 = .ok (.goto 4, 3) := by decide +kernel
theorem dX5_holds_175 : decode cX5_holds 175 = .ok (.iconst 0, 1) := by decide +kernel
theorem dX5_holds_176 : decode cX5_holds 176 = .ok (.ireturn, 1) := by decide +kernel
theorem dX5_holds_177 : decode cX5_holds 177 = .ok (.aload_n 0, 1) := by decide +kernel
theorem dX5_holds_178 : decode cX5_holds 178 = .ok (.iload_n 2, 1) := by decide +kernel
theorem dX5_holds_179 : decode cX5_holds 179 = .ok (.invokevirtual 112, 3) := by decide +kernel
theorem dX5_holds_182 : decode cX5_holds 182 = .ok (.ifCond .eq 25, 3) := by decide +kernel
theorem dX5_holds_185 : decode cX5_holds 185 = .ok (.iload 4, 2) := by decide +kernel
theorem dX5_holds_187 : decode cX5_holds 187 = .ok (.ifCond .ne 20, 3) := by decide +kernel
theorem dX5_holds_190 : decode cX5_holds 190 = .ok (.aload_n 0, 1) := by decide +kernel
theorem dX5_holds_191 : decode cX5_holds 191 = .ok (.getfield 29, 3) := by decide +kernel
theorem dX5_holds_194 : decode cX5_holds 194 = .ok (.getfield 119, 3) := by decide +kernel
theorem dX5_holds_197 : decode cX5_holds 197 = .ok (.iload_n 2, 1) := by decide +kernel
theorem dX5_holds_198 : decode cX5_holds 198 = .ok (.iaload, 1) := by decide +kernel
theorem dX5_holds_199 : decode cX5_holds 199 = .ok (.iload_n 3, 1) := by decide +kernel
theorem dX5_holds_200 : decode cX5_holds 200 = .ok (.if_icmp .ne 7, 3) := by decide +kernel
theorem dX5_holds_203 : decode cX5_holds 203 = .ok (.iconst 1, 1) := by decide +kernel
theorem dX5_holds_204 : decode cX5_holds 204 = .ok (.goto 4, 3) := by decide +kernel
theorem dX5_holds_207 : decode cX5_holds 207 = .ok (.iconst 0, 1) := by decide +kernel
theorem dX5_holds_208 : decode cX5_holds 208 = .ok (.ireturn, 1) := by decide +kernel
theorem dX5_holds_209 : decode cX5_holds 209 = .ok (.aload_n 0, 1) := by decide +kernel
theorem dX5_holds_210 : decode cX5_holds 210 = .ok (.iload_n 2, 1) := by decide +kernel
theorem dX5_holds_211 : decode cX5_holds 211 = .ok (.invokevirtual 112, 3) := by decide +kernel
theorem dX5_holds_214 : decode cX5_holds 214 = .ok (.ifCond .eq 41, 3) := by decide +kernel
theorem dX5_holds_217 : decode cX5_holds 217 = .ok (.aload_n 0, 1) := by decide +kernel
theorem dX5_holds_218 : decode cX5_holds 218 = .ok (.iload_n 3, 1) := by decide +kernel
theorem dX5_holds_219 : decode cX5_holds 219 = .ok (.invokevirtual 112, 3) := by decide +kernel
theorem dX5_holds_222 : decode cX5_holds 222 = .ok (.ifCond .eq 33, 3) := by decide +kernel
theorem dX5_holds_225 : decode cX5_holds 225 = .ok (.iload 4, 2) := by decide +kernel
theorem dX5_holds_227 : decode cX5_holds 227 = .ok (.ifCond .ne 28, 3) := by decide +kernel
theorem dX5_holds_230 : decode cX5_holds 230 = .ok (.aload_n 0, 1) := by decide +kernel
theorem dX5_holds_231 : decode cX5_holds 231 = .ok (.getfield 29, 3) := by decide +kernel
theorem dX5_holds_234 : decode cX5_holds 234 = .ok (.getfield 229, 3) := by decide +kernel
theorem dX5_holds_237 : decode cX5_holds 237 = .ok (.iload_n 2, 1) := by decide +kernel
theorem dX5_holds_238 : decode cX5_holds 238 = .ok (.iaload, 1) := by decide +kernel
theorem dX5_holds_239 : decode cX5_holds 239 = .ok (.aload_n 0, 1) := by decide +kernel
theorem dX5_holds_240 : decode cX5_holds 240 = .ok (.getfield 29, 3) := by decide +kernel
theorem dX5_holds_243 : decode cX5_holds 243 = .ok (.getfield 229, 3) := by decide +kernel
theorem dX5_holds_246 : decode cX5_holds 246 = .ok (.iload_n 3, 1) := by decide +kernel
theorem dX5_holds_247 : decode cX5_holds 247 = .ok (.iaload, 1) := by decide +kernel
theorem dX5_holds_248 : decode cX5_holds 248 = .ok (.if_icmp .ne 7, 3) := by decide +kernel
theorem dX5_holds_251 : decode cX5_holds 251 = .ok (.iconst 1, 1) := by decide +kernel
theorem dX5_holds_252 : decode cX5_holds 252 = .ok (.goto 4, 3) := by decide +kernel
theorem dX5_holds_255 : decode cX5_holds 255 = .ok (.iconst 0, 1) := by decide +kernel
theorem dX5_holds_256 : decode cX5_holds 256 = .ok (.ireturn, 1) := by decide +kernel
theorem dX5_holds_257 : decode cX5_holds 257 = .ok (.iconst 0, 1) := by decide +kernel
theorem dX5_holds_258 : decode cX5_holds 258 = .ok (.ireturn, 1) := by decide +kernel
theorem dX5_explains_0 : decode cX5_explains 0 = .ok (.aload_n 0, 1) := by decide +kernel
theorem dX5_explains_1 : decode cX5_explains 1 = .ok (.getfield 23, 3) := by decide +kernel
theorem dX5_explains_4 : decode cX5_explains 4 = .ok (.aload_n 0, 1) := by decide +kernel
theorem dX5_explains_5 : decode cX5_explains 5 = .ok (.getfield 19, 3) := by decide +kernel
theorem dX5_explains_8 : decode cX5_explains 8 = .ok (.invokevirtual 75, 3) := by decide +kernel
theorem dX5_explains_11 : decode cX5_explains 11 = .ok (.aload_n 0, 1) := by decide +kernel
theorem dX5_explains_12 : decode cX5_explains 12 = .ok (.getfield 23, 3) := by decide +kernel
theorem dX5_explains_15 : decode cX5_explains 15 = .ok (.invokevirtual 79, 3) := by decide +kernel
theorem dX5_explains_18 : decode cX5_explains 18 = .ok (.aload_n 0, 1) := by decide +kernel
theorem dX5_explains_19 : decode cX5_explains 19 = .ok (.getfield 43, 3) := by decide +kernel
theorem dX5_explains_22 : decode cX5_explains 22 = .ok (.invokevirtual 232, 3) := by decide +kernel
theorem dX5_explains_25 : decode cX5_explains 25 = .ok (.istore_n 3, 1) := by decide +kernel
theorem dX5_explains_26 : decode cX5_explains 26 = .ok (.iconst 1, 1) := by decide +kernel
theorem dX5_explains_27 : decode cX5_explains 27 = .ok (.istore 4, 2) := by decide +kernel
theorem dX5_explains_29 : decode cX5_explains 29 = .ok (.iload 4, 2) := by decide +kernel
theorem dX5_explains_31 : decode cX5_explains 31 = .ok (.iload_n 3, 1) := by decide +kernel
theorem dX5_explains_32 : decode cX5_explains 32 = .ok (.if_icmp .gt 40, 3) := by decide +kernel
theorem dX5_explains_35 : decode cX5_explains 35 = .ok (.aload_n 0, 1) := by decide +kernel
theorem dX5_explains_36 : decode cX5_explains 36 = .ok (.getfield 23, 3) := by decide +kernel
theorem dX5_explains_39 : decode cX5_explains 39 = .ok (.aload_n 0, 1) := by decide +kernel
theorem dX5_explains_40 : decode cX5_explains 40 = .ok (.getfield 29, 3) := by decide +kernel
theorem dX5_explains_43 : decode cX5_explains 43 = .ok (.iload_n 1, 1) := by decide +kernel
theorem dX5_explains_44 : decode cX5_explains 44 = .ok (.iload_n 2, 1) := by decide +kernel
theorem dX5_explains_45 : decode cX5_explains 45 = .ok (.invokevirtual 151, 3) := by decide +kernel
theorem dX5_explains_48 : decode cX5_explains 48 = .ok (.aload_n 0, 1) := by decide +kernel
theorem dX5_explains_49 : decode cX5_explains 49 = .ok (.getfield 43, 3) := by decide +kernel
theorem dX5_explains_52 : decode cX5_explains 52 = .ok (.iload 4, 2) := by decide +kernel
theorem dX5_explains_54 : decode cX5_explains 54 = .ok (.aload_n 0, 1) := by decide +kernel
theorem dX5_explains_55 : decode cX5_explains 55 = .ok (.getfield 23, 3) := by decide +kernel
theorem dX5_explains_58 : decode cX5_explains 58 = .ok (.invokevirtual 235, 3) := by decide +kernel
theorem dX5_explains_61 : decode cX5_explains 61 = .ok (.ifCond .ne 5, 3) := by decide +kernel
theorem dX5_explains_64 : decode cX5_explains 64 = .ok (.iconst 0, 1) := by decide +kernel
theorem dX5_explains_65 : decode cX5_explains 65 = .ok (.ireturn, 1) := by decide +kernel
theorem dX5_explains_66 : decode cX5_explains 66 = .ok (.iinc 4 1, 3) := by decide +kernel
theorem dX5_explains_69 : decode cX5_explains 69 = .ok (.goto (-40), 3) := by decide +kernel
theorem dX5_explains_72 : decode cX5_explains 72 = .ok (.iconst 1, 1) := by decide +kernel
theorem dX5_explains_73 : decode cX5_explains 73 = .ok (.ireturn, 1) := by decide +kernel
theorem dX5_timesThere_0 : decode cX5_timesThere 0 = .ok (.iconst 0, 1) := by decide +kernel
theorem dX5_timesThere_1 : decode cX5_timesThere 1 = .ok (.istore 4, 2) := by decide +kernel
theorem dX5_timesThere_3 : decode cX5_timesThere 3 = .ok (.aload_n 0, 1) := by decide +kernel
theorem dX5_timesThere_4 : decode cX5_timesThere 4 = .ok (.getfield 23, 3) := by decide +kernel
theorem dX5_timesThere_7 : decode cX5_timesThere 7 = .ok (.aload_n 0, 1) := by decide +kernel
theorem dX5_timesThere_8 : decode cX5_timesThere 8 = .ok (.getfield 19, 3) := by decide +kernel
theorem dX5_timesThere_11 : decode cX5_timesThere 11 = .ok (.invokevirtual 75, 3) := by decide +kernel
theorem dX5_timesThere_14 : decode cX5_timesThere 14 = .ok (.iconst 0, 1) := by decide +kernel
theorem dX5_timesThere_15 : decode cX5_timesThere 15 = .ok (.istore 5, 2) := by decide +kernel
theorem dX5_timesThere_17 : decode cX5_timesThere 17 = .ok (.iload 5, 2) := by decide +kernel
theorem dX5_timesThere_19 : decode cX5_timesThere 19 = .ok (.iload_n 2, 1) := by decide +kernel
theorem dX5_timesThere_20 : decode cX5_timesThere 20 = .ok (.if_icmp .ge 43, 3) := by decide +kernel
theorem dX5_timesThere_23 : decode cX5_timesThere 23 = .ok (.aload_n 0, 1) := by decide +kernel
theorem dX5_timesThere_24 : decode cX5_timesThere 24 = .ok (.getfield 23, 3) := by decide +kernel
theorem dX5_timesThere_27 : decode cX5_timesThere 27 = .ok (.aload_n 0, 1) := by decide +kernel
theorem dX5_timesThere_28 : decode cX5_timesThere 28 = .ok (.getfield 29, 3) := by decide +kernel
theorem dX5_timesThere_31 : decode cX5_timesThere 31 = .ok (.iload_n 3, 1) := by decide +kernel
theorem dX5_timesThere_32 : decode cX5_timesThere 32 = .ok (.iload 5, 2) := by decide +kernel
theorem dX5_timesThere_34 : decode cX5_timesThere 34 = .ok (.ishr, 1) := by decide +kernel
theorem dX5_timesThere_35 : decode cX5_timesThere 35 = .ok (.iconst 1, 1) := by decide +kernel
theorem dX5_timesThere_36 : decode cX5_timesThere 36 = .ok (.iand, 1) := by decide +kernel
theorem dX5_timesThere_37 : decode cX5_timesThere 37 = .ok (.iconst 0, 1) := by decide +kernel
theorem dX5_timesThere_38 : decode cX5_timesThere 38 = .ok (.invokevirtual 151, 3) := by decide +kernel
theorem dX5_timesThere_41 : decode cX5_timesThere 41 = .ok (.aload_n 0, 1) := by decide +kernel
theorem dX5_timesThere_42 : decode cX5_timesThere 42 = .ok (.getfield 23, 3) := by decide +kernel
theorem dX5_timesThere_45 : decode cX5_timesThere 45 = .ok (.iload_n 1, 1) := by decide +kernel
theorem dX5_timesThere_46 : decode cX5_timesThere 46 = .ok (.invokevirtual 128, 3) := by decide +kernel
theorem dX5_timesThere_49 : decode cX5_timesThere 49 = .ok (.bipush (-9), 2) := by decide +kernel
theorem dX5_timesThere_51 : decode cX5_timesThere 51 = .ok (.if_icmp .eq 6, 3) := by decide +kernel
theorem dX5_timesThere_54 : decode cX5_timesThere 54 = .ok (.iinc 4 1, 3) := by decide +kernel
theorem dX5_timesThere_57 : decode cX5_timesThere 57 = .ok (.iinc 5 1, 3) := by decide +kernel
theorem dX5_timesThere_60 : decode cX5_timesThere 60 = .ok (.goto (-43), 3) := by decide +kernel
theorem dX5_timesThere_63 : decode cX5_timesThere 63 = .ok (.iload 4, 2) := by decide +kernel
theorem dX5_timesThere_65 : decode cX5_timesThere 65 = .ok (.ireturn, 1) := by decide +kernel
theorem dX5_weight_0 : decode cX5_weight 0 = .ok (.iconst 1, 1) := by decide +kernel
theorem dX5_weight_1 : decode cX5_weight 1 = .ok (.istore_n 3, 1) := by decide +kernel
theorem dX5_weight_2 : decode cX5_weight 2 = .ok (.iconst 0, 1) := by decide +kernel
theorem dX5_weight_3 : decode cX5_weight 3 = .ok (.istore 4, 2) := by decide +kernel
theorem dX5_weight_5 : decode cX5_weight 5 = .ok (.iload 4, 2) := by decide +kernel
theorem dX5_weight_7 : decode cX5_weight 7 = .ok (.iload_n 0, 1) := by decide +kernel
theorem dX5_weight_8 : decode cX5_weight 8 = .ok (.if_icmp .ge 30, 3) := by decide +kernel
theorem dX5_weight_11 : decode cX5_weight 11 = .ok (.iload_n 3, 1) := by decide +kernel
theorem dX5_weight_12 : decode cX5_weight 12 = .ok (.iload_n 1, 1) := by decide +kernel
theorem dX5_weight_13 : decode cX5_weight 13 = .ok (.iload 4, 2) := by decide +kernel
theorem dX5_weight_15 : decode cX5_weight 15 = .ok (.ishr, 1) := by decide +kernel
theorem dX5_weight_16 : decode cX5_weight 16 = .ok (.iconst 1, 1) := by decide +kernel
theorem dX5_weight_17 : decode cX5_weight 17 = .ok (.iand, 1) := by decide +kernel
theorem dX5_weight_18 : decode cX5_weight 18 = .ok (.iconst 1, 1) := by decide +kernel
theorem dX5_weight_19 : decode cX5_weight 19 = .ok (.if_icmp .ne 7, 3) := by decide +kernel
theorem dX5_weight_22 : decode cX5_weight 22 = .ok (.iload_n 2, 1) := by decide +kernel
theorem dX5_weight_23 : decode cX5_weight 23 = .ok (.goto 7, 3) := by decide +kernel
theorem dX5_weight_26 : decode cX5_weight 26 = .ok (.bipush 10, 2) := by decide +kernel
theorem dX5_weight_28 : decode cX5_weight 28 = .ok (.iload_n 2, 1) := by decide +kernel
theorem dX5_weight_29 : decode cX5_weight 29 = .ok (.isub, 1) := by decide +kernel
theorem dX5_weight_30 : decode cX5_weight 30 = .ok (.imul, 1) := by decide +kernel
theorem dX5_weight_31 : decode cX5_weight 31 = .ok (.istore_n 3, 1) := by decide +kernel
theorem dX5_weight_32 : decode cX5_weight 32 = .ok (.iinc 4 1, 3) := by decide +kernel
theorem dX5_weight_35 : decode cX5_weight 35 = .ok (.goto (-30), 3) := by decide +kernel
theorem dX5_weight_38 : decode cX5_weight 38 = .ok (.iload_n 3, 1) := by decide +kernel
theorem dX5_weight_39 : decode cX5_weight 39 = .ok (.ireturn, 1) := by decide +kernel
theorem dX5_commonDivisor_0 : decode cX5_commonDivisor 0 = .ok (.iload_n 0, 1) := by decide +kernel
theorem dX5_commonDivisor_1 : decode cX5_commonDivisor 1 = .ok (.istore_n 2, 1) := by decide +kernel
theorem dX5_commonDivisor_2 : decode cX5_commonDivisor 2 = .ok (.iload_n 1, 1) := by decide +kernel
theorem dX5_commonDivisor_3 : decode cX5_commonDivisor 3 = .ok (.istore_n 3, 1) := by decide +kernel
theorem dX5_commonDivisor_4 : decode cX5_commonDivisor 4 = .ok (.iconst 0, 1) := by decide +kernel
theorem dX5_commonDivisor_5 : decode cX5_commonDivisor 5 = .ok (.istore 4, 2) := by decide +kernel
theorem dX5_commonDivisor_7 : decode cX5_commonDivisor 7 = .ok (.iload 4, 2) := by decide +kernel
theorem dX5_commonDivisor_9 : decode cX5_commonDivisor 9 = .ok (.bipush 64, 2) := by decide +kernel
theorem dX5_commonDivisor_11 : decode cX5_commonDivisor 11 = .ok (.if_icmp .ge 23, 3) := by decide +kernel
theorem dX5_commonDivisor_14 : decode cX5_commonDivisor 14 = .ok (.iload_n 3, 1) := by decide +kernel
theorem dX5_commonDivisor_15 : decode cX5_commonDivisor 15 = .ok (.ifCond .eq 19, 3) := by decide +kernel
theorem dX5_commonDivisor_18 : decode cX5_commonDivisor 18 = .ok (.iload_n 2, 1) := by decide +kernel
theorem dX5_commonDivisor_19 : decode cX5_commonDivisor 19 = .ok (.iload_n 3, 1) := by decide +kernel
theorem dX5_commonDivisor_20 : decode cX5_commonDivisor 20 = .ok (.irem, 1) := by decide +kernel
theorem dX5_commonDivisor_21 : decode cX5_commonDivisor 21 = .ok (.istore 5, 2) := by decide +kernel
theorem dX5_commonDivisor_23 : decode cX5_commonDivisor 23 = .ok (.iload_n 3, 1) := by decide +kernel
theorem dX5_commonDivisor_24 : decode cX5_commonDivisor 24 = .ok (.istore_n 2, 1) := by decide +kernel
theorem dX5_commonDivisor_25 : decode cX5_commonDivisor 25 = .ok (.iload 5, 2) := by decide +kernel
theorem dX5_commonDivisor_27 : decode cX5_commonDivisor 27 = .ok (.istore_n 3, 1) := by decide +kernel
theorem dX5_commonDivisor_28 : decode cX5_commonDivisor 28 = .ok (.iinc 4 1, 3) := by decide +kernel
theorem dX5_commonDivisor_31 : decode cX5_commonDivisor 31 = .ok (.goto (-24), 3) := by decide +kernel
theorem dX5_commonDivisor_34 : decode cX5_commonDivisor 34 = .ok (.iload_n 2, 1) := by decide +kernel
theorem dX5_commonDivisor_35 : decode cX5_commonDivisor 35 = .ok (.ireturn, 1) := by decide +kernel
theorem dX5_power_0 : decode cX5_power 0 = .ok (.lconst 1, 1) := by decide +kernel
theorem dX5_power_1 : decode cX5_power 1 = .ok (.lstore_n 3, 1) := by decide +kernel
theorem dX5_power_2 : decode cX5_power 2 = .ok (.iconst 0, 1) := by decide +kernel
theorem dX5_power_3 : decode cX5_power 3 = .ok (.istore 5, 2) := by decide +kernel
theorem dX5_power_5 : decode cX5_power 5 = .ok (.iload 5, 2) := by decide +kernel
theorem dX5_power_7 : decode cX5_power 7 = .ok (.iload_n 2, 1) := by decide +kernel
theorem dX5_power_8 : decode cX5_power 8 = .ok (.if_icmp .ge 13, 3) := by decide +kernel
theorem dX5_power_11 : decode cX5_power 11 = .ok (.lload_n 3, 1) := by decide +kernel
theorem dX5_power_12 : decode cX5_power 12 = .ok (.lload_n 0, 1) := by decide +kernel
theorem dX5_power_13 : decode cX5_power 13 = .ok (.lmul, 1) := by decide +kernel
theorem dX5_power_14 : decode cX5_power 14 = .ok (.lstore_n 3, 1) := by decide +kernel
theorem dX5_power_15 : decode cX5_power 15 = .ok (.iinc 5 1, 3) := by decide +kernel
theorem dX5_power_18 : decode cX5_power 18 = .ok (.goto (-13), 3) := by decide +kernel
theorem dX5_power_21 : decode cX5_power 21 = .ok (.lload_n 3, 1) := by decide +kernel
theorem dX5_power_22 : decode cX5_power 22 = .ok (.lreturn, 1) := by decide +kernel
theorem dX5_carry_0 : decode cX5_carry 0 = .ok (.aload_n 0, 1) := by decide +kernel
theorem dX5_carry_1 : decode cX5_carry 1 = .ok (.ifnull 12, 3) := by decide +kernel
theorem dX5_carry_4 : decode cX5_carry 4 = .ok (.aload_n 1, 1) := by decide +kernel
theorem dX5_carry_5 : decode cX5_carry 5 = .ok (.ifnull 8, 3) := by decide +kernel
theorem dX5_carry_8 : decode cX5_carry 8 = .ok (.aload_n 1, 1) := by decide +kernel
theorem dX5_carry_9 : decode cX5_carry 9 = .ok (.aload_n 0, 1) := by decide +kernel
theorem dX5_carry_10 : decode cX5_carry 10 = .ok (.invokevirtual 75, 3) := by decide +kernel
theorem dX5_carry_13 : decode cX5_carry 13 = .ok (.return_, 1) := by decide +kernel
theorem dX5_streamOf_0 : decode cX5_streamOf 0 = .ok (.iload_n 0, 1) := by decide +kernel
theorem dX5_streamOf_1 : decode cX5_streamOf 1 = .ok (.bipush 10, 2) := by decide +kernel
theorem dX5_streamOf_3 : decode cX5_streamOf 3 = .ok (.idiv, 1) := by decide +kernel
theorem dX5_streamOf_4 : decode cX5_streamOf 4 = .ok (.istore_n 1, 1) := by decide +kernel
theorem dX5_streamOf_5 : decode cX5_streamOf 5 = .ok (.iload_n 1, 1) := by decide +kernel
theorem dX5_streamOf_6 : decode cX5_streamOf 6 = .ok (.ifCond .lt 9, 3) := by decide +kernel
theorem dX5_streamOf_9 : decode cX5_streamOf 9 = .ok (.iload_n 1, 1) := by decide +kernel
theorem dX5_streamOf_10 : decode cX5_streamOf 10 = .ok (.bipush 8, 2) := by decide +kernel
theorem dX5_streamOf_12 : decode cX5_streamOf 12 = .ok (.if_icmp .lt 7, 3) := by decide +kernel
theorem dX5_streamOf_15 : decode cX5_streamOf 15 = .ok (.iconst 0, 1) := by decide +kernel
theorem dX5_streamOf_16 : decode cX5_streamOf 16 = .ok (.goto 4, 3) := by decide +kernel
theorem dX5_streamOf_19 : decode cX5_streamOf 19 = .ok (.iload_n 1, 1) := by decide +kernel
theorem dX5_streamOf_20 : decode cX5_streamOf 20 = .ok (.ireturn, 1) := by decide +kernel
theorem dX5_isValue_0 : decode cX5_isValue 0 = .ok (.iload_n 0, 1) := by decide +kernel
theorem dX5_isValue_1 : decode cX5_isValue 1 = .ok (.ifCond .lt 13, 3) := by decide +kernel
theorem dX5_isValue_4 : decode cX5_isValue 4 = .ok (.iload_n 0, 1) := by decide +kernel
theorem dX5_isValue_5 : decode cX5_isValue 5 = .ok (.bipush 99, 2) := by decide +kernel
theorem dX5_isValue_7 : decode cX5_isValue 7 = .ok (.if_icmp .gt 7, 3) := by decide +kernel
theorem dX5_isValue_10 : decode cX5_isValue 10 = .ok (.iconst 1, 1) := by decide +kernel
theorem dX5_isValue_11 : decode cX5_isValue 11 = .ok (.goto 4, 3) := by decide +kernel
theorem dX5_isValue_14 : decode cX5_isValue 14 = .ok (.iconst 0, 1) := by decide +kernel
theorem dX5_isValue_15 : decode cX5_isValue 15 = .ok (.ireturn, 1) := by decide +kernel
theorem dX5_figuresOf_0 : decode cX5_figuresOf 0 = .ok (.iload_n 0, 1) := by decide +kernel
theorem dX5_figuresOf_1 : decode cX5_figuresOf 1 = .ok (.ifCond .lt 9, 3) := by decide +kernel
theorem dX5_figuresOf_4 : decode cX5_figuresOf 4 = .ok (.iload_n 0, 1) := by decide +kernel
theorem dX5_figuresOf_5 : decode cX5_figuresOf 5 = .ok (.bipush 11, 2) := by decide +kernel
theorem dX5_figuresOf_7 : decode cX5_figuresOf 7 = .ok (.if_icmp .le 7, 3) := by decide +kernel
theorem dX5_figuresOf_10 : decode cX5_figuresOf 10 = .ok (.iconst 0, 1) := by decide +kernel
theorem dX5_figuresOf_11 : decode cX5_figuresOf 11 = .ok (.goto 8, 3) := by decide +kernel
theorem dX5_figuresOf_14 : decode cX5_figuresOf 14 = .ok (.getstatic 239, 3) := by decide +kernel
theorem dX5_figuresOf_17 : decode cX5_figuresOf 17 = .ok (.iload_n 0, 1) := by decide +kernel
theorem dX5_figuresOf_18 : decode cX5_figuresOf 18 = .ok (.iaload, 1) := by decide +kernel
theorem dX5_figuresOf_19 : decode cX5_figuresOf 19 = .ok (.ireturn, 1) := by decide +kernel
theorem dX5_namesStream_0 : decode cX5_namesStream 0 = .ok (.iload_n 0, 1) := by decide +kernel
theorem dX5_namesStream_1 : decode cX5_namesStream 1 = .ok (.ifCond .eq 18, 3) := by decide +kernel
theorem dX5_namesStream_4 : decode cX5_namesStream 4 = .ok (.iload_n 0, 1) := by decide +kernel
theorem dX5_namesStream_5 : decode cX5_namesStream 5 = .ok (.iconst 1, 1) := by decide +kernel
theorem dX5_namesStream_6 : decode cX5_namesStream 6 = .ok (.if_icmp .eq 13, 3) := by decide +kernel
theorem dX5_namesStream_9 : decode cX5_namesStream 9 = .ok (.iload_n 0, 1) := by decide +kernel
theorem dX5_namesStream_10 : decode cX5_namesStream 10 = .ok (.bipush 6, 2) := by decide +kernel
theorem dX5_namesStream_12 : decode cX5_namesStream 12 = .ok (.if_icmp .ne 9, 3) := by decide +kernel
theorem dX5_namesStream_15 : decode cX5_namesStream 15 = .ok (.iload_n 1, 1) := by decide +kernel
theorem dX5_namesStream_16 : decode cX5_namesStream 16 = .ok (.ifCond .ne 5, 3) := by decide +kernel
theorem dX5_namesStream_19 : decode cX5_namesStream 19 = .ok (.iconst 0, 1) := by decide +kernel
theorem dX5_namesStream_20 : decode cX5_namesStream 20 = .ok (.ireturn, 1) := by decide +kernel
theorem dX5_namesStream_21 : decode cX5_namesStream 21 = .ok (.iload_n 1, 1) := by decide +kernel
theorem dX5_namesStream_22 : decode cX5_namesStream 22 = .ok (.iload_n 0, 1) := by decide +kernel
theorem dX5_namesStream_23 : decode cX5_namesStream 23 = .ok (.invokestatic 131, 3) := by decide +kernel
theorem dX5_namesStream_26 : decode cX5_namesStream 26 = .ok (.if_icmp .ge 7, 3) := by decide +kernel
theorem dX5_namesStream_29 : decode cX5_namesStream 29 = .ok (.iconst 1, 1) := by decide +kernel
theorem dX5_namesStream_30 : decode cX5_namesStream 30 = .ok (.goto 4, 3) := by decide +kernel
theorem dX5_namesStream_33 : decode cX5_namesStream 33 = .ok (.iconst 0, 1) := by decide +kernel
theorem dX5_namesStream_34 : decode cX5_namesStream 34 = .ok (.ireturn, 1) := by decide +kernel
theorem dX5_isFigure_0 : decode cX5_isFigure 0 = .ok (.bipush 10, 2) := by decide +kernel
theorem dX5_isFigure_2 : decode cX5_isFigure 2 = .ok (.istore 4, 2) := by decide +kernel
theorem dX5_isFigure_4 : decode cX5_isFigure 4 = .ok (.iload_n 1, 1) := by decide +kernel
theorem dX5_isFigure_5 : decode cX5_isFigure 5 = .ok (.iload_n 0, 1) := by decide +kernel
theorem dX5_isFigure_6 : decode cX5_isFigure 6 = .ok (.invokestatic 131, 3) := by decide +kernel
theorem dX5_isFigure_9 : decode cX5_isFigure 9 = .ok (.if_icmp .lt 9, 3) := by decide +kernel
theorem dX5_isFigure_12 : decode cX5_isFigure 12 = .ok (.iconst 1, 1) := by decide +kernel
theorem dX5_isFigure_13 : decode cX5_isFigure 13 = .ok (.istore 4, 2) := by decide +kernel
theorem dX5_isFigure_15 : decode cX5_isFigure 15 = .ok (.goto 24, 3) := by decide +kernel
theorem dX5_isFigure_18 : decode cX5_isFigure 18 = .ok (.iload_n 0, 1) := by decide +kernel
theorem dX5_isFigure_19 : decode cX5_isFigure 19 = .ok (.ifCond .ne 9, 3) := by decide +kernel
theorem dX5_isFigure_22 : decode cX5_isFigure 22 = .ok (.iconst 2, 1) := by decide +kernel
theorem dX5_isFigure_23 : decode cX5_isFigure 23 = .ok (.istore 4, 2) := by decide +kernel
theorem dX5_isFigure_25 : decode cX5_isFigure 25 = .ok (.goto 14, 3) := by decide +kernel
theorem dX5_isFigure_28 : decode cX5_isFigure 28 = .ok (.iload_n 0, 1) := by decide +kernel
theorem dX5_isFigure_29 : decode cX5_isFigure 29 = .ok (.iload_n 1, 1) := by decide +kernel
theorem dX5_isFigure_30 : decode cX5_isFigure 30 = .ok (.invokestatic 242, 3) := by decide +kernel
theorem dX5_isFigure_33 : decode cX5_isFigure 33 = .ok (.ifCond .eq 6, 3) := by decide +kernel
theorem dX5_isFigure_36 : decode cX5_isFigure 36 = .ok (.iload_n 3, 1) := by decide +kernel
theorem dX5_isFigure_37 : decode cX5_isFigure 37 = .ok (.istore 4, 2) := by decide +kernel
theorem dX5_isFigure_39 : decode cX5_isFigure 39 = .ok (.iload_n 2, 1) := by decide +kernel
theorem dX5_isFigure_40 : decode cX5_isFigure 40 = .ok (.ifCond .lt 13, 3) := by decide +kernel
theorem dX5_isFigure_43 : decode cX5_isFigure 43 = .ok (.iload_n 2, 1) := by decide +kernel
theorem dX5_isFigure_44 : decode cX5_isFigure 44 = .ok (.iload 4, 2) := by decide +kernel
theorem dX5_isFigure_46 : decode cX5_isFigure 46 = .ok (.if_icmp .ge 7, 3) := by decide +kernel
theorem dX5_isFigure_49 : decode cX5_isFigure 49 = .ok (.iconst 1, 1) := by decide +kernel
theorem dX5_isFigure_50 : decode cX5_isFigure 50 = .ok (.goto 4, 3) := by decide +kernel
theorem dX5_isFigure_53 : decode cX5_isFigure 53 = .ok (.iconst 0, 1) := by decide +kernel
theorem dX5_isFigure_54 : decode cX5_isFigure 54 = .ok (.ireturn, 1) := by decide +kernel
theorem dX6_init_0 : decode cX6_init 0 = .ok (.aload_n 0, 1) := by decide +kernel
theorem dX6_init_1 : decode cX6_init 1 = .ok (.invokespecial 1, 3) := by decide +kernel
theorem dX6_init_4 : decode cX6_init 4 = .ok (.aload_n 0, 1) := by decide +kernel
theorem dX6_init_5 : decode cX6_init 5 = .ok (.bipush 40, 2) := by decide +kernel
theorem dX6_init_7 : decode cX6_init 7 = .ok (.newarray .int, 2) := by decide +kernel
theorem dX6_init_9 : decode cX6_init 9 = .ok (.putfield 7, 3) := by decide +kernel
theorem dX6_init_12 : decode cX6_init 12 = .ok (.aload_n 0, 1) := by decide +kernel
theorem dX6_init_13 : decode cX6_init 13 = .ok (.bipush 50, 2) := by decide +kernel
theorem dX6_init_15 : decode cX6_init 15 = .ok (.newarray .int, 2) := by decide +kernel
theorem dX6_init_17 : decode cX6_init 17 = .ok (.putfield 13, 3) := by decide +kernel
theorem dX6_init_20 : decode cX6_init 20 = .ok (.aload_n 0, 1) := by decide +kernel
theorem dX6_init_21 : decode cX6_init 21 = .ok (.bipush 50, 2) := by decide +kernel
theorem dX6_init_23 : decode cX6_init 23 = .ok (.newarray .int, 2) := by decide +kernel
theorem dX6_init_25 : decode cX6_init 25 = .ok (.putfield 16, 3) := by decide +kernel
theorem dX6_init_28 : decode cX6_init 28 = .ok (.aload_n 0, 1) := by decide +kernel
theorem dX6_init_29 : decode cX6_init 29 = .ok (.bipush 50, 2) := by decide +kernel
theorem dX6_init_31 : decode cX6_init 31 = .ok (.newarray .int, 2) := by decide +kernel
theorem dX6_init_33 : decode cX6_init 33 = .ok (.putfield 19, 3) := by decide +kernel
theorem dX6_init_36 : decode cX6_init 36 = .ok (.aload_n 0, 1) := by decide +kernel
theorem dX6_init_37 : decode cX6_init 37 = .ok (.sipush 700, 3) := by decide +kernel
theorem dX6_init_40 : decode cX6_init 40 = .ok (.newarray .int, 2) := by decide +kernel
theorem dX6_init_42 : decode cX6_init 42 = .ok (.putfield 22, 3) := by decide +kernel
theorem dX6_init_45 : decode cX6_init 45 = .ok (.aload_n 0, 1) := by decide +kernel
theorem dX6_init_46 : decode cX6_init 46 = .ok (.bipush 100, 2) := by decide +kernel
theorem dX6_init_48 : decode cX6_init 48 = .ok (.newarray .int, 2) := by decide +kernel
theorem dX6_init_50 : decode cX6_init 50 = .ok (.putfield 25, 3) := by decide +kernel
theorem dX6_init_53 : decode cX6_init 53 = .ok (.aload_n 0, 1) := by decide +kernel
theorem dX6_init_54 : decode cX6_init 54 = .ok (.iconst 2, 1) := by decide +kernel
theorem dX6_init_55 : decode cX6_init 55 = .ok (.newarray .boolean, 2) := by decide +kernel
theorem dX6_init_57 : decode cX6_init 57 = .ok (.putfield 28, 3) := by decide +kernel
theorem dX6_init_60 : decode cX6_init 60 = .ok (.aload_n 0, 1) := by decide +kernel
theorem dX6_init_61 : decode cX6_init 61 = .ok (.bipush 6, 2) := by decide +kernel
theorem dX6_init_63 : decode cX6_init 63 = .ok (.newarray .int, 2) := by decide +kernel
theorem dX6_init_65 : decode cX6_init 65 = .ok (.putfield 32, 3) := by decide +kernel
theorem dX6_init_68 : decode cX6_init 68 = .ok (.aload_n 0, 1) := by decide +kernel
theorem dX6_init_69 : decode cX6_init 69 = .ok (.bipush 6, 2) := by decide +kernel
theorem dX6_init_71 : decode cX6_init 71 = .ok (.newarray .int, 2) := by decide +kernel
theorem dX6_init_73 : decode cX6_init 73 = .ok (.putfield 35, 3) := by decide +kernel
theorem dX6_init_76 : decode cX6_init 76 = .ok (.aload_n 0, 1) := by decide +kernel
theorem dX6_init_77 : decode cX6_init 77 = .ok (.bipush 6, 2) := by decide +kernel
theorem dX6_init_79 : decode cX6_init 79 = .ok (.newarray .int, 2) := by decide +kernel
theorem dX6_init_81 : decode cX6_init 81 = .ok (.putfield 38, 3) := by decide +kernel
theorem dX6_init_84 : decode cX6_init 84 = .ok (.aload_n 0, 1) := by decide +kernel
theorem dX6_init_85 : decode cX6_init 85 = .ok (.bipush 6, 2) := by decide +kernel
theorem dX6_init_87 : decode cX6_init 87 = .ok (.newarray .int, 2) := by decide +kernel
theorem dX6_init_89 : decode cX6_init 89 = .ok (.putfield 41, 3) := by decide +kernel
theorem dX6_init_92 : decode cX6_init 92 = .ok (.aload_n 0, 1) := by decide +kernel
theorem dX6_init_93 : decode cX6_init 93 = .ok (.bipush 8, 2) := by decide +kernel
theorem dX6_init_95 : decode cX6_init 95 = .ok (.newarray .int, 2) := by decide +kernel
theorem dX6_init_97 : decode cX6_init 97 = .ok (.putfield 44, 3) := by decide +kernel
theorem dX6_init_100 : decode cX6_init 100 = .ok (.aload_n 0, 1) := by decide +kernel
theorem dX6_init_101 : decode cX6_init 101 = .ok (.bipush 8, 2) := by decide +kernel
theorem dX6_init_103 : decode cX6_init 103 = .ok (.newarray .int, 2) := by decide +kernel
theorem dX6_init_105 : decode cX6_init 105 = .ok (.putfield 47, 3) := by decide +kernel
theorem dX6_init_108 : decode cX6_init 108 = .ok (.aload_n 0, 1) := by decide +kernel
theorem dX6_init_109 : decode cX6_init 109 = .ok (.bipush 8, 2) := by decide +kernel
theorem dX6_init_111 : decode cX6_init 111 = .ok (.newarray .int, 2) := by decide +kernel
theorem dX6_init_113 : decode cX6_init 113 = .ok (.putfield 50, 3) := by decide +kernel
theorem dX6_init_116 : decode cX6_init 116 = .ok (.aload_n 0, 1) := by decide +kernel
theorem dX6_init_117 : decode cX6_init 117 = .ok (.bipush 8, 2) := by decide +kernel
theorem dX6_init_119 : decode cX6_init 119 = .ok (.newarray .int, 2) := by decide +kernel
theorem dX6_init_121 : decode cX6_init 121 = .ok (.putfield 53, 3) := by decide +kernel
theorem dX6_init_124 : decode cX6_init 124 = .ok (.aload_n 0, 1) := by decide +kernel
theorem dX6_init_125 : decode cX6_init 125 = .ok (.bipush 8, 2) := by decide +kernel
theorem dX6_init_127 : decode cX6_init 127 = .ok (.newarray .int, 2) := by decide +kernel
theorem dX6_init_129 : decode cX6_init 129 = .ok (.putfield 56, 3) := by decide +kernel
theorem dX6_init_132 : decode cX6_init 132 = .ok (.aload_n 0, 1) := by decide +kernel
theorem dX6_init_133 : decode cX6_init 133 = .ok (.sipush 328, 3) := by decide +kernel
theorem dX6_init_136 : decode cX6_init 136 = .ok (.newarray .int, 2) := by decide +kernel
theorem dX6_init_138 : decode cX6_init 138 = .ok (.putfield 59, 3) := by decide +kernel
theorem dX6_init_141 : decode cX6_init 141 = .ok (.return_, 1) := by decide +kernel
theorem dX6_in_0 : decode cX6_in 0 = .ok (.lload_n 0, 1) := by decide +kernel
theorem dX6_in_1 : decode cX6_in 1 = .ok (.lload_n 2, 1) := by decide +kernel
theorem dX6_in_2 : decode cX6_in 2 = .ok (.lcmp, 1) := by decide +kernel
theorem dX6_in_3 : decode cX6_in 3 = .ok (.ifCond .lt 14, 3) := by decide +kernel
theorem dX6_in_6 : decode cX6_in 6 = .ok (.lload_n 0, 1) := by decide +kernel
theorem dX6_in_7 : decode cX6_in 7 = .ok (.lload 4, 2) := by decide +kernel
theorem dX6_in_9 : decode cX6_in 9 = .ok (.lcmp, 1) := by decide +kernel
theorem dX6_in_10 : decode cX6_in 10 = .ok (.ifCond .gt 7, 3) := by decide +kernel
theorem dX6_in_13 : decode cX6_in 13 = .ok (.iconst 1, 1) := by decide +kernel
theorem dX6_in_14 : decode cX6_in 14 = .ok (.goto 4, 3) := by decide +kernel
theorem dX6_in_17 : decode cX6_in 17 = .ok (.iconst 0, 1) := by decide +kernel
theorem dX6_in_18 : decode cX6_in 18 = .ok (.ireturn, 1) := by decide +kernel
theorem dX6_has_0 : decode cX6_has 0 = .ok (.iload_n 0, 1) := by decide +kernel
theorem dX6_has_1 : decode cX6_has 1 = .ok (.iload_n 1, 1) := by decide +kernel
theorem dX6_has_2 : decode cX6_has 2 = .ok (.ishr, 1) := by decide +kernel
theorem dX6_has_3 : decode cX6_has 3 = .ok (.iconst 1, 1) := by decide +kernel
theorem dX6_has_4 : decode cX6_has 4 = .ok (.iand, 1) := by decide +kernel
theorem dX6_has_5 : decode cX6_has 5 = .ok (.iconst 1, 1) := by decide +kernel
theorem dX6_has_6 : decode cX6_has 6 = .ok (.if_icmp .ne 7, 3) := by decide +kernel
theorem dX6_has_9 : decode cX6_has 9 = .ok (.iconst 1, 1) := by decide +kernel
theorem dX6_has_10 : decode cX6_has 10 = .ok (.goto 4, 3) := by decide +kernel
theorem dX6_has_13 : decode cX6_has 13 = .ok (.iconst 0, 1) := by decide +kernel
theorem dX6_has_14 : decode cX6_has 14 = .ok (.ireturn, 1) := by decide +kernel
theorem dX6_power_0 : decode cX6_power 0 = .ok (.iconst 1, 1) := by decide +kernel
theorem dX6_power_1 : decode cX6_power 1 = .ok (.istore_n 2, 1) := by decide +kernel
theorem dX6_power_2 : decode cX6_power 2 = .ok (.iconst 0, 1) := by decide +kernel
theorem dX6_power_3 : decode cX6_power 3 = .ok (.istore_n 3, 1) := by decide +kernel
theorem dX6_power_4 : decode cX6_power 4 = .ok (.iload_n 3, 1) := by decide +kernel
theorem dX6_power_5 : decode cX6_power 5 = .ok (.iload_n 1, 1) := by decide +kernel
theorem dX6_power_6 : decode cX6_power 6 = .ok (.if_icmp .ge 13, 3) := by decide +kernel
theorem dX6_power_9 : decode cX6_power 9 = .ok (.iload_n 2, 1) := by decide +kernel
theorem dX6_power_10 : decode cX6_power 10 = .ok (.iload_n 0, 1) := by decide +kernel
theorem dX6_power_11 : decode cX6_power 11 = .ok (.imul, 1) := by decide +kernel
theorem dX6_power_12 : decode cX6_power 12 = .ok (.istore_n 2, 1) := by decide +kernel
theorem dX6_power_13 : decode cX6_power 13 = .ok (.iinc 3 1, 3) := by decide +kernel
theorem dX6_power_16 : decode cX6_power 16 = .ok (.goto (-12), 3) := by decide +kernel
theorem dX6_power_19 : decode cX6_power 19 = .ok (.iload_n 2, 1) := by decide +kernel
theorem dX6_power_20 : decode cX6_power 20 = .ok (.ireturn, 1) := by decide +kernel
theorem dX6_noStream_0 : decode cX6_noStream 0 = .ok (.iload_n 1, 1) := by decide +kernel
theorem dX6_noStream_1 : decode cX6_noStream 1 = .ok (.i2l, 1) := by decide +kernel
theorem dX6_noStream_2 : decode cX6_noStream 2 = .ok (.lconst 0, 1) := by decide +kernel
theorem dX6_noStream_3 : decode cX6_noStream 3 = .ok (.aload_n 0, 1) := by decide +kernel
theorem dX6_noStream_4 : decode cX6_noStream 4 = .ok (.getfield 16, 3) := by decide +kernel
theorem dX6_noStream_7 : decode cX6_noStream 7 = .ok (.iconst 0, 1) := by decide +kernel
theorem dX6_noStream_8 : decode cX6_noStream 8 = .ok (.iaload, 1) := by decide +kernel
theorem dX6_noStream_9 : decode cX6_noStream 9 = .ok (.iconst 1, 1) := by decide +kernel
theorem dX6_noStream_10 : decode cX6_noStream 10 = .ok (.isub, 1) := by decide +kernel
theorem dX6_noStream_11 : decode cX6_noStream 11 = .ok (.i2l, 1) := by decide +kernel
theorem dX6_noStream_12 : decode cX6_noStream 12 = .ok (.invokestatic 66, 3) := by decide +kernel
theorem dX6_noStream_15 : decode cX6_noStream 15 = .ok (.ifCond .ne 7, 3) := by decide +kernel
theorem dX6_noStream_18 : decode cX6_noStream 18 = .ok (.iconst 1, 1) := by decide +kernel
theorem dX6_noStream_19 : decode cX6_noStream 19 = .ok (.goto 4, 3) := by decide +kernel
theorem dX6_noStream_22 : decode cX6_noStream 22 = .ok (.iconst 0, 1) := by decide +kernel
theorem dX6_noStream_23 : decode cX6_noStream 23 = .ok (.ireturn, 1) := by decide +kernel
theorem dX6_figures_0 : decode cX6_figures 0 = .ok (.iload_n 0, 1) := by decide +kernel
theorem dX6_figures_1 : decode cX6_figures 1 = .ok (.iconst 2, 1) := by decide +kernel
theorem dX6_figures_2 : decode cX6_figures 2 = .ok (.if_icmp .lt 9, 3) := by decide +kernel
theorem dX6_figures_5 : decode cX6_figures 5 = .ok (.iload_n 0, 1) := by decide +kernel
theorem dX6_figures_6 : decode cX6_figures 6 = .ok (.bipush 7, 2) := by decide +kernel
theorem dX6_figures_8 : decode cX6_figures 8 = .ok (.if_icmp .ne 7, 3) := by decide +kernel
theorem dX6_figures_11 : decode cX6_figures 11 = .ok (.iconst 1, 1) := by decide +kernel
theorem dX6_figures_12 : decode cX6_figures 12 = .ok (.goto 19, 3) := by decide +kernel
theorem dX6_figures_15 : decode cX6_figures 15 = .ok (.iload_n 0, 1) := by decide +kernel
theorem dX6_figures_16 : decode cX6_figures 16 = .ok (.iconst 5, 1) := by decide +kernel
theorem dX6_figures_17 : decode cX6_figures 17 = .ok (.if_icmp .eq 9, 3) := by decide +kernel
theorem dX6_figures_20 : decode cX6_figures 20 = .ok (.iload_n 0, 1) := by decide +kernel
theorem dX6_figures_21 : decode cX6_figures 21 = .ok (.bipush 11, 2) := by decide +kernel
theorem dX6_figures_23 : decode cX6_figures 23 = .ok (.if_icmp .ne 7, 3) := by decide +kernel
theorem dX6_figures_26 : decode cX6_figures 26 = .ok (.iconst 3, 1) := by decide +kernel
theorem dX6_figures_27 : decode cX6_figures 27 = .ok (.goto 4, 3) := by decide +kernel
theorem dX6_figures_30 : decode cX6_figures 30 = .ok (.iconst 2, 1) := by decide +kernel
theorem dX6_figures_31 : decode cX6_figures 31 = .ok (.ireturn, 1) := by decide +kernel
theorem dX6_kindOf_0 : decode cX6_kindOf 0 = .ok (.iload_n 0, 1) := by decide +kernel
theorem dX6_kindOf_1 : decode cX6_kindOf 1 = .ok (.tableswitch 225 43 87 #[199, 225, 201, 225, 225, 225, 225, 225, 225, 225, 225, 225, 225, 225, 225, 225, 225, 203, 225, 225, 205, 225, 213, 225, 225, 225, 225, 207, 225, 225, 195, 225, 197, 225, 222, 219, 225, 210, 225, 225, 225, 225, 225, 225, 216], 195) := by decide +kernel
theorem dX6_kindOf_196 : decode cX6_kindOf 196 = .ok (.iconst 0, 1) := by decide +kernel
theorem dX6_kindOf_197 : decode cX6_kindOf 197 = .ok (.ireturn, 1) := by decide +kernel
theorem dX6_kindOf_198 : decode cX6_kindOf 198 = .ok (.iconst 1, 1) := by decide +kernel
theorem dX6_kindOf_199 : decode cX6_kindOf 199 = .ok (.ireturn, 1) := by decide +kernel
theorem dX6_kindOf_200 : decode cX6_kindOf 200 = .ok (.iconst 2, 1) := by decide +kernel
theorem dX6_kindOf_201 : decode cX6_kindOf 201 = .ok (.ireturn, 1) := by decide +kernel
theorem dX6_kindOf_202 : decode cX6_kindOf 202 = .ok (.iconst 3, 1) := by decide +kernel
theorem dX6_kindOf_203 : decode cX6_kindOf 203 = .ok (.ireturn, 1) := by decide +kernel
theorem dX6_kindOf_204 : decode cX6_kindOf 204 = .ok (.iconst 4, 1) := by decide +kernel
theorem dX6_kindOf_205 : decode cX6_kindOf 205 = .ok (.ireturn, 1) := by decide +kernel
theorem dX6_kindOf_206 : decode cX6_kindOf 206 = .ok (.iconst 5, 1) := by decide +kernel
theorem dX6_kindOf_207 : decode cX6_kindOf 207 = .ok (.ireturn, 1) := by decide +kernel
theorem dX6_kindOf_208 : decode cX6_kindOf 208 = .ok (.bipush 6, 2) := by decide +kernel
theorem dX6_kindOf_210 : decode cX6_kindOf 210 = .ok (.ireturn, 1) := by decide +kernel
theorem dX6_kindOf_211 : decode cX6_kindOf 211 = .ok (.bipush 7, 2) := by decide +kernel
theorem dX6_kindOf_213 : decode cX6_kindOf 213 = .ok (.ireturn, 1) := by decide +kernel
theorem dX6_kindOf_214 : decode cX6_kindOf 214 = .ok (.bipush 8, 2) := by decide +kernel
theorem dX6_kindOf_216 : decode cX6_kindOf 216 = .ok (.ireturn, 1) := by decide +kernel
theorem dX6_kindOf_217 : decode cX6_kindOf 217 = .ok (.bipush 9, 2) := by decide +kernel
theorem dX6_kindOf_219 : decode cX6_kindOf 219 = .ok (.ireturn, 1) := by decide +kernel
theorem dX6_kindOf_220 : decode cX6_kindOf 220 = .ok (.bipush 10, 2) := by decide +kernel
theorem dX6_kindOf_222 : decode cX6_kindOf 222 = .ok (.ireturn, 1) := by decide +kernel
theorem dX6_kindOf_223 : decode cX6_kindOf 223 = .ok (.bipush 11, 2) := by decide +kernel
theorem dX6_kindOf_225 : decode cX6_kindOf 225 = .ok (.ireturn, 1) := by decide +kernel
theorem dX6_kindOf_226 : decode cX6_kindOf 226 = .ok (.bipush (-9), 2) := by decide +kernel
theorem dX6_kindOf_228 : decode cX6_kindOf 228 = .ok (.ireturn, 1) := by decide +kernel
theorem dX6_most_0 : decode cX6_most 0 = .ok (.iload_n 0, 1) := by decide +kernel
theorem dX6_most_1 : decode cX6_most 1 = .ok (.ifCond .ne 7, 3) := by decide +kernel
theorem dX6_most_4 : decode cX6_most 4 = .ok (.iconst 1, 1) := by decide +kernel
theorem dX6_most_5 : decode cX6_most 5 = .ok (.goto 26, 3) := by decide +kernel
theorem dX6_most_8 : decode cX6_most 8 = .ok (.iload_n 0, 1) := by decide +kernel
theorem dX6_most_9 : decode cX6_most 9 = .ok (.iconst 1, 1) := by decide +kernel
theorem dX6_most_10 : decode cX6_most 10 = .ok (.if_icmp .eq 13, 3) := by decide +kernel
theorem dX6_most_13 : decode cX6_most 13 = .ok (.iload_n 0, 1) := by decide +kernel
theorem dX6_most_14 : decode cX6_most 14 = .ok (.bipush 6, 2) := by decide +kernel
theorem dX6_most_16 : decode cX6_most 16 = .ok (.if_icmp .ne 12, 3) := by decide +kernel
theorem dX6_most_19 : decode cX6_most 19 = .ok (.iload_n 1, 1) := by decide +kernel
theorem dX6_most_20 : decode cX6_most 20 = .ok (.ifCond .ne 8, 3) := by decide +kernel
theorem dX6_most_23 : decode cX6_most 23 = .ok (.bipush 9, 2) := by decide +kernel
theorem dX6_most_25 : decode cX6_most 25 = .ok (.goto 6, 3) := by decide +kernel
theorem dX6_most_28 : decode cX6_most 28 = .ok (.iload_n 2, 1) := by decide +kernel
theorem dX6_most_29 : decode cX6_most 29 = .ok (.iconst 1, 1) := by decide +kernel
theorem dX6_most_30 : decode cX6_most 30 = .ok (.isub, 1) := by decide +kernel
theorem dX6_most_31 : decode cX6_most 31 = .ok (.ireturn, 1) := by decide +kernel
theorem dX6_streamOf_0 : decode cX6_streamOf 0 = .ok (.aload_n 0, 1) := by decide +kernel
theorem dX6_streamOf_1 : decode cX6_streamOf 1 = .ok (.iconst 1, 1) := by decide +kernel
theorem dX6_streamOf_2 : decode cX6_streamOf 2 = .ok (.iload_n 1, 1) := by decide +kernel
theorem dX6_streamOf_3 : decode cX6_streamOf 3 = .ok (.iadd, 1) := by decide +kernel
theorem dX6_streamOf_4 : decode cX6_streamOf 4 = .ok (.iaload, 1) := by decide +kernel
theorem dX6_streamOf_5 : decode cX6_streamOf 5 = .ok (.istore_n 3, 1) := by decide +kernel
theorem dX6_streamOf_6 : decode cX6_streamOf 6 = .ok (.iload_n 3, 1) := by decide +kernel
theorem dX6_streamOf_7 : decode cX6_streamOf 7 = .ok (.iconst 1, 1) := by decide +kernel
theorem dX6_streamOf_8 : decode cX6_streamOf 8 = .ok (.if_icmp .le 25, 3) := by decide +kernel
theorem dX6_streamOf_11 : decode cX6_streamOf 11 = .ok (.iload_n 2, 1) := by decide +kernel
theorem dX6_streamOf_12 : decode cX6_streamOf 12 = .ok (.iload_n 3, 1) := by decide +kernel
theorem dX6_streamOf_13 : decode cX6_streamOf 13 = .ok (.invokestatic 70, 3) := by decide +kernel
theorem dX6_streamOf_16 : decode cX6_streamOf 16 = .ok (.if_icmp .ge 17, 3) := by decide +kernel
theorem dX6_streamOf_19 : decode cX6_streamOf 19 = .ok (.iload_n 3, 1) := by decide +kernel
theorem dX6_streamOf_20 : decode cX6_streamOf 20 = .ok (.bipush 6, 2) := by decide +kernel
theorem dX6_streamOf_22 : decode cX6_streamOf 22 = .ok (.if_icmp .ne 7, 3) := by decide +kernel
theorem dX6_streamOf_25 : decode cX6_streamOf 25 = .ok (.iload_n 2, 1) := by decide +kernel
theorem dX6_streamOf_26 : decode cX6_streamOf 26 = .ok (.ifCond .le 7, 3) := by decide +kernel
theorem dX6_streamOf_29 : decode cX6_streamOf 29 = .ok (.iconst 1, 1) := by decide +kernel
theorem dX6_streamOf_30 : decode cX6_streamOf 30 = .ok (.goto 4, 3) := by decide +kernel
theorem dX6_streamOf_33 : decode cX6_streamOf 33 = .ok (.iconst 0, 1) := by decide +kernel
theorem dX6_streamOf_34 : decode cX6_streamOf 34 = .ok (.istore 4, 2) := by decide +kernel
theorem dX6_streamOf_36 : decode cX6_streamOf 36 = .ok (.iload 4, 2) := by decide +kernel
theorem dX6_streamOf_38 : decode cX6_streamOf 38 = .ok (.ifCond .eq 16, 3) := by decide +kernel
theorem dX6_streamOf_41 : decode cX6_streamOf 41 = .ok (.aload_n 0, 1) := by decide +kernel
theorem dX6_streamOf_42 : decode cX6_streamOf 42 = .ok (.bipush 9, 2) := by decide +kernel
theorem dX6_streamOf_44 : decode cX6_streamOf 44 = .ok (.iconst 3, 1) := by decide +kernel
theorem dX6_streamOf_45 : decode cX6_streamOf 45 = .ok (.iload_n 1, 1) := by decide +kernel
theorem dX6_streamOf_46 : decode cX6_streamOf 46 = .ok (.imul, 1) := by decide +kernel
theorem dX6_streamOf_47 : decode cX6_streamOf 47 = .ok (.iadd, 1) := by decide +kernel
theorem dX6_streamOf_48 : decode cX6_streamOf 48 = .ok (.iload_n 2, 1) := by decide +kernel
theorem dX6_streamOf_49 : decode cX6_streamOf 49 = .ok (.iadd, 1) := by decide +kernel
theorem dX6_streamOf_50 : decode cX6_streamOf 50 = .ok (.iaload, 1) := by decide +kernel
theorem dX6_streamOf_51 : decode cX6_streamOf 51 = .ok (.goto 5, 3) := by decide +kernel
theorem dX6_streamOf_54 : decode cX6_streamOf 54 = .ok (.bipush (-9), 2) := by decide +kernel
theorem dX6_streamOf_56 : decode cX6_streamOf 56 = .ok (.ireturn, 1) := by decide +kernel
theorem dX6_write_0 : decode cX6_write 0 = .ok (.aload_n 0, 1) := by decide +kernel
theorem dX6_write_1 : decode cX6_write 1 = .ok (.iconst 0, 1) := by decide +kernel
theorem dX6_write_2 : decode cX6_write 2 = .ok (.putfield 62, 3) := by decide +kernel
theorem dX6_write_5 : decode cX6_write 5 = .ok (.iload_n 1, 1) := by decide +kernel
theorem dX6_write_6 : decode cX6_write 6 = .ok (.i2l, 1) := by decide +kernel
theorem dX6_write_7 : decode cX6_write 7 = .ok (.lconst 0, 1) := by decide +kernel
theorem dX6_write_8 : decode cX6_write 8 = .ok (.ldc2_w 74, 3) := by decide +kernel
theorem dX6_write_11 : decode cX6_write 11 = .ok (.invokestatic 66, 3) := by decide +kernel
theorem dX6_write_14 : decode cX6_write 14 = .ok (.ifCond .ne 6, 3) := by decide +kernel
theorem dX6_write_17 : decode cX6_write 17 = .ok (.bipush (-2), 2) := by decide +kernel
theorem dX6_write_19 : decode cX6_write 19 = .ok (.ireturn, 1) := by decide +kernel
theorem dX6_write_20 : decode cX6_write 20 = .ok (.aload_n 0, 1) := by decide +kernel
theorem dX6_write_21 : decode cX6_write 21 = .ok (.getfield 76, 3) := by decide +kernel
theorem dX6_write_24 : decode cX6_write 24 = .ok (.bipush 40, 2) := by decide +kernel
theorem dX6_write_26 : decode cX6_write 26 = .ok (.if_icmp .ne 6, 3) := by decide +kernel
theorem dX6_write_29 : decode cX6_write 29 = .ok (.bipush (-4), 2) := by decide +kernel
theorem dX6_write_31 : decode cX6_write 31 = .ok (.ireturn, 1) := by decide +kernel
theorem dX6_write_32 : decode cX6_write 32 = .ok (.aload_n 0, 1) := by decide +kernel
theorem dX6_write_33 : decode cX6_write 33 = .ok (.getfield 7, 3) := by decide +kernel
theorem dX6_write_36 : decode cX6_write 36 = .ok (.aload_n 0, 1) := by decide +kernel
theorem dX6_write_37 : decode cX6_write 37 = .ok (.getfield 76, 3) := by decide +kernel
theorem dX6_write_40 : decode cX6_write 40 = .ok (.iload_n 1, 1) := by decide +kernel
theorem dX6_write_41 : decode cX6_write 41 = .ok (.iastore, 1) := by decide +kernel
theorem dX6_write_42 : decode cX6_write 42 = .ok (.aload_n 0, 1) := by decide +kernel
theorem dX6_write_43 : decode cX6_write 43 = .ok (.dup, 1) := by decide +kernel
theorem dX6_write_44 : decode cX6_write 44 = .ok (.getfield 76, 3) := by decide +kernel
theorem dX6_write_47 : decode cX6_write 47 = .ok (.iconst 1, 1) := by decide +kernel
theorem dX6_write_48 : decode cX6_write 48 = .ok (.iadd, 1) := by decide +kernel
theorem dX6_write_49 : decode cX6_write 49 = .ok (.putfield 76, 3) := by decide +kernel
theorem dX6_write_52 : decode cX6_write 52 = .ok (.aload_n 0, 1) := by decide +kernel
theorem dX6_write_53 : decode cX6_write 53 = .ok (.getfield 76, 3) := by decide +kernel
theorem dX6_write_56 : decode cX6_write 56 = .ok (.ireturn, 1) := by decide +kernel
theorem dX6_wipe_0 : decode cX6_wipe 0 = .ok (.aload_n 0, 1) := by decide +kernel
theorem dX6_wipe_1 : decode cX6_wipe 1 = .ok (.iconst 0, 1) := by decide +kernel
theorem dX6_wipe_2 : decode cX6_wipe 2 = .ok (.putfield 62, 3) := by decide +kernel
theorem dX6_wipe_5 : decode cX6_wipe 5 = .ok (.aload_n 0, 1) := by decide +kernel
theorem dX6_wipe_6 : decode cX6_wipe 6 = .ok (.getfield 76, 3) := by decide +kernel
theorem dX6_wipe_9 : decode cX6_wipe 9 = .ok (.istore_n 1, 1) := by decide +kernel
theorem dX6_wipe_10 : decode cX6_wipe 10 = .ok (.aload_n 0, 1) := by decide +kernel
theorem dX6_wipe_11 : decode cX6_wipe 11 = .ok (.iconst 0, 1) := by decide +kernel
theorem dX6_wipe_12 : decode cX6_wipe 12 = .ok (.putfield 76, 3) := by decide +kernel
theorem dX6_wipe_15 : decode cX6_wipe 15 = .ok (.iload_n 1, 1) := by decide +kernel
theorem dX6_wipe_16 : decode cX6_wipe 16 = .ok (.ireturn, 1) := by decide +kernel
theorem dX6_letterAt_0 : decode cX6_letterAt 0 = .ok (.iload_n 1, 1) := by decide +kernel
theorem dX6_letterAt_1 : decode cX6_letterAt 1 = .ok (.aload_n 0, 1) := by decide +kernel
theorem dX6_letterAt_2 : decode cX6_letterAt 2 = .ok (.getfield 76, 3) := by decide +kernel
theorem dX6_letterAt_5 : decode cX6_letterAt 5 = .ok (.if_icmp .ge 12, 3) := by decide +kernel
theorem dX6_letterAt_8 : decode cX6_letterAt 8 = .ok (.aload_n 0, 1) := by decide +kernel
theorem dX6_letterAt_9 : decode cX6_letterAt 9 = .ok (.getfield 7, 3) := by decide +kernel
theorem dX6_letterAt_12 : decode cX6_letterAt 12 = .ok (.iload_n 1, 1) := by decide +kernel
theorem dX6_letterAt_13 : decode cX6_letterAt 13 = .ok (.iaload, 1) := by decide +kernel
theorem dX6_letterAt_14 : decode cX6_letterAt 14 = .ok (.goto 5, 3) := by decide +kernel
theorem dX6_letterAt_17 : decode cX6_letterAt 17 = .ok (.bipush (-9), 2) := by decide +kernel
theorem dX6_letterAt_19 : decode cX6_letterAt 19 = .ok (.ireturn, 1) := by decide +kernel
theorem dX6_readEquation_0 : decode cX6_readEquation 0 = .ok (.aload_n 0, 1) := by decide +kernel
theorem dX6_readEquation_1 : decode cX6_readEquation 1 = .ok (.aload_n 0, 1) := by decide +kernel
theorem dX6_readEquation_2 : decode cX6_readEquation 2 = .ok (.getfield 79, 3) := by decide +kernel
theorem dX6_readEquation_5 : decode cX6_readEquation 5 = .ok (.invokevirtual 82, 3) := by decide +kernel
theorem dX6_readEquation_8 : decode cX6_readEquation 8 = .ok (.invokestatic 85, 3) := by decide +kernel
theorem dX6_readEquation_11 : decode cX6_readEquation 11 = .ok (.istore_n 3, 1) := by decide +kernel
theorem dX6_readEquation_12 : decode cX6_readEquation 12 = .ok (.iload_n 3, 1) := by decide +kernel
theorem dX6_readEquation_13 : decode cX6_readEquation 13 = .ok (.bipush (-9), 2) := by decide +kernel
theorem dX6_readEquation_15 : decode cX6_readEquation 15 = .ok (.if_icmp .ne 5, 3) := by decide +kernel
theorem dX6_readEquation_18 : decode cX6_readEquation 18 = .ok (.iconst 0, 1) := by decide +kernel
theorem dX6_readEquation_19 : decode cX6_readEquation 19 = .ok (.ireturn, 1) := by decide +kernel
theorem dX6_readEquation_20 : decode cX6_readEquation 20 = .ok (.aload_n 0, 1) := by decide +kernel
theorem dX6_readEquation_21 : decode cX6_readEquation 21 = .ok (.getfield 13, 3) := by decide +kernel
theorem dX6_readEquation_24 : decode cX6_readEquation 24 = .ok (.iconst 1, 1) := by decide +kernel
theorem dX6_readEquation_25 : decode cX6_readEquation 25 = .ok (.iload_n 1, 1) := by decide +kernel
theorem dX6_readEquation_26 : decode cX6_readEquation 26 = .ok (.iadd, 1) := by decide +kernel
theorem dX6_readEquation_27 : decode cX6_readEquation 27 = .ok (.iload_n 3, 1) := by decide +kernel
theorem dX6_readEquation_28 : decode cX6_readEquation 28 = .ok (.iastore, 1) := by decide +kernel
theorem dX6_readEquation_29 : decode cX6_readEquation 29 = .ok (.aload_n 0, 1) := by decide +kernel
theorem dX6_readEquation_30 : decode cX6_readEquation 30 = .ok (.dup, 1) := by decide +kernel
theorem dX6_readEquation_31 : decode cX6_readEquation 31 = .ok (.getfield 79, 3) := by decide +kernel
theorem dX6_readEquation_34 : decode cX6_readEquation 34 = .ok (.iconst 1, 1) := by decide +kernel
theorem dX6_readEquation_35 : decode cX6_readEquation 35 = .ok (.iadd, 1) := by decide +kernel
theorem dX6_readEquation_36 : decode cX6_readEquation 36 = .ok (.putfield 79, 3) := by decide +kernel
theorem dX6_readEquation_39 : decode cX6_readEquation 39 = .ok (.iconst 0, 1) := by decide +kernel
theorem dX6_readEquation_40 : decode cX6_readEquation 40 = .ok (.istore 4, 2) := by decide +kernel
theorem dX6_readEquation_42 : decode cX6_readEquation 42 = .ok (.iload 4, 2) := by decide +kernel
theorem dX6_readEquation_44 : decode cX6_readEquation 44 = .ok (.iload_n 3, 1) := by decide +kernel
theorem dX6_readEquation_45 : decode cX6_readEquation 45 = .ok (.invokestatic 70, 3) := by decide +kernel
theorem dX6_readEquation_48 : decode cX6_readEquation 48 = .ok (.if_icmp .ge 68, 3) := by decide +kernel
theorem dX6_readEquation_51 : decode cX6_readEquation 51 = .ok (.aload_n 0, 1) := by decide +kernel
theorem dX6_readEquation_52 : decode cX6_readEquation 52 = .ok (.aload_n 0, 1) := by decide +kernel
theorem dX6_readEquation_53 : decode cX6_readEquation 53 = .ok (.getfield 79, 3) := by decide +kernel
theorem dX6_readEquation_56 : decode cX6_readEquation 56 = .ok (.invokevirtual 82, 3) := by decide +kernel
theorem dX6_readEquation_59 : decode cX6_readEquation 59 = .ok (.bipush 48, 2) := by decide +kernel
theorem dX6_readEquation_61 : decode cX6_readEquation 61 = .ok (.isub, 1) := by decide +kernel
theorem dX6_readEquation_62 : decode cX6_readEquation 62 = .ok (.istore 5, 2) := by decide +kernel
theorem dX6_readEquation_64 : decode cX6_readEquation 64 = .ok (.iload 5, 2) := by decide +kernel
theorem dX6_readEquation_66 : decode cX6_readEquation 66 = .ok (.i2l, 1) := by decide +kernel
theorem dX6_readEquation_67 : decode cX6_readEquation 67 = .ok (.lconst 0, 1) := by decide +kernel
theorem dX6_readEquation_68 : decode cX6_readEquation 68 = .ok (.iload_n 3, 1) := by decide +kernel
theorem dX6_readEquation_69 : decode cX6_readEquation 69 = .ok (.iload 4, 2) := by decide +kernel
theorem dX6_readEquation_71 : decode cX6_readEquation 71 = .ok (.iload_n 2, 1) := by decide +kernel
theorem dX6_readEquation_72 : decode cX6_readEquation 72 = .ok (.invokestatic 88, 3) := by decide +kernel
theorem dX6_readEquation_75 : decode cX6_readEquation 75 = .ok (.i2l, 1) := by decide +kernel
theorem dX6_readEquation_76 : decode cX6_readEquation 76 = .ok (.invokestatic 66, 3) := by decide +kernel
theorem dX6_readEquation_79 : decode cX6_readEquation 79 = .ok (.ifCond .ne 5, 3) := by decide +kernel
theorem dX6_readEquation_82 : decode cX6_readEquation 82 = .ok (.iconst 0, 1) := by decide +kernel
theorem dX6_readEquation_83 : decode cX6_readEquation 83 = .ok (.ireturn, 1) := by decide +kernel
theorem dX6_readEquation_84 : decode cX6_readEquation 84 = .ok (.aload_n 0, 1) := by decide +kernel
theorem dX6_readEquation_85 : decode cX6_readEquation 85 = .ok (.getfield 13, 3) := by decide +kernel
theorem dX6_readEquation_88 : decode cX6_readEquation 88 = .ok (.bipush 9, 2) := by decide +kernel
theorem dX6_readEquation_90 : decode cX6_readEquation 90 = .ok (.iconst 3, 1) := by decide +kernel
theorem dX6_readEquation_91 : decode cX6_readEquation 91 = .ok (.iload_n 1, 1) := by decide +kernel
theorem dX6_readEquation_92 : decode cX6_readEquation 92 = .ok (.imul, 1) := by decide +kernel
theorem dX6_readEquation_93 : decode cX6_readEquation 93 = .ok (.iadd, 1) := by decide +kernel
theorem dX6_readEquation_94 : decode cX6_readEquation 94 = .ok (.iload 4, 2) := by decide +kernel
theorem dX6_readEquation_96 : decode cX6_readEquation 96 = .ok (.iadd, 1) := by decide +kernel
theorem dX6_readEquation_97 : decode cX6_readEquation 97 = .ok (.iload 5, 2) := by decide +kernel
theorem dX6_readEquation_99 : decode cX6_readEquation 99 = .ok (.iastore, 1) := by decide +kernel
theorem dX6_readEquation_100 : decode cX6_readEquation 100 = .ok (.aload_n 0, 1) := by decide +kernel
theorem dX6_readEquation_101 : decode cX6_readEquation 101 = .ok (.dup, 1) := by decide +kernel
theorem dX6_readEquation_102 : decode cX6_readEquation 102 = .ok (.getfield 79, 3) := by decide +kernel
theorem dX6_readEquation_105 : decode cX6_readEquation 105 = .ok (.iconst 1, 1) := by decide +kernel
theorem dX6_readEquation_106 : decode cX6_readEquation 106 = .ok (.iadd, 1) := by decide +kernel
theorem dX6_readEquation_107 : decode cX6_readEquation 107 = .ok (.putfield 79, 3) := by decide +kernel
theorem dX6_readEquation_110 : decode cX6_readEquation 110 = .ok (.iinc 4 1, 3) := by decide +kernel
theorem dX6_readEquation_113 : decode cX6_readEquation 113 = .ok (.goto (-71), 3) := by decide +kernel
theorem dX6_readEquation_116 : decode cX6_readEquation 116 = .ok (.iconst 1, 1) := by decide +kernel
theorem dX6_readEquation_117 : decode cX6_readEquation 117 = .ok (.ireturn, 1) := by decide +kernel
theorem dX6_readProgram_0 : decode cX6_readProgram 0 = .ok (.aload_n 0, 1) := by decide +kernel
theorem dX6_readProgram_1 : decode cX6_readProgram 1 = .ok (.iconst 0, 1) := by decide +kernel
theorem dX6_readProgram_2 : decode cX6_readProgram 2 = .ok (.putfield 79, 3) := by decide +kernel
theorem dX6_readProgram_5 : decode cX6_readProgram 5 = .ok (.iconst 0, 1) := by decide +kernel
theorem dX6_readProgram_6 : decode cX6_readProgram 6 = .ok (.istore_n 1, 1) := by decide +kernel
theorem dX6_readProgram_7 : decode cX6_readProgram 7 = .ok (.iload_n 1, 1) := by decide +kernel
theorem dX6_readProgram_8 : decode cX6_readProgram 8 = .ok (.bipush 50, 2) := by decide +kernel
theorem dX6_readProgram_10 : decode cX6_readProgram 10 = .ok (.if_icmp .ge 16, 3) := by decide +kernel
theorem dX6_readProgram_13 : decode cX6_readProgram 13 = .ok (.aload_n 0, 1) := by decide +kernel
theorem dX6_readProgram_14 : decode cX6_readProgram 14 = .ok (.getfield 13, 3) := by decide +kernel
theorem dX6_readProgram_17 : decode cX6_readProgram 17 = .ok (.iload_n 1, 1) := by decide +kernel
theorem dX6_readProgram_18 : decode cX6_readProgram 18 = .ok (.iconst 0, 1) := by decide +kernel
theorem dX6_readProgram_19 : decode cX6_readProgram 19 = .ok (.iastore, 1) := by decide +kernel
theorem dX6_readProgram_20 : decode cX6_readProgram 20 = .ok (.iinc 1 1, 3) := by decide +kernel
theorem dX6_readProgram_23 : decode cX6_readProgram 23 = .ok (.goto (-16), 3) := by decide +kernel
theorem dX6_readProgram_26 : decode cX6_readProgram 26 = .ok (.aload_n 0, 1) := by decide +kernel
theorem dX6_readProgram_27 : decode cX6_readProgram 27 = .ok (.iconst 0, 1) := by decide +kernel
theorem dX6_readProgram_28 : decode cX6_readProgram 28 = .ok (.invokevirtual 82, 3) := by decide +kernel
theorem dX6_readProgram_31 : decode cX6_readProgram 31 = .ok (.bipush 83, 2) := by decide +kernel
theorem dX6_readProgram_33 : decode cX6_readProgram 33 = .ok (.if_icmp .eq 5, 3) := by decide +kernel
theorem dX6_readProgram_36 : decode cX6_readProgram 36 = .ok (.iconst 0, 1) := by decide +kernel
theorem dX6_readProgram_37 : decode cX6_readProgram 37 = .ok (.ireturn, 1) := by decide +kernel
theorem dX6_readProgram_38 : decode cX6_readProgram 38 = .ok (.aload_n 0, 1) := by decide +kernel
theorem dX6_readProgram_39 : decode cX6_readProgram 39 = .ok (.iconst 1, 1) := by decide +kernel
theorem dX6_readProgram_40 : decode cX6_readProgram 40 = .ok (.invokevirtual 82, 3) := by decide +kernel
theorem dX6_readProgram_43 : decode cX6_readProgram 43 = .ok (.bipush 48, 2) := by decide +kernel
theorem dX6_readProgram_45 : decode cX6_readProgram 45 = .ok (.isub, 1) := by decide +kernel
theorem dX6_readProgram_46 : decode cX6_readProgram 46 = .ok (.istore_n 1, 1) := by decide +kernel
theorem dX6_readProgram_47 : decode cX6_readProgram 47 = .ok (.iload_n 1, 1) := by decide +kernel
theorem dX6_readProgram_48 : decode cX6_readProgram 48 = .ok (.i2l, 1) := by decide +kernel
theorem dX6_readProgram_49 : decode cX6_readProgram 49 = .ok (.lconst 1, 1) := by decide +kernel
theorem dX6_readProgram_50 : decode cX6_readProgram 50 = .ok (.ldc2_w 92, 3) := by decide +kernel
theorem dX6_readProgram_53 : decode cX6_readProgram 53 = .ok (.invokestatic 66, 3) := by decide +kernel
theorem dX6_readProgram_56 : decode cX6_readProgram 56 = .ok (.ifCond .ne 5, 3) := by decide +kernel
theorem dX6_readProgram_59 : decode cX6_readProgram 59 = .ok (.iconst 1, 1) := by decide +kernel
theorem dX6_readProgram_60 : decode cX6_readProgram 60 = .ok (.ireturn, 1) := by decide +kernel
theorem dX6_readProgram_61 : decode cX6_readProgram 61 = .ok (.aload_n 0, 1) := by decide +kernel
theorem dX6_readProgram_62 : decode cX6_readProgram 62 = .ok (.iconst 2, 1) := by decide +kernel
theorem dX6_readProgram_63 : decode cX6_readProgram 63 = .ok (.putfield 79, 3) := by decide +kernel
theorem dX6_readProgram_66 : decode cX6_readProgram 66 = .ok (.iconst 0, 1) := by decide +kernel
theorem dX6_readProgram_67 : decode cX6_readProgram 67 = .ok (.istore_n 2, 1) := by decide +kernel
theorem dX6_readProgram_68 : decode cX6_readProgram 68 = .ok (.iload_n 2, 1) := by decide +kernel
theorem dX6_readProgram_69 : decode cX6_readProgram 69 = .ok (.iload_n 1, 1) := by decide +kernel
theorem dX6_readProgram_70 : decode cX6_readProgram 70 = .ok (.if_icmp .ge 23, 3) := by decide +kernel
theorem dX6_readProgram_73 : decode cX6_readProgram 73 = .ok (.aload_n 0, 1) := by decide +kernel
theorem dX6_readProgram_74 : decode cX6_readProgram 74 = .ok (.iload_n 2, 1) := by decide +kernel
theorem dX6_readProgram_75 : decode cX6_readProgram 75 = .ok (.iload_n 1, 1) := by decide +kernel
theorem dX6_readProgram_76 : decode cX6_readProgram 76 = .ok (.invokevirtual 94, 3) := by decide +kernel
theorem dX6_readProgram_79 : decode cX6_readProgram 79 = .ok (.ifCond .ne 8, 3) := by decide +kernel
theorem dX6_readProgram_82 : decode cX6_readProgram 82 = .ok (.aload_n 0, 1) := by decide +kernel
theorem dX6_readProgram_83 : decode cX6_readProgram 83 = .ok (.getfield 79, 3) := by decide +kernel
theorem dX6_readProgram_86 : decode cX6_readProgram 86 = .ok (.ireturn, 1) := by decide +kernel
theorem dX6_readProgram_87 : decode cX6_readProgram 87 = .ok (.iinc 2 1, 3) := by decide +kernel
theorem dX6_readProgram_90 : decode cX6_readProgram 90 = .ok (.goto (-22), 3) := by decide +kernel
theorem dX6_readProgram_93 : decode cX6_readProgram 93 = .ok (.aload_n 0, 1) := by decide +kernel
theorem dX6_readProgram_94 : decode cX6_readProgram 94 = .ok (.getfield 13, 3) := by decide +kernel
theorem dX6_readProgram_97 : decode cX6_readProgram 97 = .ok (.iconst 0, 1) := by decide +kernel
theorem dX6_readProgram_98 : decode cX6_readProgram 98 = .ok (.iload_n 1, 1) := by decide +kernel
theorem dX6_readProgram_99 : decode cX6_readProgram 99 = .ok (.iastore, 1) := by decide +kernel
theorem dX6_readProgram_100 : decode cX6_readProgram 100 = .ok (.aload_n 0, 1) := by decide +kernel
theorem dX6_readProgram_101 : decode cX6_readProgram 101 = .ok (.getfield 79, 3) := by decide +kernel
theorem dX6_readProgram_104 : decode cX6_readProgram 104 = .ok (.aload_n 0, 1) := by decide +kernel
theorem dX6_readProgram_105 : decode cX6_readProgram 105 = .ok (.getfield 76, 3) := by decide +kernel
theorem dX6_readProgram_108 : decode cX6_readProgram 108 = .ok (.if_icmp .ne 8, 3) := by decide +kernel
theorem dX6_readProgram_111 : decode cX6_readProgram 111 = .ok (.bipush (-9), 2) := by decide +kernel
theorem dX6_readProgram_113 : decode cX6_readProgram 113 = .ok (.goto 7, 3) := by decide +kernel
theorem dX6_readProgram_116 : decode cX6_readProgram 116 = .ok (.aload_n 0, 1) := by decide +kernel
theorem dX6_readProgram_117 : decode cX6_readProgram 117 = .ok (.getfield 79, 3) := by decide +kernel
theorem dX6_readProgram_120 : decode cX6_readProgram 120 = .ok (.ireturn, 1) := by decide +kernel
theorem dX6_fault_0 : decode cX6_fault 0 = .ok (.aload_n 0, 1) := by decide +kernel
theorem dX6_fault_1 : decode cX6_fault 1 = .ok (.iconst 0, 1) := by decide +kernel
theorem dX6_fault_2 : decode cX6_fault 2 = .ok (.putfield 62, 3) := by decide +kernel
theorem dX6_fault_5 : decode cX6_fault 5 = .ok (.aload_n 0, 1) := by decide +kernel
theorem dX6_fault_6 : decode cX6_fault 6 = .ok (.invokevirtual 98, 3) := by decide +kernel
theorem dX6_fault_9 : decode cX6_fault 9 = .ok (.ireturn, 1) := by decide +kernel
theorem dX6_root_0 : decode cX6_root 0 = .ok (.iload_n 1, 1) := by decide +kernel
theorem dX6_root_1 : decode cX6_root 1 = .ok (.istore_n 2, 1) := by decide +kernel
theorem dX6_root_2 : decode cX6_root 2 = .ok (.aload_n 0, 1) := by decide +kernel
theorem dX6_root_3 : decode cX6_root 3 = .ok (.getfield 44, 3) := by decide +kernel
theorem dX6_root_6 : decode cX6_root 6 = .ok (.iload_n 2, 1) := by decide +kernel
theorem dX6_root_7 : decode cX6_root 7 = .ok (.iaload, 1) := by decide +kernel
theorem dX6_root_8 : decode cX6_root 8 = .ok (.iload_n 2, 1) := by decide +kernel
theorem dX6_root_9 : decode cX6_root 9 = .ok (.if_icmp .eq 13, 3) := by decide +kernel
theorem dX6_root_12 : decode cX6_root 12 = .ok (.aload_n 0, 1) := by decide +kernel
theorem dX6_root_13 : decode cX6_root 13 = .ok (.getfield 44, 3) := by decide +kernel
theorem dX6_root_16 : decode cX6_root 16 = .ok (.iload_n 2, 1) := by decide +kernel
theorem dX6_root_17 : decode cX6_root 17 = .ok (.iaload, 1) := by decide +kernel
theorem dX6_root_18 : decode cX6_root 18 = .ok (.istore_n 2, 1) := by decide +kernel
theorem dX6_root_19 : decode cX6_root 19 = .ok (.goto (-17), 3) := by decide +kernel
theorem dX6_root_22 : decode cX6_root 22 = .ok (.iload_n 2, 1) := by decide +kernel
theorem dX6_root_23 : decode cX6_root 23 = .ok (.ireturn, 1) := by decide +kernel
theorem dX6_isMet_0 : decode cX6_isMet 0 = .ok (.aload_n 0, 1) := by decide +kernel
theorem dX6_isMet_1 : decode cX6_isMet 1 = .ok (.iload_n 2, 1) := by decide +kernel
theorem dX6_isMet_2 : decode cX6_isMet 2 = .ok (.invokevirtual 102, 3) := by decide +kernel
theorem dX6_isMet_5 : decode cX6_isMet 5 = .ok (.istore_n 3, 1) := by decide +kernel
theorem dX6_isMet_6 : decode cX6_isMet 6 = .ok (.iload_n 3, 1) := by decide +kernel
theorem dX6_isMet_7 : decode cX6_isMet 7 = .ok (.iload_n 1, 1) := by decide +kernel
theorem dX6_isMet_8 : decode cX6_isMet 8 = .ok (.if_icmp .eq 29, 3) := by decide +kernel
theorem dX6_isMet_11 : decode cX6_isMet 11 = .ok (.aload_n 0, 1) := by decide +kernel
theorem dX6_isMet_12 : decode cX6_isMet 12 = .ok (.getfield 47, 3) := by decide +kernel
theorem dX6_isMet_15 : decode cX6_isMet 15 = .ok (.iload_n 3, 1) := by decide +kernel
theorem dX6_isMet_16 : decode cX6_isMet 16 = .ok (.iaload, 1) := by decide +kernel
theorem dX6_isMet_17 : decode cX6_isMet 17 = .ok (.ifCond .lt 20, 3) := by decide +kernel
theorem dX6_isMet_20 : decode cX6_isMet 20 = .ok (.aload_n 0, 1) := by decide +kernel
theorem dX6_isMet_21 : decode cX6_isMet 21 = .ok (.aload_n 0, 1) := by decide +kernel
theorem dX6_isMet_22 : decode cX6_isMet 22 = .ok (.getfield 47, 3) := by decide +kernel
theorem dX6_isMet_25 : decode cX6_isMet 25 = .ok (.iload_n 3, 1) := by decide +kernel
theorem dX6_isMet_26 : decode cX6_isMet 26 = .ok (.iaload, 1) := by decide +kernel
theorem dX6_isMet_27 : decode cX6_isMet 27 = .ok (.bipush 10, 2) := by decide +kernel
theorem dX6_isMet_29 : decode cX6_isMet 29 = .ok (.idiv, 1) := by decide +kernel
theorem dX6_isMet_30 : decode cX6_isMet 30 = .ok (.invokevirtual 102, 3) := by decide +kernel
theorem dX6_isMet_33 : decode cX6_isMet 33 = .ok (.istore_n 3, 1) := by decide +kernel
theorem dX6_isMet_34 : decode cX6_isMet 34 = .ok (.goto (-28), 3) := by decide +kernel
theorem dX6_isMet_37 : decode cX6_isMet 37 = .ok (.iload_n 3, 1) := by decide +kernel
theorem dX6_isMet_38 : decode cX6_isMet 38 = .ok (.iload_n 1, 1) := by decide +kernel
theorem dX6_isMet_39 : decode cX6_isMet 39 = .ok (.if_icmp .ne 7, 3) := by decide +kernel
theorem dX6_isMet_42 : decode cX6_isMet 42 = .ok (.iconst 1, 1) := by decide +kernel
theorem dX6_isMet_43 : decode cX6_isMet 43 = .ok (.goto 4, 3) := by decide +kernel
theorem dX6_isMet_46 : decode cX6_isMet 46 = .ok (.iconst 0, 1) := by decide +kernel
theorem dX6_isMet_47 : decode cX6_isMet 47 = .ok (.ireturn, 1) := by decide +kernel
theorem dX6_settle_0 : decode cX6_settle 0 = .ok (.aload_n 0, 1) := by decide +kernel
theorem dX6_settle_1 : decode cX6_settle 1 = .ok (.iload_n 1, 1) := by decide +kernel
theorem dX6_settle_2 : decode cX6_settle 2 = .ok (.invokevirtual 102, 3) := by decide +kernel
theorem dX6_settle_5 : decode cX6_settle 5 = .ok (.istore_n 3, 1) := by decide +kernel
theorem dX6_settle_6 : decode cX6_settle 6 = .ok (.aload_n 0, 1) := by decide +kernel
theorem dX6_settle_7 : decode cX6_settle 7 = .ok (.getfield 47, 3) := by decide +kernel
theorem dX6_settle_10 : decode cX6_settle 10 = .ok (.iload_n 3, 1) := by decide +kernel
theorem dX6_settle_11 : decode cX6_settle 11 = .ok (.iaload, 1) := by decide +kernel
theorem dX6_settle_12 : decode cX6_settle 12 = .ok (.bipush (-9), 2) := by decide +kernel
theorem dX6_settle_14 : decode cX6_settle 14 = .ok (.if_icmp .eq 19, 3) := by decide +kernel
theorem dX6_settle_17 : decode cX6_settle 17 = .ok (.aload_n 0, 1) := by decide +kernel
theorem dX6_settle_18 : decode cX6_settle 18 = .ok (.getfield 47, 3) := by decide +kernel
theorem dX6_settle_21 : decode cX6_settle 21 = .ok (.iload_n 3, 1) := by decide +kernel
theorem dX6_settle_22 : decode cX6_settle 22 = .ok (.iaload, 1) := by decide +kernel
theorem dX6_settle_23 : decode cX6_settle 23 = .ok (.iload_n 2, 1) := by decide +kernel
theorem dX6_settle_24 : decode cX6_settle 24 = .ok (.if_icmp .ne 7, 3) := by decide +kernel
theorem dX6_settle_27 : decode cX6_settle 27 = .ok (.iconst 1, 1) := by decide +kernel
theorem dX6_settle_28 : decode cX6_settle 28 = .ok (.goto 4, 3) := by decide +kernel
theorem dX6_settle_31 : decode cX6_settle 31 = .ok (.iconst 0, 1) := by decide +kernel
theorem dX6_settle_32 : decode cX6_settle 32 = .ok (.ireturn, 1) := by decide +kernel
theorem dX6_settle_33 : decode cX6_settle 33 = .ok (.iload_n 2, 1) := by decide +kernel
theorem dX6_settle_34 : decode cX6_settle 34 = .ok (.ifCond .lt 17, 3) := by decide +kernel
theorem dX6_settle_37 : decode cX6_settle 37 = .ok (.aload_n 0, 1) := by decide +kernel
theorem dX6_settle_38 : decode cX6_settle 38 = .ok (.iload_n 3, 1) := by decide +kernel
theorem dX6_settle_39 : decode cX6_settle 39 = .ok (.iload_n 2, 1) := by decide +kernel
theorem dX6_settle_40 : decode cX6_settle 40 = .ok (.bipush 10, 2) := by decide +kernel
theorem dX6_settle_42 : decode cX6_settle 42 = .ok (.idiv, 1) := by decide +kernel
theorem dX6_settle_43 : decode cX6_settle 43 = .ok (.invokevirtual 105, 3) := by decide +kernel
theorem dX6_settle_46 : decode cX6_settle 46 = .ok (.ifCond .eq 5, 3) := by decide +kernel
theorem dX6_settle_49 : decode cX6_settle 49 = .ok (.iconst 0, 1) := by decide +kernel
theorem dX6_settle_50 : decode cX6_settle 50 = .ok (.ireturn, 1) := by decide +kernel
theorem dX6_settle_51 : decode cX6_settle 51 = .ok (.aload_n 0, 1) := by decide +kernel
theorem dX6_settle_52 : decode cX6_settle 52 = .ok (.getfield 47, 3) := by decide +kernel
theorem dX6_settle_55 : decode cX6_settle 55 = .ok (.iload_n 3, 1) := by decide +kernel
theorem dX6_settle_56 : decode cX6_settle 56 = .ok (.iload_n 2, 1) := by decide +kernel
theorem dX6_settle_57 : decode cX6_settle 57 = .ok (.iastore, 1) := by decide +kernel
theorem dX6_settle_58 : decode cX6_settle 58 = .ok (.iconst 1, 1) := by decide +kernel
theorem dX6_settle_59 : decode cX6_settle 59 = .ok (.ireturn, 1) := by decide +kernel
theorem dX6_like_0 : decode cX6_like 0 = .ok (.aload_n 0, 1) := by decide +kernel
theorem dX6_like_1 : decode cX6_like 1 = .ok (.iload_n 1, 1) := by decide +kernel
theorem dX6_like_2 : decode cX6_like 2 = .ok (.invokevirtual 102, 3) := by decide +kernel
theorem dX6_like_5 : decode cX6_like 5 = .ok (.istore_n 3, 1) := by decide +kernel
theorem dX6_like_6 : decode cX6_like 6 = .ok (.aload_n 0, 1) := by decide +kernel
theorem dX6_like_7 : decode cX6_like 7 = .ok (.iload_n 2, 1) := by decide +kernel
theorem dX6_like_8 : decode cX6_like 8 = .ok (.invokevirtual 102, 3) := by decide +kernel
theorem dX6_like_11 : decode cX6_like 11 = .ok (.istore 4, 2) := by decide +kernel
theorem dX6_like_13 : decode cX6_like 13 = .ok (.iload_n 3, 1) := by decide +kernel
theorem dX6_like_14 : decode cX6_like 14 = .ok (.iload 4, 2) := by decide +kernel
theorem dX6_like_16 : decode cX6_like 16 = .ok (.if_icmp .ne 5, 3) := by decide +kernel
theorem dX6_like_19 : decode cX6_like 19 = .ok (.iconst 1, 1) := by decide +kernel
theorem dX6_like_20 : decode cX6_like 20 = .ok (.ireturn, 1) := by decide +kernel
theorem dX6_like_21 : decode cX6_like 21 = .ok (.aload_n 0, 1) := by decide +kernel
theorem dX6_like_22 : decode cX6_like 22 = .ok (.getfield 47, 3) := by decide +kernel
theorem dX6_like_25 : decode cX6_like 25 = .ok (.iload_n 3, 1) := by decide +kernel
theorem dX6_like_26 : decode cX6_like 26 = .ok (.iaload, 1) := by decide +kernel
theorem dX6_like_27 : decode cX6_like 27 = .ok (.bipush (-9), 2) := by decide +kernel
theorem dX6_like_29 : decode cX6_like 29 = .ok (.if_icmp .eq 37, 3) := by decide +kernel
theorem dX6_like_32 : decode cX6_like 32 = .ok (.aload_n 0, 1) := by decide +kernel
theorem dX6_like_33 : decode cX6_like 33 = .ok (.getfield 47, 3) := by decide +kernel
theorem dX6_like_36 : decode cX6_like 36 = .ok (.iload 4, 2) := by decide +kernel
theorem dX6_like_38 : decode cX6_like 38 = .ok (.iaload, 1) := by decide +kernel
theorem dX6_like_39 : decode cX6_like 39 = .ok (.bipush (-9), 2) := by decide +kernel
theorem dX6_like_41 : decode cX6_like 41 = .ok (.if_icmp .eq 25, 3) := by decide +kernel
theorem dX6_like_44 : decode cX6_like 44 = .ok (.aload_n 0, 1) := by decide +kernel
theorem dX6_like_45 : decode cX6_like 45 = .ok (.getfield 47, 3) := by decide +kernel
theorem dX6_like_48 : decode cX6_like 48 = .ok (.iload_n 3, 1) := by decide +kernel
theorem dX6_like_49 : decode cX6_like 49 = .ok (.iaload, 1) := by decide +kernel
theorem dX6_like_50 : decode cX6_like 50 = .ok (.aload_n 0, 1) := by decide +kernel
theorem dX6_like_51 : decode cX6_like 51 = .ok (.getfield 47, 3) := by decide +kernel
theorem dX6_like_54 : decode cX6_like 54 = .ok (.iload 4, 2) := by decide +kernel
theorem dX6_like_56 : decode cX6_like 56 = .ok (.iaload, 1) := by decide +kernel
theorem dX6_like_57 : decode cX6_like 57 = .ok (.if_icmp .ne 7, 3) := by decide +kernel
theorem dX6_like_60 : decode cX6_like 60 = .ok (.iconst 1, 1) := by decide +kernel
theorem dX6_like_61 : decode cX6_like 61 = .ok (.goto 4, 3) := by decide +kernel
theorem dX6_like_64 : decode cX6_like 64 = .ok (.iconst 0, 1) := by decide +kernel
theorem dX6_like_65 : decode cX6_like 65 = .ok (.ireturn, 1) := by decide +kernel
theorem dX6_like_66 : decode cX6_like 66 = .ok (.aload_n 0, 1) := by decide +kernel
theorem dX6_like_67 : decode cX6_like 67 = .ok (.getfield 47, 3) := by decide +kernel
theorem dX6_like_70 : decode cX6_like 70 = .ok (.iload_n 3, 1) := by decide +kernel
theorem dX6_like_71 : decode cX6_like 71 = .ok (.iaload, 1) := by decide +kernel
theorem dX6_like_72 : decode cX6_like 72 = .ok (.bipush (-9), 2) := by decide +kernel
theorem dX6_like_74 : decode cX6_like 74 = .ok (.if_icmp .ne 7, 3) := by decide +kernel
theorem dX6_like_77 : decode cX6_like 77 = .ok (.iload_n 3, 1) := by decide +kernel
theorem dX6_like_78 : decode cX6_like 78 = .ok (.goto 5, 3) := by decide +kernel
theorem dX6_like_81 : decode cX6_like 81 = .ok (.iload 4, 2) := by decide +kernel
theorem dX6_like_83 : decode cX6_like 83 = .ok (.istore 5, 2) := by decide +kernel
theorem dX6_like_85 : decode cX6_like 85 = .ok (.iload 5, 2) := by decide +kernel
theorem dX6_like_87 : decode cX6_like 87 = .ok (.iload_n 3, 1) := by decide +kernel
theorem dX6_like_88 : decode cX6_like 88 = .ok (.if_icmp .ne 8, 3) := by decide +kernel
theorem dX6_like_91 : decode cX6_like 91 = .ok (.iload 4, 2) := by decide +kernel
theorem dX6_like_93 : decode cX6_like 93 = .ok (.goto 4, 3) := by decide +kernel
theorem dX6_like_96 : decode cX6_like 96 = .ok (.iload_n 3, 1) := by decide +kernel
theorem dX6_like_97 : decode cX6_like 97 = .ok (.istore 6, 2) := by decide +kernel
theorem dX6_like_99 : decode cX6_like 99 = .ok (.aload_n 0, 1) := by decide +kernel
theorem dX6_like_100 : decode cX6_like 100 = .ok (.getfield 47, 3) := by decide +kernel
theorem dX6_like_103 : decode cX6_like 103 = .ok (.iload 6, 2) := by decide +kernel
theorem dX6_like_105 : decode cX6_like 105 = .ok (.iaload, 1) := by decide +kernel
theorem dX6_like_106 : decode cX6_like 106 = .ok (.ifCond .lt 24, 3) := by decide +kernel
theorem dX6_like_109 : decode cX6_like 109 = .ok (.aload_n 0, 1) := by decide +kernel
theorem dX6_like_110 : decode cX6_like 110 = .ok (.iload 5, 2) := by decide +kernel
theorem dX6_like_112 : decode cX6_like 112 = .ok (.aload_n 0, 1) := by decide +kernel
theorem dX6_like_113 : decode cX6_like 113 = .ok (.getfield 47, 3) := by decide +kernel
theorem dX6_like_116 : decode cX6_like 116 = .ok (.iload 6, 2) := by decide +kernel
theorem dX6_like_118 : decode cX6_like 118 = .ok (.iaload, 1) := by decide +kernel
theorem dX6_like_119 : decode cX6_like 119 = .ok (.bipush 10, 2) := by decide +kernel
theorem dX6_like_121 : decode cX6_like 121 = .ok (.idiv, 1) := by decide +kernel
theorem dX6_like_122 : decode cX6_like 122 = .ok (.invokevirtual 105, 3) := by decide +kernel
theorem dX6_like_125 : decode cX6_like 125 = .ok (.ifCond .eq 5, 3) := by decide +kernel
theorem dX6_like_128 : decode cX6_like 128 = .ok (.iconst 0, 1) := by decide +kernel
theorem dX6_like_129 : decode cX6_like 129 = .ok (.ireturn, 1) := by decide +kernel
theorem dX6_like_130 : decode cX6_like 130 = .ok (.aload_n 0, 1) := by decide +kernel
theorem dX6_like_131 : decode cX6_like 131 = .ok (.getfield 44, 3) := by decide +kernel
theorem dX6_like_134 : decode cX6_like 134 = .ok (.iload 5, 2) := by decide +kernel
theorem dX6_like_136 : decode cX6_like 136 = .ok (.iload 6, 2) := by decide +kernel
theorem dX6_like_138 : decode cX6_like 138 = .ok (.iastore, 1) := by decide +kernel
theorem dX6_like_139 : decode cX6_like 139 = .ok (.iconst 1, 1) := by decide +kernel
theorem dX6_like_140 : decode cX6_like 140 = .ok (.ireturn, 1) := by decide +kernel
theorem dX6_asks_0 : decode cX6_asks 0 = .ok (.aload_n 1, 1) := by decide +kernel
theorem dX6_asks_1 : decode cX6_asks 1 = .ok (.iconst 1, 1) := by decide +kernel
theorem dX6_asks_2 : decode cX6_asks 2 = .ok (.iload_n 2, 1) := by decide +kernel
theorem dX6_asks_3 : decode cX6_asks 3 = .ok (.iadd, 1) := by decide +kernel
theorem dX6_asks_4 : decode cX6_asks 4 = .ok (.iaload, 1) := by decide +kernel
theorem dX6_asks_5 : decode cX6_asks 5 = .ok (.istore_n 3, 1) := by decide +kernel
theorem dX6_asks_6 : decode cX6_asks 6 = .ok (.aload_n 1, 1) := by decide +kernel
theorem dX6_asks_7 : decode cX6_asks 7 = .ok (.bipush 9, 2) := by decide +kernel
theorem dX6_asks_9 : decode cX6_asks 9 = .ok (.iconst 3, 1) := by decide +kernel
theorem dX6_asks_10 : decode cX6_asks 10 = .ok (.iload_n 2, 1) := by decide +kernel
theorem dX6_asks_11 : decode cX6_asks 11 = .ok (.imul, 1) := by decide +kernel
theorem dX6_asks_12 : decode cX6_asks 12 = .ok (.iadd, 1) := by decide +kernel
theorem dX6_asks_13 : decode cX6_asks 13 = .ok (.iaload, 1) := by decide +kernel
theorem dX6_asks_14 : decode cX6_asks 14 = .ok (.istore 4, 2) := by decide +kernel
theorem dX6_asks_16 : decode cX6_asks 16 = .ok (.aload_n 1, 1) := by decide +kernel
theorem dX6_asks_17 : decode cX6_asks 17 = .ok (.bipush 9, 2) := by decide +kernel
theorem dX6_asks_19 : decode cX6_asks 19 = .ok (.iconst 3, 1) := by decide +kernel
theorem dX6_asks_20 : decode cX6_asks 20 = .ok (.iload_n 2, 1) := by decide +kernel
theorem dX6_asks_21 : decode cX6_asks 21 = .ok (.imul, 1) := by decide +kernel
theorem dX6_asks_22 : decode cX6_asks 22 = .ok (.iadd, 1) := by decide +kernel
theorem dX6_asks_23 : decode cX6_asks 23 = .ok (.iconst 1, 1) := by decide +kernel
theorem dX6_asks_24 : decode cX6_asks 24 = .ok (.iadd, 1) := by decide +kernel
theorem dX6_asks_25 : decode cX6_asks 25 = .ok (.iaload, 1) := by decide +kernel
theorem dX6_asks_26 : decode cX6_asks 26 = .ok (.istore 5, 2) := by decide +kernel
theorem dX6_asks_28 : decode cX6_asks 28 = .ok (.aload_n 1, 1) := by decide +kernel
theorem dX6_asks_29 : decode cX6_asks 29 = .ok (.bipush 9, 2) := by decide +kernel
theorem dX6_asks_31 : decode cX6_asks 31 = .ok (.iconst 3, 1) := by decide +kernel
theorem dX6_asks_32 : decode cX6_asks 32 = .ok (.iload_n 2, 1) := by decide +kernel
theorem dX6_asks_33 : decode cX6_asks 33 = .ok (.imul, 1) := by decide +kernel
theorem dX6_asks_34 : decode cX6_asks 34 = .ok (.iadd, 1) := by decide +kernel
theorem dX6_asks_35 : decode cX6_asks 35 = .ok (.iconst 2, 1) := by decide +kernel
theorem dX6_asks_36 : decode cX6_asks 36 = .ok (.iadd, 1) := by decide +kernel
theorem dX6_asks_37 : decode cX6_asks 37 = .ok (.iaload, 1) := by decide +kernel
theorem dX6_asks_38 : decode cX6_asks 38 = .ok (.istore 6, 2) := by decide +kernel
theorem dX6_asks_40 : decode cX6_asks 40 = .ok (.iload_n 3, 1) := by decide +kernel
theorem dX6_asks_41 : decode cX6_asks 41 = .ok (.tableswitch 232 0 11 #[63, 70, 232, 232, 232, 72, 108, 116, 232, 124, 156, 186], 63) := by decide +kernel
theorem dX6_asks_104 : decode cX6_asks 104 = .ok (.aload_n 0, 1) := by decide +kernel
theorem dX6_asks_105 : decode cX6_asks 105 = .ok (.iload_n 2, 1) := by decide +kernel
theorem dX6_asks_106 : decode cX6_asks 106 = .ok (.iconst (-1), 1) := by decide +kernel
theorem dX6_asks_107 : decode cX6_asks 107 = .ok (.invokevirtual 108, 3) := by decide +kernel
theorem dX6_asks_110 : decode cX6_asks 110 = .ok (.ireturn, 1) := by decide +kernel
theorem dX6_asks_111 : decode cX6_asks 111 = .ok (.iconst 1, 1) := by decide +kernel
theorem dX6_asks_112 : decode cX6_asks 112 = .ok (.ireturn, 1) := by decide +kernel
theorem dX6_asks_113 : decode cX6_asks 113 = .ok (.aload_n 0, 1) := by decide +kernel
theorem dX6_asks_114 : decode cX6_asks 114 = .ok (.iload_n 2, 1) := by decide +kernel
theorem dX6_asks_115 : decode cX6_asks 115 = .ok (.iload 4, 2) := by decide +kernel
theorem dX6_asks_117 : decode cX6_asks 117 = .ok (.invokevirtual 111, 3) := by decide +kernel
theorem dX6_asks_120 : decode cX6_asks 120 = .ok (.ifCond .eq 27, 3) := by decide +kernel
theorem dX6_asks_123 : decode cX6_asks 123 = .ok (.aload_n 0, 1) := by decide +kernel
theorem dX6_asks_124 : decode cX6_asks 124 = .ok (.iload_n 2, 1) := by decide +kernel
theorem dX6_asks_125 : decode cX6_asks 125 = .ok (.iload 5, 2) := by decide +kernel
theorem dX6_asks_127 : decode cX6_asks 127 = .ok (.invokevirtual 111, 3) := by decide +kernel
theorem dX6_asks_130 : decode cX6_asks 130 = .ok (.ifCond .eq 17, 3) := by decide +kernel
theorem dX6_asks_133 : decode cX6_asks 133 = .ok (.aload_n 0, 1) := by decide +kernel
theorem dX6_asks_134 : decode cX6_asks 134 = .ok (.iload_n 2, 1) := by decide +kernel
theorem dX6_asks_135 : decode cX6_asks 135 = .ok (.iload 6, 2) := by decide +kernel
theorem dX6_asks_137 : decode cX6_asks 137 = .ok (.invokevirtual 111, 3) := by decide +kernel
theorem dX6_asks_140 : decode cX6_asks 140 = .ok (.ifCond .eq 7, 3) := by decide +kernel
theorem dX6_asks_143 : decode cX6_asks 143 = .ok (.iconst 1, 1) := by decide +kernel
theorem dX6_asks_144 : decode cX6_asks 144 = .ok (.goto 4, 3) := by decide +kernel
theorem dX6_asks_147 : decode cX6_asks 147 = .ok (.iconst 0, 1) := by decide +kernel
theorem dX6_asks_148 : decode cX6_asks 148 = .ok (.ireturn, 1) := by decide +kernel
theorem dX6_asks_149 : decode cX6_asks 149 = .ok (.aload_n 0, 1) := by decide +kernel
theorem dX6_asks_150 : decode cX6_asks 150 = .ok (.iload_n 2, 1) := by decide +kernel
theorem dX6_asks_151 : decode cX6_asks 151 = .ok (.iload 5, 2) := by decide +kernel
theorem dX6_asks_153 : decode cX6_asks 153 = .ok (.invokevirtual 111, 3) := by decide +kernel
theorem dX6_asks_156 : decode cX6_asks 156 = .ok (.ireturn, 1) := by decide +kernel
theorem dX6_asks_157 : decode cX6_asks 157 = .ok (.aload_n 0, 1) := by decide +kernel
theorem dX6_asks_158 : decode cX6_asks 158 = .ok (.iload_n 2, 1) := by decide +kernel
theorem dX6_asks_159 : decode cX6_asks 159 = .ok (.iload 4, 2) := by decide +kernel
theorem dX6_asks_161 : decode cX6_asks 161 = .ok (.invokevirtual 111, 3) := by decide +kernel
theorem dX6_asks_164 : decode cX6_asks 164 = .ok (.ireturn, 1) := by decide +kernel
theorem dX6_asks_165 : decode cX6_asks 165 = .ok (.aload_n 0, 1) := by decide +kernel
theorem dX6_asks_166 : decode cX6_asks 166 = .ok (.iload 4, 2) := by decide +kernel
theorem dX6_asks_168 : decode cX6_asks 168 = .ok (.iload 5, 2) := by decide +kernel
theorem dX6_asks_170 : decode cX6_asks 170 = .ok (.invokevirtual 111, 3) := by decide +kernel
theorem dX6_asks_173 : decode cX6_asks 173 = .ok (.ifCond .eq 22, 3) := by decide +kernel
theorem dX6_asks_176 : decode cX6_asks 176 = .ok (.aload_n 0, 1) := by decide +kernel
theorem dX6_asks_177 : decode cX6_asks 177 = .ok (.iload_n 2, 1) := by decide +kernel
theorem dX6_asks_178 : decode cX6_asks 178 = .ok (.bipush 10, 2) := by decide +kernel
theorem dX6_asks_180 : decode cX6_asks 180 = .ok (.iload 5, 2) := by decide +kernel
theorem dX6_asks_182 : decode cX6_asks 182 = .ok (.imul, 1) := by decide +kernel
theorem dX6_asks_183 : decode cX6_asks 183 = .ok (.iconst 1, 1) := by decide +kernel
theorem dX6_asks_184 : decode cX6_asks 184 = .ok (.iadd, 1) := by decide +kernel
theorem dX6_asks_185 : decode cX6_asks 185 = .ok (.invokevirtual 108, 3) := by decide +kernel
theorem dX6_asks_188 : decode cX6_asks 188 = .ok (.ifCond .eq 7, 3) := by decide +kernel
theorem dX6_asks_191 : decode cX6_asks 191 = .ok (.iconst 1, 1) := by decide +kernel
theorem dX6_asks_192 : decode cX6_asks 192 = .ok (.goto 4, 3) := by decide +kernel
theorem dX6_asks_195 : decode cX6_asks 195 = .ok (.iconst 0, 1) := by decide +kernel
theorem dX6_asks_196 : decode cX6_asks 196 = .ok (.ireturn, 1) := by decide +kernel
theorem dX6_asks_197 : decode cX6_asks 197 = .ok (.aload_n 0, 1) := by decide +kernel
theorem dX6_asks_198 : decode cX6_asks 198 = .ok (.iload 4, 2) := by decide +kernel
theorem dX6_asks_200 : decode cX6_asks 200 = .ok (.iload 5, 2) := by decide +kernel
theorem dX6_asks_202 : decode cX6_asks 202 = .ok (.invokevirtual 111, 3) := by decide +kernel
theorem dX6_asks_205 : decode cX6_asks 205 = .ok (.ifCond .eq 20, 3) := by decide +kernel
theorem dX6_asks_208 : decode cX6_asks 208 = .ok (.aload_n 0, 1) := by decide +kernel
theorem dX6_asks_209 : decode cX6_asks 209 = .ok (.iload_n 2, 1) := by decide +kernel
theorem dX6_asks_210 : decode cX6_asks 210 = .ok (.bipush 10, 2) := by decide +kernel
theorem dX6_asks_212 : decode cX6_asks 212 = .ok (.iload 5, 2) := by decide +kernel
theorem dX6_asks_214 : decode cX6_asks 214 = .ok (.imul, 1) := by decide +kernel
theorem dX6_asks_215 : decode cX6_asks 215 = .ok (.invokevirtual 108, 3) := by decide +kernel
theorem dX6_asks_218 : decode cX6_asks 218 = .ok (.ifCond .eq 7, 3) := by decide +kernel
theorem dX6_asks_221 : decode cX6_asks 221 = .ok (.iconst 1, 1) := by decide +kernel
theorem dX6_asks_222 : decode cX6_asks 222 = .ok (.goto 4, 3) := by decide +kernel
theorem dX6_asks_225 : decode cX6_asks 225 = .ok (.iconst 0, 1) := by decide +kernel
theorem dX6_asks_226 : decode cX6_asks 226 = .ok (.ireturn, 1) := by decide +kernel
theorem dX6_asks_227 : decode cX6_asks 227 = .ok (.aload_n 0, 1) := by decide +kernel
theorem dX6_asks_228 : decode cX6_asks 228 = .ok (.iload_n 2, 1) := by decide +kernel
theorem dX6_asks_229 : decode cX6_asks 229 = .ok (.iload 4, 2) := by decide +kernel
theorem dX6_asks_231 : decode cX6_asks 231 = .ok (.invokevirtual 111, 3) := by decide +kernel
theorem dX6_asks_234 : decode cX6_asks 234 = .ok (.ifCond .eq 37, 3) := by decide +kernel
theorem dX6_asks_237 : decode cX6_asks 237 = .ok (.aload_n 0, 1) := by decide +kernel
theorem dX6_asks_238 : decode cX6_asks 238 = .ok (.iload 5, 2) := by decide +kernel
theorem dX6_asks_240 : decode cX6_asks 240 = .ok (.bipush 10, 2) := by decide +kernel
theorem dX6_asks_242 : decode cX6_asks 242 = .ok (.iload 4, 2) := by decide +kernel
theorem dX6_asks_244 : decode cX6_asks 244 = .ok (.imul, 1) := by decide +kernel
theorem dX6_asks_245 : decode cX6_asks 245 = .ok (.iconst 1, 1) := by decide +kernel
theorem dX6_asks_246 : decode cX6_asks 246 = .ok (.iadd, 1) := by decide +kernel
theorem dX6_asks_247 : decode cX6_asks 247 = .ok (.invokevirtual 108, 3) := by decide +kernel
theorem dX6_asks_250 : decode cX6_asks 250 = .ok (.ifCond .eq 21, 3) := by decide +kernel
theorem dX6_asks_253 : decode cX6_asks 253 = .ok (.aload_n 0, 1) := by decide +kernel
theorem dX6_asks_254 : decode cX6_asks 254 = .ok (.iload 6, 2) := by decide +kernel
theorem dX6_asks_256 : decode cX6_asks 256 = .ok (.bipush 10, 2) := by decide +kernel
theorem dX6_asks_258 : decode cX6_asks 258 = .ok (.iload 4, 2) := by decide +kernel
theorem dX6_asks_260 : decode cX6_asks 260 = .ok (.imul, 1) := by decide +kernel
theorem dX6_asks_261 : decode cX6_asks 261 = .ok (.invokevirtual 108, 3) := by decide +kernel
theorem dX6_asks_264 : decode cX6_asks 264 = .ok (.ifCond .eq 7, 3) := by decide +kernel
theorem dX6_asks_267 : decode cX6_asks 267 = .ok (.iconst 1, 1) := by decide +kernel
theorem dX6_asks_268 : decode cX6_asks 268 = .ok (.goto 4, 3) := by decide +kernel
theorem dX6_asks_271 : decode cX6_asks 271 = .ok (.iconst 0, 1) := by decide +kernel
theorem dX6_asks_272 : decode cX6_asks 272 = .ok (.ireturn, 1) := by decide +kernel
theorem dX6_asks_273 : decode cX6_asks 273 = .ok (.aload_n 0, 1) := by decide +kernel
theorem dX6_asks_274 : decode cX6_asks 274 = .ok (.iload_n 2, 1) := by decide +kernel
theorem dX6_asks_275 : decode cX6_asks 275 = .ok (.iload 4, 2) := by decide +kernel
theorem dX6_asks_277 : decode cX6_asks 277 = .ok (.invokevirtual 111, 3) := by decide +kernel
theorem dX6_asks_280 : decode cX6_asks 280 = .ok (.ifCond .eq 17, 3) := by decide +kernel
theorem dX6_asks_283 : decode cX6_asks 283 = .ok (.aload_n 0, 1) := by decide +kernel
theorem dX6_asks_284 : decode cX6_asks 284 = .ok (.iload_n 2, 1) := by decide +kernel
theorem dX6_asks_285 : decode cX6_asks 285 = .ok (.iload 5, 2) := by decide +kernel
theorem dX6_asks_287 : decode cX6_asks 287 = .ok (.invokevirtual 111, 3) := by decide +kernel
theorem dX6_asks_290 : decode cX6_asks 290 = .ok (.ifCond .eq 7, 3) := by decide +kernel
theorem dX6_asks_293 : decode cX6_asks 293 = .ok (.iconst 1, 1) := by decide +kernel
theorem dX6_asks_294 : decode cX6_asks 294 = .ok (.goto 4, 3) := by decide +kernel
theorem dX6_asks_297 : decode cX6_asks 297 = .ok (.iconst 0, 1) := by decide +kernel
theorem dX6_asks_298 : decode cX6_asks 298 = .ok (.ireturn, 1) := by decide +kernel
theorem dX6_findClocks_0 : decode cX6_findClocks 0 = .ok (.iconst 0, 1) := by decide +kernel
theorem dX6_findClocks_1 : decode cX6_findClocks 1 = .ok (.istore_n 2, 1) := by decide +kernel
theorem dX6_findClocks_2 : decode cX6_findClocks 2 = .ok (.iload_n 2, 1) := by decide +kernel
theorem dX6_findClocks_3 : decode cX6_findClocks 3 = .ok (.bipush 8, 2) := by decide +kernel
theorem dX6_findClocks_5 : decode cX6_findClocks 5 = .ok (.if_icmp .ge 24, 3) := by decide +kernel
theorem dX6_findClocks_8 : decode cX6_findClocks 8 = .ok (.aload_n 0, 1) := by decide +kernel
theorem dX6_findClocks_9 : decode cX6_findClocks 9 = .ok (.getfield 44, 3) := by decide +kernel
theorem dX6_findClocks_12 : decode cX6_findClocks 12 = .ok (.iload_n 2, 1) := by decide +kernel
theorem dX6_findClocks_13 : decode cX6_findClocks 13 = .ok (.iload_n 2, 1) := by decide +kernel
theorem dX6_findClocks_14 : decode cX6_findClocks 14 = .ok (.iastore, 1) := by decide +kernel
theorem dX6_findClocks_15 : decode cX6_findClocks 15 = .ok (.aload_n 0, 1) := by decide +kernel
theorem dX6_findClocks_16 : decode cX6_findClocks 16 = .ok (.getfield 47, 3) := by decide +kernel
theorem dX6_findClocks_19 : decode cX6_findClocks 19 = .ok (.iload_n 2, 1) := by decide +kernel
theorem dX6_findClocks_20 : decode cX6_findClocks 20 = .ok (.bipush (-9), 2) := by decide +kernel
theorem dX6_findClocks_22 : decode cX6_findClocks 22 = .ok (.iastore, 1) := by decide +kernel
theorem dX6_findClocks_23 : decode cX6_findClocks 23 = .ok (.iinc 2 1, 3) := by decide +kernel
theorem dX6_findClocks_26 : decode cX6_findClocks 26 = .ok (.goto (-24), 3) := by decide +kernel
theorem dX6_findClocks_29 : decode cX6_findClocks 29 = .ok (.aload_n 0, 1) := by decide +kernel
theorem dX6_findClocks_30 : decode cX6_findClocks 30 = .ok (.bipush (-9), 2) := by decide +kernel
theorem dX6_findClocks_32 : decode cX6_findClocks 32 = .ok (.putfield 114, 3) := by decide +kernel
theorem dX6_findClocks_35 : decode cX6_findClocks 35 = .ok (.iconst 0, 1) := by decide +kernel
theorem dX6_findClocks_36 : decode cX6_findClocks 36 = .ok (.istore_n 2, 1) := by decide +kernel
theorem dX6_findClocks_37 : decode cX6_findClocks 37 = .ok (.iload_n 2, 1) := by decide +kernel
theorem dX6_findClocks_38 : decode cX6_findClocks 38 = .ok (.aload_n 1, 1) := by decide +kernel
theorem dX6_findClocks_39 : decode cX6_findClocks 39 = .ok (.iconst 0, 1) := by decide +kernel
theorem dX6_findClocks_40 : decode cX6_findClocks 40 = .ok (.iaload, 1) := by decide +kernel
theorem dX6_findClocks_41 : decode cX6_findClocks 41 = .ok (.if_icmp .ge 37, 3) := by decide +kernel
theorem dX6_findClocks_44 : decode cX6_findClocks 44 = .ok (.aload_n 0, 1) := by decide +kernel
theorem dX6_findClocks_45 : decode cX6_findClocks 45 = .ok (.getfield 114, 3) := by decide +kernel
theorem dX6_findClocks_48 : decode cX6_findClocks 48 = .ok (.bipush (-9), 2) := by decide +kernel
theorem dX6_findClocks_50 : decode cX6_findClocks 50 = .ok (.if_icmp .ne 28, 3) := by decide +kernel
theorem dX6_findClocks_53 : decode cX6_findClocks 53 = .ok (.aload_n 0, 1) := by decide +kernel
theorem dX6_findClocks_54 : decode cX6_findClocks 54 = .ok (.aload_n 0, 1) := by decide +kernel
theorem dX6_findClocks_55 : decode cX6_findClocks 55 = .ok (.aload_n 1, 1) := by decide +kernel
theorem dX6_findClocks_56 : decode cX6_findClocks 56 = .ok (.iload_n 2, 1) := by decide +kernel
theorem dX6_findClocks_57 : decode cX6_findClocks 57 = .ok (.invokevirtual 117, 3) := by decide +kernel
theorem dX6_findClocks_60 : decode cX6_findClocks 60 = .ok (.ifCond .eq 8, 3) := by decide +kernel
theorem dX6_findClocks_63 : decode cX6_findClocks 63 = .ok (.bipush (-9), 2) := by decide +kernel
theorem dX6_findClocks_65 : decode cX6_findClocks 65 = .ok (.goto 4, 3) := by decide +kernel
theorem dX6_findClocks_68 : decode cX6_findClocks 68 = .ok (.iload_n 2, 1) := by decide +kernel
theorem dX6_findClocks_69 : decode cX6_findClocks 69 = .ok (.putfield 114, 3) := by decide +kernel
theorem dX6_findClocks_72 : decode cX6_findClocks 72 = .ok (.iinc 2 1, 3) := by decide +kernel
theorem dX6_findClocks_75 : decode cX6_findClocks 75 = .ok (.goto (-38), 3) := by decide +kernel
theorem dX6_findClocks_78 : decode cX6_findClocks 78 = .ok (.return_, 1) := by decide +kernel
theorem dX6_clocks_0 : decode cX6_clocks 0 = .ok (.iconst 0, 1) := by decide +kernel
theorem dX6_clocks_1 : decode cX6_clocks 1 = .ok (.istore_n 2, 1) := by decide +kernel
theorem dX6_clocks_2 : decode cX6_clocks 2 = .ok (.aload_n 0, 1) := by decide +kernel
theorem dX6_clocks_3 : decode cX6_clocks 3 = .ok (.iload_n 1, 1) := by decide +kernel
theorem dX6_clocks_4 : decode cX6_clocks 4 = .ok (.invokevirtual 102, 3) := by decide +kernel
theorem dX6_clocks_7 : decode cX6_clocks 7 = .ok (.istore_n 3, 1) := by decide +kernel
theorem dX6_clocks_8 : decode cX6_clocks 8 = .ok (.aload_n 0, 1) := by decide +kernel
theorem dX6_clocks_9 : decode cX6_clocks 9 = .ok (.getfield 47, 3) := by decide +kernel
theorem dX6_clocks_12 : decode cX6_clocks 12 = .ok (.iload_n 3, 1) := by decide +kernel
theorem dX6_clocks_13 : decode cX6_clocks 13 = .ok (.iaload, 1) := by decide +kernel
theorem dX6_clocks_14 : decode cX6_clocks 14 = .ok (.ifCond .lt 35, 3) := by decide +kernel
theorem dX6_clocks_17 : decode cX6_clocks 17 = .ok (.aload_n 0, 1) := by decide +kernel
theorem dX6_clocks_18 : decode cX6_clocks 18 = .ok (.getfield 56, 3) := by decide +kernel
theorem dX6_clocks_21 : decode cX6_clocks 21 = .ok (.iload_n 2, 1) := by decide +kernel
theorem dX6_clocks_22 : decode cX6_clocks 22 = .ok (.aload_n 0, 1) := by decide +kernel
theorem dX6_clocks_23 : decode cX6_clocks 23 = .ok (.getfield 47, 3) := by decide +kernel
theorem dX6_clocks_26 : decode cX6_clocks 26 = .ok (.iload_n 3, 1) := by decide +kernel
theorem dX6_clocks_27 : decode cX6_clocks 27 = .ok (.iaload, 1) := by decide +kernel
theorem dX6_clocks_28 : decode cX6_clocks 28 = .ok (.iastore, 1) := by decide +kernel
theorem dX6_clocks_29 : decode cX6_clocks 29 = .ok (.iinc 2 1, 3) := by decide +kernel
theorem dX6_clocks_32 : decode cX6_clocks 32 = .ok (.aload_n 0, 1) := by decide +kernel
theorem dX6_clocks_33 : decode cX6_clocks 33 = .ok (.aload_n 0, 1) := by decide +kernel
theorem dX6_clocks_34 : decode cX6_clocks 34 = .ok (.getfield 47, 3) := by decide +kernel
theorem dX6_clocks_37 : decode cX6_clocks 37 = .ok (.iload_n 3, 1) := by decide +kernel
theorem dX6_clocks_38 : decode cX6_clocks 38 = .ok (.iaload, 1) := by decide +kernel
theorem dX6_clocks_39 : decode cX6_clocks 39 = .ok (.bipush 10, 2) := by decide +kernel
theorem dX6_clocks_41 : decode cX6_clocks 41 = .ok (.idiv, 1) := by decide +kernel
theorem dX6_clocks_42 : decode cX6_clocks 42 = .ok (.invokevirtual 102, 3) := by decide +kernel
theorem dX6_clocks_45 : decode cX6_clocks 45 = .ok (.istore_n 3, 1) := by decide +kernel
theorem dX6_clocks_46 : decode cX6_clocks 46 = .ok (.goto (-38), 3) := by decide +kernel
theorem dX6_clocks_49 : decode cX6_clocks 49 = .ok (.iload_n 2, 1) := by decide +kernel
theorem dX6_clocks_50 : decode cX6_clocks 50 = .ok (.ireturn, 1) := by decide +kernel
theorem dX6_waits_0 : decode cX6_waits 0 = .ok (.iconst 0, 1) := by decide +kernel
theorem dX6_waits_1 : decode cX6_waits 1 = .ok (.istore_n 3, 1) := by decide +kernel
theorem dX6_waits_2 : decode cX6_waits 2 = .ok (.aload_n 1, 1) := by decide +kernel
theorem dX6_waits_3 : decode cX6_waits 3 = .ok (.iconst 1, 1) := by decide +kernel
theorem dX6_waits_4 : decode cX6_waits 4 = .ok (.iload_n 2, 1) := by decide +kernel
theorem dX6_waits_5 : decode cX6_waits 5 = .ok (.iadd, 1) := by decide +kernel
theorem dX6_waits_6 : decode cX6_waits 6 = .ok (.iaload, 1) := by decide +kernel
theorem dX6_waits_7 : decode cX6_waits 7 = .ok (.istore 4, 2) := by decide +kernel
theorem dX6_waits_9 : decode cX6_waits 9 = .ok (.iconst 0, 1) := by decide +kernel
theorem dX6_waits_10 : decode cX6_waits 10 = .ok (.istore 5, 2) := by decide +kernel
theorem dX6_waits_12 : decode cX6_waits 12 = .ok (.iload 5, 2) := by decide +kernel
theorem dX6_waits_14 : decode cX6_waits 14 = .ok (.iconst 3, 1) := by decide +kernel
theorem dX6_waits_15 : decode cX6_waits 15 = .ok (.if_icmp .ge 50, 3) := by decide +kernel
theorem dX6_waits_18 : decode cX6_waits 18 = .ok (.iload 4, 2) := by decide +kernel
theorem dX6_waits_20 : decode cX6_waits 20 = .ok (.bipush 6, 2) := by decide +kernel
theorem dX6_waits_22 : decode cX6_waits 22 = .ok (.if_icmp .eq 43, 3) := by decide +kernel
theorem dX6_waits_25 : decode cX6_waits 25 = .ok (.iload 4, 2) := by decide +kernel
theorem dX6_waits_27 : decode cX6_waits 27 = .ok (.bipush 7, 2) := by decide +kernel
theorem dX6_waits_29 : decode cX6_waits 29 = .ok (.if_icmp .eq 36, 3) := by decide +kernel
theorem dX6_waits_32 : decode cX6_waits 32 = .ok (.aload_n 1, 1) := by decide +kernel
theorem dX6_waits_33 : decode cX6_waits 33 = .ok (.iload_n 2, 1) := by decide +kernel
theorem dX6_waits_34 : decode cX6_waits 34 = .ok (.iload 5, 2) := by decide +kernel
theorem dX6_waits_36 : decode cX6_waits 36 = .ok (.invokestatic 121, 3) := by decide +kernel
theorem dX6_waits_39 : decode cX6_waits 39 = .ok (.istore 6, 2) := by decide +kernel
theorem dX6_waits_41 : decode cX6_waits 41 = .ok (.iload_n 3, 1) := by decide +kernel
theorem dX6_waits_42 : decode cX6_waits 42 = .ok (.iload 6, 2) := by decide +kernel
theorem dX6_waits_44 : decode cX6_waits 44 = .ok (.bipush (-9), 2) := by decide +kernel
theorem dX6_waits_46 : decode cX6_waits 46 = .ok (.if_icmp .ne 7, 3) := by decide +kernel
theorem dX6_waits_49 : decode cX6_waits 49 = .ok (.iconst 0, 1) := by decide +kernel
theorem dX6_waits_50 : decode cX6_waits 50 = .ok (.goto 7, 3) := by decide +kernel
theorem dX6_waits_53 : decode cX6_waits 53 = .ok (.iconst 1, 1) := by decide +kernel
theorem dX6_waits_54 : decode cX6_waits 54 = .ok (.iload 6, 2) := by decide +kernel
theorem dX6_waits_56 : decode cX6_waits 56 = .ok (.ishl, 1) := by decide +kernel
theorem dX6_waits_57 : decode cX6_waits 57 = .ok (.ior, 1) := by decide +kernel
theorem dX6_waits_58 : decode cX6_waits 58 = .ok (.istore_n 3, 1) := by decide +kernel
theorem dX6_waits_59 : decode cX6_waits 59 = .ok (.iinc 5 1, 3) := by decide +kernel
theorem dX6_waits_62 : decode cX6_waits 62 = .ok (.goto (-50), 3) := by decide +kernel
theorem dX6_waits_65 : decode cX6_waits 65 = .ok (.aload_n 0, 1) := by decide +kernel
theorem dX6_waits_66 : decode cX6_waits 66 = .ok (.iload_n 2, 1) := by decide +kernel
theorem dX6_waits_67 : decode cX6_waits 67 = .ok (.invokevirtual 125, 3) := by decide +kernel
theorem dX6_waits_70 : decode cX6_waits 70 = .ok (.istore 5, 2) := by decide +kernel
theorem dX6_waits_72 : decode cX6_waits 72 = .ok (.iconst 0, 1) := by decide +kernel
theorem dX6_waits_73 : decode cX6_waits 73 = .ok (.istore 6, 2) := by decide +kernel
theorem dX6_waits_75 : decode cX6_waits 75 = .ok (.iload 6, 2) := by decide +kernel
theorem dX6_waits_77 : decode cX6_waits 77 = .ok (.iload 5, 2) := by decide +kernel
theorem dX6_waits_79 : decode cX6_waits 79 = .ok (.if_icmp .ge 24, 3) := by decide +kernel
theorem dX6_waits_82 : decode cX6_waits 82 = .ok (.iload_n 3, 1) := by decide +kernel
theorem dX6_waits_83 : decode cX6_waits 83 = .ok (.iconst 1, 1) := by decide +kernel
theorem dX6_waits_84 : decode cX6_waits 84 = .ok (.aload_n 0, 1) := by decide +kernel
theorem dX6_waits_85 : decode cX6_waits 85 = .ok (.getfield 56, 3) := by decide +kernel
theorem dX6_waits_88 : decode cX6_waits 88 = .ok (.iload 6, 2) := by decide +kernel
theorem dX6_waits_90 : decode cX6_waits 90 = .ok (.iaload, 1) := by decide +kernel
theorem dX6_waits_91 : decode cX6_waits 91 = .ok (.bipush 10, 2) := by decide +kernel
theorem dX6_waits_93 : decode cX6_waits 93 = .ok (.idiv, 1) := by decide +kernel
theorem dX6_waits_94 : decode cX6_waits 94 = .ok (.ishl, 1) := by decide +kernel
theorem dX6_waits_95 : decode cX6_waits 95 = .ok (.ior, 1) := by decide +kernel
theorem dX6_waits_96 : decode cX6_waits 96 = .ok (.istore_n 3, 1) := by decide +kernel
theorem dX6_waits_97 : decode cX6_waits 97 = .ok (.iinc 6 1, 3) := by decide +kernel
theorem dX6_waits_100 : decode cX6_waits 100 = .ok (.goto (-25), 3) := by decide +kernel
theorem dX6_waits_103 : decode cX6_waits 103 = .ok (.iload_n 3, 1) := by decide +kernel
theorem dX6_waits_104 : decode cX6_waits 104 = .ok (.ireturn, 1) := by decide +kernel
theorem dX6_findOrder_0 : decode cX6_findOrder 0 = .ok (.iconst 0, 1) := by decide +kernel
theorem dX6_findOrder_1 : decode cX6_findOrder 1 = .ok (.istore_n 2, 1) := by decide +kernel
theorem dX6_findOrder_2 : decode cX6_findOrder 2 = .ok (.iconst 0, 1) := by decide +kernel
theorem dX6_findOrder_3 : decode cX6_findOrder 3 = .ok (.istore_n 3, 1) := by decide +kernel
theorem dX6_findOrder_4 : decode cX6_findOrder 4 = .ok (.iconst 0, 1) := by decide +kernel
theorem dX6_findOrder_5 : decode cX6_findOrder 5 = .ok (.istore 4, 2) := by decide +kernel
theorem dX6_findOrder_7 : decode cX6_findOrder 7 = .ok (.iload 4, 2) := by decide +kernel
theorem dX6_findOrder_9 : decode cX6_findOrder 9 = .ok (.bipush 8, 2) := by decide +kernel
theorem dX6_findOrder_11 : decode cX6_findOrder 11 = .ok (.if_icmp .ge 18, 3) := by decide +kernel
theorem dX6_findOrder_14 : decode cX6_findOrder 14 = .ok (.aload_n 0, 1) := by decide +kernel
theorem dX6_findOrder_15 : decode cX6_findOrder 15 = .ok (.getfield 50, 3) := by decide +kernel
theorem dX6_findOrder_18 : decode cX6_findOrder 18 = .ok (.iload 4, 2) := by decide +kernel
theorem dX6_findOrder_20 : decode cX6_findOrder 20 = .ok (.bipush (-9), 2) := by decide +kernel
theorem dX6_findOrder_22 : decode cX6_findOrder 22 = .ok (.iastore, 1) := by decide +kernel
theorem dX6_findOrder_23 : decode cX6_findOrder 23 = .ok (.iinc 4 1, 3) := by decide +kernel
theorem dX6_findOrder_26 : decode cX6_findOrder 26 = .ok (.goto (-19), 3) := by decide +kernel
theorem dX6_findOrder_29 : decode cX6_findOrder 29 = .ok (.iconst 1, 1) := by decide +kernel
theorem dX6_findOrder_30 : decode cX6_findOrder 30 = .ok (.istore 4, 2) := by decide +kernel
theorem dX6_findOrder_32 : decode cX6_findOrder 32 = .ok (.iload 4, 2) := by decide +kernel
theorem dX6_findOrder_34 : decode cX6_findOrder 34 = .ok (.ifCond .eq 97, 3) := by decide +kernel
theorem dX6_findOrder_37 : decode cX6_findOrder 37 = .ok (.bipush (-9), 2) := by decide +kernel
theorem dX6_findOrder_39 : decode cX6_findOrder 39 = .ok (.istore 5, 2) := by decide +kernel
theorem dX6_findOrder_41 : decode cX6_findOrder 41 = .ok (.aload_n 1, 1) := by decide +kernel
theorem dX6_findOrder_42 : decode cX6_findOrder 42 = .ok (.iconst 0, 1) := by decide +kernel
theorem dX6_findOrder_43 : decode cX6_findOrder 43 = .ok (.iaload, 1) := by decide +kernel
theorem dX6_findOrder_44 : decode cX6_findOrder 44 = .ok (.iconst 1, 1) := by decide +kernel
theorem dX6_findOrder_45 : decode cX6_findOrder 45 = .ok (.isub, 1) := by decide +kernel
theorem dX6_findOrder_46 : decode cX6_findOrder 46 = .ok (.istore 6, 2) := by decide +kernel
theorem dX6_findOrder_48 : decode cX6_findOrder 48 = .ok (.iload 6, 2) := by decide +kernel
theorem dX6_findOrder_50 : decode cX6_findOrder 50 = .ok (.ifCond .lt 41, 3) := by decide +kernel
theorem dX6_findOrder_53 : decode cX6_findOrder 53 = .ok (.iload_n 2, 1) := by decide +kernel
theorem dX6_findOrder_54 : decode cX6_findOrder 54 = .ok (.iload 6, 2) := by decide +kernel
theorem dX6_findOrder_56 : decode cX6_findOrder 56 = .ok (.invokestatic 128, 3) := by decide +kernel
theorem dX6_findOrder_59 : decode cX6_findOrder 59 = .ok (.ifCond .ne 22, 3) := by decide +kernel
theorem dX6_findOrder_62 : decode cX6_findOrder 62 = .ok (.aload_n 0, 1) := by decide +kernel
theorem dX6_findOrder_63 : decode cX6_findOrder 63 = .ok (.aload_n 1, 1) := by decide +kernel
theorem dX6_findOrder_64 : decode cX6_findOrder 64 = .ok (.iload 6, 2) := by decide +kernel
theorem dX6_findOrder_66 : decode cX6_findOrder 66 = .ok (.invokevirtual 131, 3) := by decide +kernel
theorem dX6_findOrder_69 : decode cX6_findOrder 69 = .ok (.iload_n 2, 1) := by decide +kernel
theorem dX6_findOrder_70 : decode cX6_findOrder 70 = .ok (.iconst (-1), 1) := by decide +kernel
theorem dX6_findOrder_71 : decode cX6_findOrder 71 = .ok (.ixor, 1) := by decide +kernel
theorem dX6_findOrder_72 : decode cX6_findOrder 72 = .ok (.iand, 1) := by decide +kernel
theorem dX6_findOrder_73 : decode cX6_findOrder 73 = .ok (.ifCond .ne 8, 3) := by decide +kernel
theorem dX6_findOrder_76 : decode cX6_findOrder 76 = .ok (.iload 6, 2) := by decide +kernel
theorem dX6_findOrder_78 : decode cX6_findOrder 78 = .ok (.goto 5, 3) := by decide +kernel
theorem dX6_findOrder_81 : decode cX6_findOrder 81 = .ok (.iload 5, 2) := by decide +kernel
theorem dX6_findOrder_83 : decode cX6_findOrder 83 = .ok (.istore 5, 2) := by decide +kernel
theorem dX6_findOrder_85 : decode cX6_findOrder 85 = .ok (.iinc 6 (-1), 3) := by decide +kernel
theorem dX6_findOrder_88 : decode cX6_findOrder 88 = .ok (.goto (-40), 3) := by decide +kernel
theorem dX6_findOrder_91 : decode cX6_findOrder 91 = .ok (.iload 5, 2) := by decide +kernel
theorem dX6_findOrder_93 : decode cX6_findOrder 93 = .ok (.bipush (-9), 2) := by decide +kernel
theorem dX6_findOrder_95 : decode cX6_findOrder 95 = .ok (.if_icmp .eq 7, 3) := by decide +kernel
theorem dX6_findOrder_98 : decode cX6_findOrder 98 = .ok (.iconst 1, 1) := by decide +kernel
theorem dX6_findOrder_99 : decode cX6_findOrder 99 = .ok (.goto 4, 3) := by decide +kernel
theorem dX6_findOrder_102 : decode cX6_findOrder 102 = .ok (.iconst 0, 1) := by decide +kernel
theorem dX6_findOrder_103 : decode cX6_findOrder 103 = .ok (.istore 4, 2) := by decide +kernel
theorem dX6_findOrder_105 : decode cX6_findOrder 105 = .ok (.iload 4, 2) := by decide +kernel
theorem dX6_findOrder_107 : decode cX6_findOrder 107 = .ok (.ifCond .eq 21, 3) := by decide +kernel
theorem dX6_findOrder_110 : decode cX6_findOrder 110 = .ok (.aload_n 0, 1) := by decide +kernel
theorem dX6_findOrder_111 : decode cX6_findOrder 111 = .ok (.getfield 50, 3) := by decide +kernel
theorem dX6_findOrder_114 : decode cX6_findOrder 114 = .ok (.iload 5, 2) := by decide +kernel
theorem dX6_findOrder_116 : decode cX6_findOrder 116 = .ok (.iload_n 3, 1) := by decide +kernel
theorem dX6_findOrder_117 : decode cX6_findOrder 117 = .ok (.iastore, 1) := by decide +kernel
theorem dX6_findOrder_118 : decode cX6_findOrder 118 = .ok (.iload_n 2, 1) := by decide +kernel
theorem dX6_findOrder_119 : decode cX6_findOrder 119 = .ok (.iconst 1, 1) := by decide +kernel
theorem dX6_findOrder_120 : decode cX6_findOrder 120 = .ok (.iload 5, 2) := by decide +kernel
theorem dX6_findOrder_122 : decode cX6_findOrder 122 = .ok (.ishl, 1) := by decide +kernel
theorem dX6_findOrder_123 : decode cX6_findOrder 123 = .ok (.ior, 1) := by decide +kernel
theorem dX6_findOrder_124 : decode cX6_findOrder 124 = .ok (.istore_n 2, 1) := by decide +kernel
theorem dX6_findOrder_125 : decode cX6_findOrder 125 = .ok (.iinc 3 1, 3) := by decide +kernel
theorem dX6_findOrder_128 : decode cX6_findOrder 128 = .ok (.goto (-96), 3) := by decide +kernel
theorem dX6_findOrder_131 : decode cX6_findOrder 131 = .ok (.aload_n 0, 1) := by decide +kernel
theorem dX6_findOrder_132 : decode cX6_findOrder 132 = .ok (.iconst 1, 1) := by decide +kernel
theorem dX6_findOrder_133 : decode cX6_findOrder 133 = .ok (.aload_n 1, 1) := by decide +kernel
theorem dX6_findOrder_134 : decode cX6_findOrder 134 = .ok (.iconst 0, 1) := by decide +kernel
theorem dX6_findOrder_135 : decode cX6_findOrder 135 = .ok (.iaload, 1) := by decide +kernel
theorem dX6_findOrder_136 : decode cX6_findOrder 136 = .ok (.ishl, 1) := by decide +kernel
theorem dX6_findOrder_137 : decode cX6_findOrder 137 = .ok (.iconst 1, 1) := by decide +kernel
theorem dX6_findOrder_138 : decode cX6_findOrder 138 = .ok (.isub, 1) := by decide +kernel
theorem dX6_findOrder_139 : decode cX6_findOrder 139 = .ok (.iload_n 2, 1) := by decide +kernel
theorem dX6_findOrder_140 : decode cX6_findOrder 140 = .ok (.iconst (-1), 1) := by decide +kernel
theorem dX6_findOrder_141 : decode cX6_findOrder 141 = .ok (.ixor, 1) := by decide +kernel
theorem dX6_findOrder_142 : decode cX6_findOrder 142 = .ok (.iand, 1) := by decide +kernel
theorem dX6_findOrder_143 : decode cX6_findOrder 143 = .ok (.putfield 135, 3) := by decide +kernel
theorem dX6_findOrder_146 : decode cX6_findOrder 146 = .ok (.return_, 1) := by decide +kernel
theorem dX6_isOne_0 : decode cX6_isOne 0 = .ok (.aload_n 1, 1) := by decide +kernel
theorem dX6_isOne_1 : decode cX6_isOne 1 = .ok (.iconst 1, 1) := by decide +kernel
theorem dX6_isOne_2 : decode cX6_isOne 2 = .ok (.iload_n 2, 1) := by decide +kernel
theorem dX6_isOne_3 : decode cX6_isOne 3 = .ok (.iadd, 1) := by decide +kernel
theorem dX6_isOne_4 : decode cX6_isOne 4 = .ok (.iaload, 1) := by decide +kernel
theorem dX6_isOne_5 : decode cX6_isOne 5 = .ok (.istore_n 3, 1) := by decide +kernel
theorem dX6_isOne_6 : decode cX6_isOne 6 = .ok (.iload_n 3, 1) := by decide +kernel
theorem dX6_isOne_7 : decode cX6_isOne 7 = .ok (.bipush 7, 2) := by decide +kernel
theorem dX6_isOne_9 : decode cX6_isOne 9 = .ok (.if_icmp .ne 7, 3) := by decide +kernel
theorem dX6_isOne_12 : decode cX6_isOne 12 = .ok (.iconst 1, 1) := by decide +kernel
theorem dX6_isOne_13 : decode cX6_isOne 13 = .ok (.goto 4, 3) := by decide +kernel
theorem dX6_isOne_16 : decode cX6_isOne 16 = .ok (.iconst 0, 1) := by decide +kernel
theorem dX6_isOne_17 : decode cX6_isOne 17 = .ok (.istore 4, 2) := by decide +kernel
theorem dX6_isOne_19 : decode cX6_isOne 19 = .ok (.iconst 0, 1) := by decide +kernel
theorem dX6_isOne_20 : decode cX6_isOne 20 = .ok (.istore 5, 2) := by decide +kernel
theorem dX6_isOne_22 : decode cX6_isOne 22 = .ok (.iload 5, 2) := by decide +kernel
theorem dX6_isOne_24 : decode cX6_isOne 24 = .ok (.iconst 3, 1) := by decide +kernel
theorem dX6_isOne_25 : decode cX6_isOne 25 = .ok (.if_icmp .ge 91, 3) := by decide +kernel
theorem dX6_isOne_28 : decode cX6_isOne 28 = .ok (.aload_n 1, 1) := by decide +kernel
theorem dX6_isOne_29 : decode cX6_isOne 29 = .ok (.iload_n 2, 1) := by decide +kernel
theorem dX6_isOne_30 : decode cX6_isOne 30 = .ok (.iload 5, 2) := by decide +kernel
theorem dX6_isOne_32 : decode cX6_isOne 32 = .ok (.invokestatic 121, 3) := by decide +kernel
theorem dX6_isOne_35 : decode cX6_isOne 35 = .ok (.istore 6, 2) := by decide +kernel
theorem dX6_isOne_37 : decode cX6_isOne 37 = .ok (.iload_n 3, 1) := by decide +kernel
theorem dX6_isOne_38 : decode cX6_isOne 38 = .ok (.i2l, 1) := by decide +kernel
theorem dX6_isOne_39 : decode cX6_isOne 39 = .ok (.ldc2_w 138, 3) := by decide +kernel
theorem dX6_isOne_42 : decode cX6_isOne 42 = .ok (.ldc2_w 140, 3) := by decide +kernel
theorem dX6_isOne_45 : decode cX6_isOne 45 = .ok (.invokestatic 66, 3) := by decide +kernel
theorem dX6_isOne_48 : decode cX6_isOne 48 = .ok (.ifCond .ne 20, 3) := by decide +kernel
theorem dX6_isOne_51 : decode cX6_isOne 51 = .ok (.iload_n 3, 1) := by decide +kernel
theorem dX6_isOne_52 : decode cX6_isOne 52 = .ok (.bipush 9, 2) := by decide +kernel
theorem dX6_isOne_54 : decode cX6_isOne 54 = .ok (.if_icmp .eq 9, 3) := by decide +kernel
theorem dX6_isOne_57 : decode cX6_isOne 57 = .ok (.iload_n 3, 1) := by decide +kernel
theorem dX6_isOne_58 : decode cX6_isOne 58 = .ok (.bipush 10, 2) := by decide +kernel
theorem dX6_isOne_60 : decode cX6_isOne 60 = .ok (.if_icmp .ne 12, 3) := by decide +kernel
theorem dX6_isOne_63 : decode cX6_isOne 63 = .ok (.iload 5, 2) := by decide +kernel
theorem dX6_isOne_65 : decode cX6_isOne 65 = .ok (.ifCond .ne 7, 3) := by decide +kernel
theorem dX6_isOne_68 : decode cX6_isOne 68 = .ok (.iconst 1, 1) := by decide +kernel
theorem dX6_isOne_69 : decode cX6_isOne 69 = .ok (.goto 4, 3) := by decide +kernel
theorem dX6_isOne_72 : decode cX6_isOne 72 = .ok (.iconst 0, 1) := by decide +kernel
theorem dX6_isOne_73 : decode cX6_isOne 73 = .ok (.istore 7, 2) := by decide +kernel
theorem dX6_isOne_75 : decode cX6_isOne 75 = .ok (.iload 4, 2) := by decide +kernel
theorem dX6_isOne_77 : decode cX6_isOne 77 = .ok (.ifCond .ne 26, 3) := by decide +kernel
theorem dX6_isOne_80 : decode cX6_isOne 80 = .ok (.iload 7, 2) := by decide +kernel
theorem dX6_isOne_82 : decode cX6_isOne 82 = .ok (.ifCond .eq 25, 3) := by decide +kernel
theorem dX6_isOne_85 : decode cX6_isOne 85 = .ok (.iload 6, 2) := by decide +kernel
theorem dX6_isOne_87 : decode cX6_isOne 87 = .ok (.bipush (-9), 2) := by decide +kernel
theorem dX6_isOne_89 : decode cX6_isOne 89 = .ok (.if_icmp .eq 18, 3) := by decide +kernel
theorem dX6_isOne_92 : decode cX6_isOne 92 = .ok (.aload_n 0, 1) := by decide +kernel
theorem dX6_isOne_93 : decode cX6_isOne 93 = .ok (.getfield 53, 3) := by decide +kernel
theorem dX6_isOne_96 : decode cX6_isOne 96 = .ok (.iload 6, 2) := by decide +kernel
theorem dX6_isOne_98 : decode cX6_isOne 98 = .ok (.iaload, 1) := by decide +kernel
theorem dX6_isOne_99 : decode cX6_isOne 99 = .ok (.iconst 1, 1) := by decide +kernel
theorem dX6_isOne_100 : decode cX6_isOne 100 = .ok (.if_icmp .ne 7, 3) := by decide +kernel
theorem dX6_isOne_103 : decode cX6_isOne 103 = .ok (.iconst 1, 1) := by decide +kernel
theorem dX6_isOne_104 : decode cX6_isOne 104 = .ok (.goto 4, 3) := by decide +kernel
theorem dX6_isOne_107 : decode cX6_isOne 107 = .ok (.iconst 0, 1) := by decide +kernel
theorem dX6_isOne_108 : decode cX6_isOne 108 = .ok (.istore 4, 2) := by decide +kernel
theorem dX6_isOne_110 : decode cX6_isOne 110 = .ok (.iinc 5 1, 3) := by decide +kernel
theorem dX6_isOne_113 : decode cX6_isOne 113 = .ok (.goto (-91), 3) := by decide +kernel
theorem dX6_isOne_116 : decode cX6_isOne 116 = .ok (.iload 4, 2) := by decide +kernel
theorem dX6_isOne_118 : decode cX6_isOne 118 = .ok (.ireturn, 1) := by decide +kernel
theorem dX6_findLevels_0 : decode cX6_findLevels 0 = .ok (.iconst 0, 1) := by decide +kernel
theorem dX6_findLevels_1 : decode cX6_findLevels 1 = .ok (.istore_n 2, 1) := by decide +kernel
theorem dX6_findLevels_2 : decode cX6_findLevels 2 = .ok (.iload_n 2, 1) := by decide +kernel
theorem dX6_findLevels_3 : decode cX6_findLevels 3 = .ok (.bipush 8, 2) := by decide +kernel
theorem dX6_findLevels_5 : decode cX6_findLevels 5 = .ok (.if_icmp .ge 16, 3) := by decide +kernel
theorem dX6_findLevels_8 : decode cX6_findLevels 8 = .ok (.aload_n 0, 1) := by decide +kernel
theorem dX6_findLevels_9 : decode cX6_findLevels 9 = .ok (.getfield 53, 3) := by decide +kernel
theorem dX6_findLevels_12 : decode cX6_findLevels 12 = .ok (.iload_n 2, 1) := by decide +kernel
theorem dX6_findLevels_13 : decode cX6_findLevels 13 = .ok (.iconst 0, 1) := by decide +kernel
theorem dX6_findLevels_14 : decode cX6_findLevels 14 = .ok (.iastore, 1) := by decide +kernel
theorem dX6_findLevels_15 : decode cX6_findLevels 15 = .ok (.iinc 2 1, 3) := by decide +kernel
theorem dX6_findLevels_18 : decode cX6_findLevels 18 = .ok (.goto (-16), 3) := by decide +kernel
theorem dX6_findLevels_21 : decode cX6_findLevels 21 = .ok (.iconst 0, 1) := by decide +kernel
theorem dX6_findLevels_22 : decode cX6_findLevels 22 = .ok (.istore_n 2, 1) := by decide +kernel
theorem dX6_findLevels_23 : decode cX6_findLevels 23 = .ok (.iload_n 2, 1) := by decide +kernel
theorem dX6_findLevels_24 : decode cX6_findLevels 24 = .ok (.bipush 8, 2) := by decide +kernel
theorem dX6_findLevels_26 : decode cX6_findLevels 26 = .ok (.if_icmp .ge 49, 3) := by decide +kernel
theorem dX6_findLevels_29 : decode cX6_findLevels 29 = .ok (.iconst 0, 1) := by decide +kernel
theorem dX6_findLevels_30 : decode cX6_findLevels 30 = .ok (.istore_n 3, 1) := by decide +kernel
theorem dX6_findLevels_31 : decode cX6_findLevels 31 = .ok (.iload_n 3, 1) := by decide +kernel
theorem dX6_findLevels_32 : decode cX6_findLevels 32 = .ok (.aload_n 1, 1) := by decide +kernel
theorem dX6_findLevels_33 : decode cX6_findLevels 33 = .ok (.iconst 0, 1) := by decide +kernel
theorem dX6_findLevels_34 : decode cX6_findLevels 34 = .ok (.iaload, 1) := by decide +kernel
theorem dX6_findLevels_35 : decode cX6_findLevels 35 = .ok (.if_icmp .ge 34, 3) := by decide +kernel
theorem dX6_findLevels_38 : decode cX6_findLevels 38 = .ok (.aload_n 0, 1) := by decide +kernel
theorem dX6_findLevels_39 : decode cX6_findLevels 39 = .ok (.getfield 53, 3) := by decide +kernel
theorem dX6_findLevels_42 : decode cX6_findLevels 42 = .ok (.iload_n 3, 1) := by decide +kernel
theorem dX6_findLevels_43 : decode cX6_findLevels 43 = .ok (.aload_n 0, 1) := by decide +kernel
theorem dX6_findLevels_44 : decode cX6_findLevels 44 = .ok (.aload_n 1, 1) := by decide +kernel
theorem dX6_findLevels_45 : decode cX6_findLevels 45 = .ok (.iload_n 3, 1) := by decide +kernel
theorem dX6_findLevels_46 : decode cX6_findLevels 46 = .ok (.invokevirtual 142, 3) := by decide +kernel
theorem dX6_findLevels_49 : decode cX6_findLevels 49 = .ok (.ifCond .eq 7, 3) := by decide +kernel
theorem dX6_findLevels_52 : decode cX6_findLevels 52 = .ok (.iconst 1, 1) := by decide +kernel
theorem dX6_findLevels_53 : decode cX6_findLevels 53 = .ok (.goto 9, 3) := by decide +kernel
theorem dX6_findLevels_56 : decode cX6_findLevels 56 = .ok (.aload_n 0, 1) := by decide +kernel
theorem dX6_findLevels_57 : decode cX6_findLevels 57 = .ok (.getfield 53, 3) := by decide +kernel
theorem dX6_findLevels_60 : decode cX6_findLevels 60 = .ok (.iload_n 3, 1) := by decide +kernel
theorem dX6_findLevels_61 : decode cX6_findLevels 61 = .ok (.iaload, 1) := by decide +kernel
theorem dX6_findLevels_62 : decode cX6_findLevels 62 = .ok (.iastore, 1) := by decide +kernel
theorem dX6_findLevels_63 : decode cX6_findLevels 63 = .ok (.iinc 3 1, 3) := by decide +kernel
theorem dX6_findLevels_66 : decode cX6_findLevels 66 = .ok (.goto (-35), 3) := by decide +kernel
theorem dX6_findLevels_69 : decode cX6_findLevels 69 = .ok (.iinc 2 1, 3) := by decide +kernel
theorem dX6_findLevels_72 : decode cX6_findLevels 72 = .ok (.goto (-49), 3) := by decide +kernel
theorem dX6_findLevels_75 : decode cX6_findLevels 75 = .ok (.return_, 1) := by decide +kernel
theorem dX6_isRaw_0 : decode cX6_isRaw 0 = .ok (.aload_n 1, 1) := by decide +kernel
theorem dX6_isRaw_1 : decode cX6_isRaw 1 = .ok (.iconst 1, 1) := by decide +kernel
theorem dX6_isRaw_2 : decode cX6_isRaw 2 = .ok (.iload_n 2, 1) := by decide +kernel
theorem dX6_isRaw_3 : decode cX6_isRaw 3 = .ok (.iadd, 1) := by decide +kernel
theorem dX6_isRaw_4 : decode cX6_isRaw 4 = .ok (.iaload, 1) := by decide +kernel
theorem dX6_isRaw_5 : decode cX6_isRaw 5 = .ok (.istore_n 3, 1) := by decide +kernel
theorem dX6_isRaw_6 : decode cX6_isRaw 6 = .ok (.iconst 0, 1) := by decide +kernel
theorem dX6_isRaw_7 : decode cX6_isRaw 7 = .ok (.istore 4, 2) := by decide +kernel
theorem dX6_isRaw_9 : decode cX6_isRaw 9 = .ok (.iconst 0, 1) := by decide +kernel
theorem dX6_isRaw_10 : decode cX6_isRaw 10 = .ok (.istore 5, 2) := by decide +kernel
theorem dX6_isRaw_12 : decode cX6_isRaw 12 = .ok (.iload 5, 2) := by decide +kernel
theorem dX6_isRaw_14 : decode cX6_isRaw 14 = .ok (.iconst 3, 1) := by decide +kernel
theorem dX6_isRaw_15 : decode cX6_isRaw 15 = .ok (.if_icmp .ge 107, 3) := by decide +kernel
theorem dX6_isRaw_18 : decode cX6_isRaw 18 = .ok (.aload_n 1, 1) := by decide +kernel
theorem dX6_isRaw_19 : decode cX6_isRaw 19 = .ok (.iload_n 2, 1) := by decide +kernel
theorem dX6_isRaw_20 : decode cX6_isRaw 20 = .ok (.iload 5, 2) := by decide +kernel
theorem dX6_isRaw_22 : decode cX6_isRaw 22 = .ok (.invokestatic 121, 3) := by decide +kernel
theorem dX6_isRaw_25 : decode cX6_isRaw 25 = .ok (.istore 6, 2) := by decide +kernel
theorem dX6_isRaw_27 : decode cX6_isRaw 27 = .ok (.iload_n 3, 1) := by decide +kernel
theorem dX6_isRaw_28 : decode cX6_isRaw 28 = .ok (.bipush 6, 2) := by decide +kernel
theorem dX6_isRaw_30 : decode cX6_isRaw 30 = .ok (.if_icmp .eq 44, 3) := by decide +kernel
theorem dX6_isRaw_33 : decode cX6_isRaw 33 = .ok (.iload_n 3, 1) := by decide +kernel
theorem dX6_isRaw_34 : decode cX6_isRaw 34 = .ok (.bipush 7, 2) := by decide +kernel
theorem dX6_isRaw_36 : decode cX6_isRaw 36 = .ok (.if_icmp .eq 38, 3) := by decide +kernel
theorem dX6_isRaw_39 : decode cX6_isRaw 39 = .ok (.iload_n 3, 1) := by decide +kernel
theorem dX6_isRaw_40 : decode cX6_isRaw 40 = .ok (.bipush 8, 2) := by decide +kernel
theorem dX6_isRaw_42 : decode cX6_isRaw 42 = .ok (.if_icmp .ne 8, 3) := by decide +kernel
theorem dX6_isRaw_45 : decode cX6_isRaw 45 = .ok (.iload 5, 2) := by decide +kernel
theorem dX6_isRaw_47 : decode cX6_isRaw 47 = .ok (.ifCond .eq 27, 3) := by decide +kernel
theorem dX6_isRaw_50 : decode cX6_isRaw 50 = .ok (.iload_n 3, 1) := by decide +kernel
theorem dX6_isRaw_51 : decode cX6_isRaw 51 = .ok (.bipush 9, 2) := by decide +kernel
theorem dX6_isRaw_53 : decode cX6_isRaw 53 = .ok (.if_icmp .eq 9, 3) := by decide +kernel
theorem dX6_isRaw_56 : decode cX6_isRaw 56 = .ok (.iload_n 3, 1) := by decide +kernel
theorem dX6_isRaw_57 : decode cX6_isRaw 57 = .ok (.bipush 10, 2) := by decide +kernel
theorem dX6_isRaw_59 : decode cX6_isRaw 59 = .ok (.if_icmp .ne 9, 3) := by decide +kernel
theorem dX6_isRaw_62 : decode cX6_isRaw 62 = .ok (.iload 5, 2) := by decide +kernel
theorem dX6_isRaw_64 : decode cX6_isRaw 64 = .ok (.iconst 1, 1) := by decide +kernel
theorem dX6_isRaw_65 : decode cX6_isRaw 65 = .ok (.if_icmp .eq 9, 3) := by decide +kernel
theorem dX6_isRaw_68 : decode cX6_isRaw 68 = .ok (.iload_n 3, 1) := by decide +kernel
theorem dX6_isRaw_69 : decode cX6_isRaw 69 = .ok (.bipush 11, 2) := by decide +kernel
theorem dX6_isRaw_71 : decode cX6_isRaw 71 = .ok (.if_icmp .ne 7, 3) := by decide +kernel
theorem dX6_isRaw_74 : decode cX6_isRaw 74 = .ok (.iconst 1, 1) := by decide +kernel
theorem dX6_isRaw_75 : decode cX6_isRaw 75 = .ok (.goto 4, 3) := by decide +kernel
theorem dX6_isRaw_78 : decode cX6_isRaw 78 = .ok (.iconst 0, 1) := by decide +kernel
theorem dX6_isRaw_79 : decode cX6_isRaw 79 = .ok (.istore 7, 2) := by decide +kernel
theorem dX6_isRaw_81 : decode cX6_isRaw 81 = .ok (.iload 4, 2) := by decide +kernel
theorem dX6_isRaw_83 : decode cX6_isRaw 83 = .ok (.ifCond .ne 26, 3) := by decide +kernel
theorem dX6_isRaw_86 : decode cX6_isRaw 86 = .ok (.iload 7, 2) := by decide +kernel
theorem dX6_isRaw_88 : decode cX6_isRaw 88 = .ok (.ifCond .eq 25, 3) := by decide +kernel
theorem dX6_isRaw_91 : decode cX6_isRaw 91 = .ok (.iload 6, 2) := by decide +kernel
theorem dX6_isRaw_93 : decode cX6_isRaw 93 = .ok (.bipush (-9), 2) := by decide +kernel
theorem dX6_isRaw_95 : decode cX6_isRaw 95 = .ok (.if_icmp .eq 18, 3) := by decide +kernel
theorem dX6_isRaw_98 : decode cX6_isRaw 98 = .ok (.aload_n 0, 1) := by decide +kernel
theorem dX6_isRaw_99 : decode cX6_isRaw 99 = .ok (.getfield 53, 3) := by decide +kernel
theorem dX6_isRaw_102 : decode cX6_isRaw 102 = .ok (.iload 6, 2) := by decide +kernel
theorem dX6_isRaw_104 : decode cX6_isRaw 104 = .ok (.iaload, 1) := by decide +kernel
theorem dX6_isRaw_105 : decode cX6_isRaw 105 = .ok (.iconst 1, 1) := by decide +kernel
theorem dX6_isRaw_106 : decode cX6_isRaw 106 = .ok (.if_icmp .ne 7, 3) := by decide +kernel
theorem dX6_isRaw_109 : decode cX6_isRaw 109 = .ok (.iconst 1, 1) := by decide +kernel
theorem dX6_isRaw_110 : decode cX6_isRaw 110 = .ok (.goto 4, 3) := by decide +kernel
theorem dX6_isRaw_113 : decode cX6_isRaw 113 = .ok (.iconst 0, 1) := by decide +kernel
theorem dX6_isRaw_114 : decode cX6_isRaw 114 = .ok (.istore 4, 2) := by decide +kernel
theorem dX6_isRaw_116 : decode cX6_isRaw 116 = .ok (.iinc 5 1, 3) := by decide +kernel
theorem dX6_isRaw_119 : decode cX6_isRaw 119 = .ok (.goto (-107), 3) := by decide +kernel
theorem dX6_isRaw_122 : decode cX6_isRaw 122 = .ok (.iload 4, 2) := by decide +kernel
theorem dX6_isRaw_124 : decode cX6_isRaw 124 = .ok (.ireturn, 1) := by decide +kernel
theorem dX6_find_0 : decode cX6_find 0 = .ok (.aload_n 0, 1) := by decide +kernel
theorem dX6_find_1 : decode cX6_find 1 = .ok (.aload_n 1, 1) := by decide +kernel
theorem dX6_find_2 : decode cX6_find 2 = .ok (.invokevirtual 145, 3) := by decide +kernel
theorem dX6_find_5 : decode cX6_find 5 = .ok (.aload_n 0, 1) := by decide +kernel
theorem dX6_find_6 : decode cX6_find 6 = .ok (.iconst 0, 1) := by decide +kernel
theorem dX6_find_7 : decode cX6_find 7 = .ok (.putfield 135, 3) := by decide +kernel
theorem dX6_find_10 : decode cX6_find 10 = .ok (.aload_n 0, 1) := by decide +kernel
theorem dX6_find_11 : decode cX6_find 11 = .ok (.bipush (-9), 2) := by decide +kernel
theorem dX6_find_13 : decode cX6_find 13 = .ok (.putfield 149, 3) := by decide +kernel
theorem dX6_find_16 : decode cX6_find 16 = .ok (.aload_n 0, 1) := by decide +kernel
theorem dX6_find_17 : decode cX6_find 17 = .ok (.getfield 114, 3) := by decide +kernel
theorem dX6_find_20 : decode cX6_find 20 = .ok (.bipush (-9), 2) := by decide +kernel
theorem dX6_find_22 : decode cX6_find 22 = .ok (.if_icmp .eq 4, 3) := by decide +kernel
theorem dX6_find_25 : decode cX6_find 25 = .ok (.return_, 1) := by decide +kernel
theorem dX6_find_26 : decode cX6_find 26 = .ok (.aload_n 0, 1) := by decide +kernel
theorem dX6_find_27 : decode cX6_find 27 = .ok (.aload_n 1, 1) := by decide +kernel
theorem dX6_find_28 : decode cX6_find 28 = .ok (.invokevirtual 152, 3) := by decide +kernel
theorem dX6_find_31 : decode cX6_find 31 = .ok (.aload_n 0, 1) := by decide +kernel
theorem dX6_find_32 : decode cX6_find 32 = .ok (.aload_n 1, 1) := by decide +kernel
theorem dX6_find_33 : decode cX6_find 33 = .ok (.invokevirtual 155, 3) := by decide +kernel
theorem dX6_find_36 : decode cX6_find 36 = .ok (.aload_n 1, 1) := by decide +kernel
theorem dX6_find_37 : decode cX6_find 37 = .ok (.iconst 0, 1) := by decide +kernel
theorem dX6_find_38 : decode cX6_find 38 = .ok (.iaload, 1) := by decide +kernel
theorem dX6_find_39 : decode cX6_find 39 = .ok (.iconst 1, 1) := by decide +kernel
theorem dX6_find_40 : decode cX6_find 40 = .ok (.isub, 1) := by decide +kernel
theorem dX6_find_41 : decode cX6_find 41 = .ok (.istore_n 2, 1) := by decide +kernel
theorem dX6_find_42 : decode cX6_find 42 = .ok (.iload_n 2, 1) := by decide +kernel
theorem dX6_find_43 : decode cX6_find 43 = .ok (.ifCond .lt 30, 3) := by decide +kernel
theorem dX6_find_46 : decode cX6_find 46 = .ok (.aload_n 0, 1) := by decide +kernel
theorem dX6_find_47 : decode cX6_find 47 = .ok (.aload_n 0, 1) := by decide +kernel
theorem dX6_find_48 : decode cX6_find 48 = .ok (.aload_n 1, 1) := by decide +kernel
theorem dX6_find_49 : decode cX6_find 49 = .ok (.iload_n 2, 1) := by decide +kernel
theorem dX6_find_50 : decode cX6_find 50 = .ok (.invokevirtual 158, 3) := by decide +kernel
theorem dX6_find_53 : decode cX6_find 53 = .ok (.ifCond .eq 7, 3) := by decide +kernel
theorem dX6_find_56 : decode cX6_find 56 = .ok (.iload_n 2, 1) := by decide +kernel
theorem dX6_find_57 : decode cX6_find 57 = .ok (.goto 7, 3) := by decide +kernel
theorem dX6_find_60 : decode cX6_find 60 = .ok (.aload_n 0, 1) := by decide +kernel
theorem dX6_find_61 : decode cX6_find 61 = .ok (.getfield 149, 3) := by decide +kernel
theorem dX6_find_64 : decode cX6_find 64 = .ok (.putfield 149, 3) := by decide +kernel
theorem dX6_find_67 : decode cX6_find 67 = .ok (.iinc 2 (-1), 3) := by decide +kernel
theorem dX6_find_70 : decode cX6_find 70 = .ok (.goto (-28), 3) := by decide +kernel
theorem dX6_find_73 : decode cX6_find 73 = .ok (.return_, 1) := by decide +kernel
theorem dX6_isSound_0 : decode cX6_isSound 0 = .ok (.aload_n 0, 1) := by decide +kernel
theorem dX6_isSound_1 : decode cX6_isSound 1 = .ok (.getfield 114, 3) := by decide +kernel
theorem dX6_isSound_4 : decode cX6_isSound 4 = .ok (.bipush (-9), 2) := by decide +kernel
theorem dX6_isSound_6 : decode cX6_isSound 6 = .ok (.if_icmp .ne 23, 3) := by decide +kernel
theorem dX6_isSound_9 : decode cX6_isSound 9 = .ok (.aload_n 0, 1) := by decide +kernel
theorem dX6_isSound_10 : decode cX6_isSound 10 = .ok (.getfield 135, 3) := by decide +kernel
theorem dX6_isSound_13 : decode cX6_isSound 13 = .ok (.ifCond .ne 16, 3) := by decide +kernel
theorem dX6_isSound_16 : decode cX6_isSound 16 = .ok (.aload_n 0, 1) := by decide +kernel
theorem dX6_isSound_17 : decode cX6_isSound 17 = .ok (.getfield 149, 3) := by decide +kernel
theorem dX6_isSound_20 : decode cX6_isSound 20 = .ok (.bipush (-9), 2) := by decide +kernel
theorem dX6_isSound_22 : decode cX6_isSound 22 = .ok (.if_icmp .ne 7, 3) := by decide +kernel
theorem dX6_isSound_25 : decode cX6_isSound 25 = .ok (.iconst 1, 1) := by decide +kernel
theorem dX6_isSound_26 : decode cX6_isSound 26 = .ok (.goto 4, 3) := by decide +kernel
theorem dX6_isSound_29 : decode cX6_isSound 29 = .ok (.iconst 0, 1) := by decide +kernel
theorem dX6_isSound_30 : decode cX6_isSound 30 = .ok (.ireturn, 1) := by decide +kernel
theorem dX6_soundNow_0 : decode cX6_soundNow 0 = .ok (.aload_n 0, 1) := by decide +kernel
theorem dX6_soundNow_1 : decode cX6_soundNow 1 = .ok (.aload_n 0, 1) := by decide +kernel
theorem dX6_soundNow_2 : decode cX6_soundNow 2 = .ok (.getfield 16, 3) := by decide +kernel
theorem dX6_soundNow_5 : decode cX6_soundNow 5 = .ok (.invokevirtual 161, 3) := by decide +kernel
theorem dX6_soundNow_8 : decode cX6_soundNow 8 = .ok (.aload_n 0, 1) := by decide +kernel
theorem dX6_soundNow_9 : decode cX6_soundNow 9 = .ok (.invokevirtual 164, 3) := by decide +kernel
theorem dX6_soundNow_12 : decode cX6_soundNow 12 = .ok (.ireturn, 1) := by decide +kernel
theorem dX6_goAfresh_0 : decode cX6_goAfresh 0 = .ok (.iconst 0, 1) := by decide +kernel
theorem dX6_goAfresh_1 : decode cX6_goAfresh 1 = .ok (.istore_n 1, 1) := by decide +kernel
theorem dX6_goAfresh_2 : decode cX6_goAfresh 2 = .ok (.iload_n 1, 1) := by decide +kernel
theorem dX6_goAfresh_3 : decode cX6_goAfresh 3 = .ok (.bipush 8, 2) := by decide +kernel
theorem dX6_goAfresh_5 : decode cX6_goAfresh 5 = .ok (.if_icmp .ge 58, 3) := by decide +kernel
theorem dX6_goAfresh_8 : decode cX6_goAfresh 8 = .ok (.aload_n 0, 1) := by decide +kernel
theorem dX6_goAfresh_9 : decode cX6_goAfresh 9 = .ok (.iconst 1, 1) := by decide +kernel
theorem dX6_goAfresh_10 : decode cX6_goAfresh 10 = .ok (.iload_n 1, 1) := by decide +kernel
theorem dX6_goAfresh_11 : decode cX6_goAfresh 11 = .ok (.iadd, 1) := by decide +kernel
theorem dX6_goAfresh_12 : decode cX6_goAfresh 12 = .ok (.iaload, 1) := by decide +kernel
theorem dX6_goAfresh_13 : decode cX6_goAfresh 13 = .ok (.istore_n 2, 1) := by decide +kernel
theorem dX6_goAfresh_14 : decode cX6_goAfresh 14 = .ok (.aload_n 0, 1) := by decide +kernel
theorem dX6_goAfresh_15 : decode cX6_goAfresh 15 = .ok (.bipush 33, 2) := by decide +kernel
theorem dX6_goAfresh_17 : decode cX6_goAfresh 17 = .ok (.iload_n 1, 1) := by decide +kernel
theorem dX6_goAfresh_18 : decode cX6_goAfresh 18 = .ok (.iadd, 1) := by decide +kernel
theorem dX6_goAfresh_19 : decode cX6_goAfresh 19 = .ok (.iload_n 2, 1) := by decide +kernel
theorem dX6_goAfresh_20 : decode cX6_goAfresh 20 = .ok (.bipush 6, 2) := by decide +kernel
theorem dX6_goAfresh_22 : decode cX6_goAfresh 22 = .ok (.if_icmp .ne 14, 3) := by decide +kernel
theorem dX6_goAfresh_25 : decode cX6_goAfresh 25 = .ok (.aload_n 0, 1) := by decide +kernel
theorem dX6_goAfresh_26 : decode cX6_goAfresh 26 = .ok (.bipush 9, 2) := by decide +kernel
theorem dX6_goAfresh_28 : decode cX6_goAfresh 28 = .ok (.iconst 3, 1) := by decide +kernel
theorem dX6_goAfresh_29 : decode cX6_goAfresh 29 = .ok (.iload_n 1, 1) := by decide +kernel
theorem dX6_goAfresh_30 : decode cX6_goAfresh 30 = .ok (.imul, 1) := by decide +kernel
theorem dX6_goAfresh_31 : decode cX6_goAfresh 31 = .ok (.iadd, 1) := by decide +kernel
theorem dX6_goAfresh_32 : decode cX6_goAfresh 32 = .ok (.iaload, 1) := by decide +kernel
theorem dX6_goAfresh_33 : decode cX6_goAfresh 33 = .ok (.goto 15, 3) := by decide +kernel
theorem dX6_goAfresh_36 : decode cX6_goAfresh 36 = .ok (.iload_n 2, 1) := by decide +kernel
theorem dX6_goAfresh_37 : decode cX6_goAfresh 37 = .ok (.bipush 7, 2) := by decide +kernel
theorem dX6_goAfresh_39 : decode cX6_goAfresh 39 = .ok (.if_icmp .ne 8, 3) := by decide +kernel
theorem dX6_goAfresh_42 : decode cX6_goAfresh 42 = .ok (.bipush (-8), 2) := by decide +kernel
theorem dX6_goAfresh_44 : decode cX6_goAfresh 44 = .ok (.goto 4, 3) := by decide +kernel
theorem dX6_goAfresh_47 : decode cX6_goAfresh 47 = .ok (.iconst 0, 1) := by decide +kernel
theorem dX6_goAfresh_48 : decode cX6_goAfresh 48 = .ok (.iastore, 1) := by decide +kernel
theorem dX6_goAfresh_49 : decode cX6_goAfresh 49 = .ok (.aload_n 0, 1) := by decide +kernel
theorem dX6_goAfresh_50 : decode cX6_goAfresh 50 = .ok (.bipush 41, 2) := by decide +kernel
theorem dX6_goAfresh_52 : decode cX6_goAfresh 52 = .ok (.iload_n 1, 1) := by decide +kernel
theorem dX6_goAfresh_53 : decode cX6_goAfresh 53 = .ok (.iadd, 1) := by decide +kernel
theorem dX6_goAfresh_54 : decode cX6_goAfresh 54 = .ok (.bipush (-9), 2) := by decide +kernel
theorem dX6_goAfresh_56 : decode cX6_goAfresh 56 = .ok (.iastore, 1) := by decide +kernel
theorem dX6_goAfresh_57 : decode cX6_goAfresh 57 = .ok (.iinc 1 1, 3) := by decide +kernel
theorem dX6_goAfresh_60 : decode cX6_goAfresh 60 = .ok (.goto (-58), 3) := by decide +kernel
theorem dX6_goAfresh_63 : decode cX6_goAfresh 63 = .ok (.aload_n 0, 1) := by decide +kernel
theorem dX6_goAfresh_64 : decode cX6_goAfresh 64 = .ok (.bipush 49, 2) := by decide +kernel
theorem dX6_goAfresh_66 : decode cX6_goAfresh 66 = .ok (.iconst 0, 1) := by decide +kernel
theorem dX6_goAfresh_67 : decode cX6_goAfresh 67 = .ok (.iastore, 1) := by decide +kernel
theorem dX6_goAfresh_68 : decode cX6_goAfresh 68 = .ok (.return_, 1) := by decide +kernel
theorem dX6_isThere_0 : decode cX6_isThere 0 = .ok (.iconst 1, 1) := by decide +kernel
theorem dX6_isThere_1 : decode cX6_isThere 1 = .ok (.istore_n 3, 1) := by decide +kernel
theorem dX6_isThere_2 : decode cX6_isThere 2 = .ok (.aload_n 0, 1) := by decide +kernel
theorem dX6_isThere_3 : decode cX6_isThere 3 = .ok (.iload_n 2, 1) := by decide +kernel
theorem dX6_isThere_4 : decode cX6_isThere 4 = .ok (.invokevirtual 125, 3) := by decide +kernel
theorem dX6_isThere_7 : decode cX6_isThere 7 = .ok (.iconst 1, 1) := by decide +kernel
theorem dX6_isThere_8 : decode cX6_isThere 8 = .ok (.isub, 1) := by decide +kernel
theorem dX6_isThere_9 : decode cX6_isThere 9 = .ok (.istore 4, 2) := by decide +kernel
theorem dX6_isThere_11 : decode cX6_isThere 11 = .ok (.iload 4, 2) := by decide +kernel
theorem dX6_isThere_13 : decode cX6_isThere 13 = .ok (.ifCond .lt 75, 3) := by decide +kernel
theorem dX6_isThere_16 : decode cX6_isThere 16 = .ok (.iload_n 3, 1) := by decide +kernel
theorem dX6_isThere_17 : decode cX6_isThere 17 = .ok (.ifCond .eq 71, 3) := by decide +kernel
theorem dX6_isThere_20 : decode cX6_isThere 20 = .ok (.aload_n 1, 1) := by decide +kernel
theorem dX6_isThere_21 : decode cX6_isThere 21 = .ok (.bipush 41, 2) := by decide +kernel
theorem dX6_isThere_23 : decode cX6_isThere 23 = .ok (.aload_n 0, 1) := by decide +kernel
theorem dX6_isThere_24 : decode cX6_isThere 24 = .ok (.getfield 56, 3) := by decide +kernel
theorem dX6_isThere_27 : decode cX6_isThere 27 = .ok (.iload 4, 2) := by decide +kernel
theorem dX6_isThere_29 : decode cX6_isThere 29 = .ok (.iaload, 1) := by decide +kernel
theorem dX6_isThere_30 : decode cX6_isThere 30 = .ok (.bipush 10, 2) := by decide +kernel
theorem dX6_isThere_32 : decode cX6_isThere 32 = .ok (.idiv, 1) := by decide +kernel
theorem dX6_isThere_33 : decode cX6_isThere 33 = .ok (.iadd, 1) := by decide +kernel
theorem dX6_isThere_34 : decode cX6_isThere 34 = .ok (.iaload, 1) := by decide +kernel
theorem dX6_isThere_35 : decode cX6_isThere 35 = .ok (.istore 5, 2) := by decide +kernel
theorem dX6_isThere_37 : decode cX6_isThere 37 = .ok (.iload 5, 2) := by decide +kernel
theorem dX6_isThere_39 : decode cX6_isThere 39 = .ok (.bipush (-9), 2) := by decide +kernel
theorem dX6_isThere_41 : decode cX6_isThere 41 = .ok (.if_icmp .eq 39, 3) := by decide +kernel
theorem dX6_isThere_44 : decode cX6_isThere 44 = .ok (.aload_n 0, 1) := by decide +kernel
theorem dX6_isThere_45 : decode cX6_isThere 45 = .ok (.getfield 56, 3) := by decide +kernel
theorem dX6_isThere_48 : decode cX6_isThere 48 = .ok (.iload 4, 2) := by decide +kernel
theorem dX6_isThere_50 : decode cX6_isThere 50 = .ok (.iaload, 1) := by decide +kernel
theorem dX6_isThere_51 : decode cX6_isThere 51 = .ok (.bipush 10, 2) := by decide +kernel
theorem dX6_isThere_53 : decode cX6_isThere 53 = .ok (.irem, 1) := by decide +kernel
theorem dX6_isThere_54 : decode cX6_isThere 54 = .ok (.iconst 1, 1) := by decide +kernel
theorem dX6_isThere_55 : decode cX6_isThere 55 = .ok (.if_icmp .ne 7, 3) := by decide +kernel
theorem dX6_isThere_58 : decode cX6_isThere 58 = .ok (.iconst 1, 1) := by decide +kernel
theorem dX6_isThere_59 : decode cX6_isThere 59 = .ok (.goto 4, 3) := by decide +kernel
theorem dX6_isThere_62 : decode cX6_isThere 62 = .ok (.iconst 0, 1) := by decide +kernel
theorem dX6_isThere_63 : decode cX6_isThere 63 = .ok (.iload 5, 2) := by decide +kernel
theorem dX6_isThere_65 : decode cX6_isThere 65 = .ok (.ifCond .eq 7, 3) := by decide +kernel
theorem dX6_isThere_68 : decode cX6_isThere 68 = .ok (.iconst 1, 1) := by decide +kernel
theorem dX6_isThere_69 : decode cX6_isThere 69 = .ok (.goto 4, 3) := by decide +kernel
theorem dX6_isThere_72 : decode cX6_isThere 72 = .ok (.iconst 0, 1) := by decide +kernel
theorem dX6_isThere_73 : decode cX6_isThere 73 = .ok (.if_icmp .ne 7, 3) := by decide +kernel
theorem dX6_isThere_76 : decode cX6_isThere 76 = .ok (.iconst 1, 1) := by decide +kernel
theorem dX6_isThere_77 : decode cX6_isThere 77 = .ok (.goto 4, 3) := by decide +kernel
theorem dX6_isThere_80 : decode cX6_isThere 80 = .ok (.iconst 0, 1) := by decide +kernel
theorem dX6_isThere_81 : decode cX6_isThere 81 = .ok (.istore_n 3, 1) := by decide +kernel
theorem dX6_isThere_82 : decode cX6_isThere 82 = .ok (.iinc 4 (-1), 3) := by decide +kernel
theorem dX6_isThere_85 : decode cX6_isThere 85 = .ok (.goto (-74), 3) := by decide +kernel
theorem dX6_isThere_88 : decode cX6_isThere 88 = .ok (.iload_n 3, 1) := by decide +kernel
theorem dX6_isThere_89 : decode cX6_isThere 89 = .ok (.ireturn, 1) := by decide +kernel
theorem dX6_made_0 : decode cX6_made 0 = .ok (.iload_n 1, 1) := by decide +kernel
theorem dX6_made_1 : decode cX6_made 1 = .ok (.ifCond .lt 7, 3) := by decide +kernel
theorem dX6_made_4 : decode cX6_made 4 = .ok (.iload_n 2, 1) := by decide +kernel
theorem dX6_made_5 : decode cX6_made 5 = .ok (.ifCond .ge 6, 3) := by decide +kernel
theorem dX6_made_8 : decode cX6_made 8 = .ok (.bipush (-8), 2) := by decide +kernel
theorem dX6_made_10 : decode cX6_made 10 = .ok (.ireturn, 1) := by decide +kernel
theorem dX6_made_11 : decode cX6_made 11 = .ok (.iload_n 0, 1) := by decide +kernel
theorem dX6_made_12 : decode cX6_made 12 = .ok (.iconst 2, 1) := by decide +kernel
theorem dX6_made_13 : decode cX6_made 13 = .ok (.if_icmp .ne 12, 3) := by decide +kernel
theorem dX6_made_16 : decode cX6_made 16 = .ok (.iload_n 1, 1) := by decide +kernel
theorem dX6_made_17 : decode cX6_made 17 = .ok (.iload_n 2, 1) := by decide +kernel
theorem dX6_made_18 : decode cX6_made 18 = .ok (.iadd, 1) := by decide +kernel
theorem dX6_made_19 : decode cX6_made 19 = .ok (.bipush 100, 2) := by decide +kernel
theorem dX6_made_21 : decode cX6_made 21 = .ok (.irem, 1) := by decide +kernel
theorem dX6_made_22 : decode cX6_made 22 = .ok (.goto 30, 3) := by decide +kernel
theorem dX6_made_25 : decode cX6_made 25 = .ok (.iload_n 0, 1) := by decide +kernel
theorem dX6_made_26 : decode cX6_made 26 = .ok (.iconst 3, 1) := by decide +kernel
theorem dX6_made_27 : decode cX6_made 27 = .ok (.if_icmp .ne 15, 3) := by decide +kernel
theorem dX6_made_30 : decode cX6_made 30 = .ok (.iload_n 1, 1) := by decide +kernel
theorem dX6_made_31 : decode cX6_made 31 = .ok (.iload_n 2, 1) := by decide +kernel
theorem dX6_made_32 : decode cX6_made 32 = .ok (.isub, 1) := by decide +kernel
theorem dX6_made_33 : decode cX6_made 33 = .ok (.bipush 100, 2) := by decide +kernel
theorem dX6_made_35 : decode cX6_made 35 = .ok (.iadd, 1) := by decide +kernel
theorem dX6_made_36 : decode cX6_made 36 = .ok (.bipush 100, 2) := by decide +kernel
theorem dX6_made_38 : decode cX6_made 38 = .ok (.irem, 1) := by decide +kernel
theorem dX6_made_39 : decode cX6_made 39 = .ok (.goto 13, 3) := by decide +kernel
theorem dX6_made_42 : decode cX6_made 42 = .ok (.iload_n 1, 1) := by decide +kernel
theorem dX6_made_43 : decode cX6_made 43 = .ok (.iload_n 2, 1) := by decide +kernel
theorem dX6_made_44 : decode cX6_made 44 = .ok (.if_icmp .ge 7, 3) := by decide +kernel
theorem dX6_made_47 : decode cX6_made 47 = .ok (.iconst 1, 1) := by decide +kernel
theorem dX6_made_48 : decode cX6_made 48 = .ok (.goto 4, 3) := by decide +kernel
theorem dX6_made_51 : decode cX6_made 51 = .ok (.iconst 0, 1) := by decide +kernel
theorem dX6_made_52 : decode cX6_made 52 = .ok (.ireturn, 1) := by decide +kernel
theorem dX6_valueOf_0 : decode cX6_valueOf 0 = .ok (.aload_n 1, 1) := by decide +kernel
theorem dX6_valueOf_1 : decode cX6_valueOf 1 = .ok (.iconst 1, 1) := by decide +kernel
theorem dX6_valueOf_2 : decode cX6_valueOf 2 = .ok (.iload_n 2, 1) := by decide +kernel
theorem dX6_valueOf_3 : decode cX6_valueOf 3 = .ok (.iadd, 1) := by decide +kernel
theorem dX6_valueOf_4 : decode cX6_valueOf 4 = .ok (.iaload, 1) := by decide +kernel
theorem dX6_valueOf_5 : decode cX6_valueOf 5 = .ok (.istore 5, 2) := by decide +kernel
theorem dX6_valueOf_7 : decode cX6_valueOf 7 = .ok (.aload_n 1, 1) := by decide +kernel
theorem dX6_valueOf_8 : decode cX6_valueOf 8 = .ok (.bipush 9, 2) := by decide +kernel
theorem dX6_valueOf_10 : decode cX6_valueOf 10 = .ok (.iconst 3, 1) := by decide +kernel
theorem dX6_valueOf_11 : decode cX6_valueOf 11 = .ok (.iload_n 2, 1) := by decide +kernel
theorem dX6_valueOf_12 : decode cX6_valueOf 12 = .ok (.imul, 1) := by decide +kernel
theorem dX6_valueOf_13 : decode cX6_valueOf 13 = .ok (.iadd, 1) := by decide +kernel
theorem dX6_valueOf_14 : decode cX6_valueOf 14 = .ok (.iaload, 1) := by decide +kernel
theorem dX6_valueOf_15 : decode cX6_valueOf 15 = .ok (.istore 6, 2) := by decide +kernel
theorem dX6_valueOf_17 : decode cX6_valueOf 17 = .ok (.aload_n 1, 1) := by decide +kernel
theorem dX6_valueOf_18 : decode cX6_valueOf 18 = .ok (.iload_n 2, 1) := by decide +kernel
theorem dX6_valueOf_19 : decode cX6_valueOf 19 = .ok (.iconst 0, 1) := by decide +kernel
theorem dX6_valueOf_20 : decode cX6_valueOf 20 = .ok (.invokestatic 121, 3) := by decide +kernel
theorem dX6_valueOf_23 : decode cX6_valueOf 23 = .ok (.bipush (-9), 2) := by decide +kernel
theorem dX6_valueOf_25 : decode cX6_valueOf 25 = .ok (.if_icmp .ne 7, 3) := by decide +kernel
theorem dX6_valueOf_28 : decode cX6_valueOf 28 = .ok (.iconst 0, 1) := by decide +kernel
theorem dX6_valueOf_29 : decode cX6_valueOf 29 = .ok (.goto 10, 3) := by decide +kernel
theorem dX6_valueOf_32 : decode cX6_valueOf 32 = .ok (.aload_n 1, 1) := by decide +kernel
theorem dX6_valueOf_33 : decode cX6_valueOf 33 = .ok (.bipush 41, 2) := by decide +kernel
theorem dX6_valueOf_35 : decode cX6_valueOf 35 = .ok (.iload 6, 2) := by decide +kernel
theorem dX6_valueOf_37 : decode cX6_valueOf 37 = .ok (.iadd, 1) := by decide +kernel
theorem dX6_valueOf_38 : decode cX6_valueOf 38 = .ok (.iaload, 1) := by decide +kernel
theorem dX6_valueOf_39 : decode cX6_valueOf 39 = .ok (.istore 7, 2) := by decide +kernel
theorem dX6_valueOf_41 : decode cX6_valueOf 41 = .ok (.aload_n 1, 1) := by decide +kernel
theorem dX6_valueOf_42 : decode cX6_valueOf 42 = .ok (.iload_n 2, 1) := by decide +kernel
theorem dX6_valueOf_43 : decode cX6_valueOf 43 = .ok (.iconst 1, 1) := by decide +kernel
theorem dX6_valueOf_44 : decode cX6_valueOf 44 = .ok (.invokestatic 121, 3) := by decide +kernel
theorem dX6_valueOf_47 : decode cX6_valueOf 47 = .ok (.bipush (-9), 2) := by decide +kernel
theorem dX6_valueOf_49 : decode cX6_valueOf 49 = .ok (.if_icmp .ne 7, 3) := by decide +kernel
theorem dX6_valueOf_52 : decode cX6_valueOf 52 = .ok (.iconst 0, 1) := by decide +kernel
theorem dX6_valueOf_53 : decode cX6_valueOf 53 = .ok (.goto 18, 3) := by decide +kernel
theorem dX6_valueOf_56 : decode cX6_valueOf 56 = .ok (.aload_n 1, 1) := by decide +kernel
theorem dX6_valueOf_57 : decode cX6_valueOf 57 = .ok (.bipush 41, 2) := by decide +kernel
theorem dX6_valueOf_59 : decode cX6_valueOf 59 = .ok (.aload_n 1, 1) := by decide +kernel
theorem dX6_valueOf_60 : decode cX6_valueOf 60 = .ok (.bipush 9, 2) := by decide +kernel
theorem dX6_valueOf_62 : decode cX6_valueOf 62 = .ok (.iconst 3, 1) := by decide +kernel
theorem dX6_valueOf_63 : decode cX6_valueOf 63 = .ok (.iload_n 2, 1) := by decide +kernel
theorem dX6_valueOf_64 : decode cX6_valueOf 64 = .ok (.imul, 1) := by decide +kernel
theorem dX6_valueOf_65 : decode cX6_valueOf 65 = .ok (.iadd, 1) := by decide +kernel
theorem dX6_valueOf_66 : decode cX6_valueOf 66 = .ok (.iconst 1, 1) := by decide +kernel
theorem dX6_valueOf_67 : decode cX6_valueOf 67 = .ok (.iadd, 1) := by decide +kernel
theorem dX6_valueOf_68 : decode cX6_valueOf 68 = .ok (.iaload, 1) := by decide +kernel
theorem dX6_valueOf_69 : decode cX6_valueOf 69 = .ok (.iadd, 1) := by decide +kernel
theorem dX6_valueOf_70 : decode cX6_valueOf 70 = .ok (.iaload, 1) := by decide +kernel
theorem dX6_valueOf_71 : decode cX6_valueOf 71 = .ok (.istore 8, 2) := by decide +kernel
theorem dX6_valueOf_73 : decode cX6_valueOf 73 = .ok (.aload_n 1, 1) := by decide +kernel
theorem dX6_valueOf_74 : decode cX6_valueOf 74 = .ok (.iload_n 2, 1) := by decide +kernel
theorem dX6_valueOf_75 : decode cX6_valueOf 75 = .ok (.iconst 2, 1) := by decide +kernel
theorem dX6_valueOf_76 : decode cX6_valueOf 76 = .ok (.invokestatic 121, 3) := by decide +kernel
theorem dX6_valueOf_79 : decode cX6_valueOf 79 = .ok (.bipush (-9), 2) := by decide +kernel
theorem dX6_valueOf_81 : decode cX6_valueOf 81 = .ok (.if_icmp .ne 7, 3) := by decide +kernel
theorem dX6_valueOf_84 : decode cX6_valueOf 84 = .ok (.iconst 0, 1) := by decide +kernel
theorem dX6_valueOf_85 : decode cX6_valueOf 85 = .ok (.goto 18, 3) := by decide +kernel
theorem dX6_valueOf_88 : decode cX6_valueOf 88 = .ok (.aload_n 1, 1) := by decide +kernel
theorem dX6_valueOf_89 : decode cX6_valueOf 89 = .ok (.bipush 41, 2) := by decide +kernel
theorem dX6_valueOf_91 : decode cX6_valueOf 91 = .ok (.aload_n 1, 1) := by decide +kernel
theorem dX6_valueOf_92 : decode cX6_valueOf 92 = .ok (.bipush 9, 2) := by decide +kernel
theorem dX6_valueOf_94 : decode cX6_valueOf 94 = .ok (.iconst 3, 1) := by decide +kernel
theorem dX6_valueOf_95 : decode cX6_valueOf 95 = .ok (.iload_n 2, 1) := by decide +kernel
theorem dX6_valueOf_96 : decode cX6_valueOf 96 = .ok (.imul, 1) := by decide +kernel
theorem dX6_valueOf_97 : decode cX6_valueOf 97 = .ok (.iadd, 1) := by decide +kernel
theorem dX6_valueOf_98 : decode cX6_valueOf 98 = .ok (.iconst 2, 1) := by decide +kernel
theorem dX6_valueOf_99 : decode cX6_valueOf 99 = .ok (.iadd, 1) := by decide +kernel
theorem dX6_valueOf_100 : decode cX6_valueOf 100 = .ok (.iaload, 1) := by decide +kernel
theorem dX6_valueOf_101 : decode cX6_valueOf 101 = .ok (.iadd, 1) := by decide +kernel
theorem dX6_valueOf_102 : decode cX6_valueOf 102 = .ok (.iaload, 1) := by decide +kernel
theorem dX6_valueOf_103 : decode cX6_valueOf 103 = .ok (.istore 9, 2) := by decide +kernel
theorem dX6_valueOf_105 : decode cX6_valueOf 105 = .ok (.iload 5, 2) := by decide +kernel
theorem dX6_valueOf_107 : decode cX6_valueOf 107 = .ok (.tableswitch 139 0 11 #[61, 73, 139, 139, 139, 76, 99, 99, 106, 123, 123, 126], 61) := by decide +kernel
theorem dX6_valueOf_168 : decode cX6_valueOf 168 = .ok (.iload 6, 2) := by decide +kernel
theorem dX6_valueOf_170 : decode cX6_valueOf 170 = .ok (.ifCond .ne 7, 3) := by decide +kernel
theorem dX6_valueOf_173 : decode cX6_valueOf 173 = .ok (.iload_n 3, 1) := by decide +kernel
theorem dX6_valueOf_174 : decode cX6_valueOf 174 = .ok (.goto 5, 3) := by decide +kernel
theorem dX6_valueOf_177 : decode cX6_valueOf 177 = .ok (.iload 4, 2) := by decide +kernel
theorem dX6_valueOf_179 : decode cX6_valueOf 179 = .ok (.ireturn, 1) := by decide +kernel
theorem dX6_valueOf_180 : decode cX6_valueOf 180 = .ok (.iload 6, 2) := by decide +kernel
theorem dX6_valueOf_182 : decode cX6_valueOf 182 = .ok (.ireturn, 1) := by decide +kernel
theorem dX6_valueOf_183 : decode cX6_valueOf 183 = .ok (.iload 7, 2) := by decide +kernel
theorem dX6_valueOf_185 : decode cX6_valueOf 185 = .ok (.ifCond .ge 8, 3) := by decide +kernel
theorem dX6_valueOf_188 : decode cX6_valueOf 188 = .ok (.bipush (-8), 2) := by decide +kernel
theorem dX6_valueOf_190 : decode cX6_valueOf 190 = .ok (.goto 15, 3) := by decide +kernel
theorem dX6_valueOf_193 : decode cX6_valueOf 193 = .ok (.iload 7, 2) := by decide +kernel
theorem dX6_valueOf_195 : decode cX6_valueOf 195 = .ok (.ifCond .eq 8, 3) := by decide +kernel
theorem dX6_valueOf_198 : decode cX6_valueOf 198 = .ok (.iload 8, 2) := by decide +kernel
theorem dX6_valueOf_200 : decode cX6_valueOf 200 = .ok (.goto 5, 3) := by decide +kernel
theorem dX6_valueOf_203 : decode cX6_valueOf 203 = .ok (.iload 9, 2) := by decide +kernel
theorem dX6_valueOf_205 : decode cX6_valueOf 205 = .ok (.ireturn, 1) := by decide +kernel
theorem dX6_valueOf_206 : decode cX6_valueOf 206 = .ok (.aload_n 1, 1) := by decide +kernel
theorem dX6_valueOf_207 : decode cX6_valueOf 207 = .ok (.bipush 33, 2) := by decide +kernel
theorem dX6_valueOf_209 : decode cX6_valueOf 209 = .ok (.iload_n 2, 1) := by decide +kernel
theorem dX6_valueOf_210 : decode cX6_valueOf 210 = .ok (.iadd, 1) := by decide +kernel
theorem dX6_valueOf_211 : decode cX6_valueOf 211 = .ok (.iaload, 1) := by decide +kernel
theorem dX6_valueOf_212 : decode cX6_valueOf 212 = .ok (.ireturn, 1) := by decide +kernel
theorem dX6_valueOf_213 : decode cX6_valueOf 213 = .ok (.aload_n 1, 1) := by decide +kernel
theorem dX6_valueOf_214 : decode cX6_valueOf 214 = .ok (.bipush 33, 2) := by decide +kernel
theorem dX6_valueOf_216 : decode cX6_valueOf 216 = .ok (.iload_n 2, 1) := by decide +kernel
theorem dX6_valueOf_217 : decode cX6_valueOf 217 = .ok (.iadd, 1) := by decide +kernel
theorem dX6_valueOf_218 : decode cX6_valueOf 218 = .ok (.iaload, 1) := by decide +kernel
theorem dX6_valueOf_219 : decode cX6_valueOf 219 = .ok (.ifCond .ne 8, 3) := by decide +kernel
theorem dX6_valueOf_222 : decode cX6_valueOf 222 = .ok (.iload 7, 2) := by decide +kernel
theorem dX6_valueOf_224 : decode cX6_valueOf 224 = .ok (.goto 5, 3) := by decide +kernel
theorem dX6_valueOf_227 : decode cX6_valueOf 227 = .ok (.iload 8, 2) := by decide +kernel
theorem dX6_valueOf_229 : decode cX6_valueOf 229 = .ok (.ireturn, 1) := by decide +kernel
theorem dX6_valueOf_230 : decode cX6_valueOf 230 = .ok (.iload 7, 2) := by decide +kernel
theorem dX6_valueOf_232 : decode cX6_valueOf 232 = .ok (.ireturn, 1) := by decide +kernel
theorem dX6_valueOf_233 : decode cX6_valueOf 233 = .ok (.iload 7, 2) := by decide +kernel
theorem dX6_valueOf_235 : decode cX6_valueOf 235 = .ok (.ifCond .eq 8, 3) := by decide +kernel
theorem dX6_valueOf_238 : decode cX6_valueOf 238 = .ok (.iload 8, 2) := by decide +kernel
theorem dX6_valueOf_240 : decode cX6_valueOf 240 = .ok (.goto 5, 3) := by decide +kernel
theorem dX6_valueOf_243 : decode cX6_valueOf 243 = .ok (.iload 9, 2) := by decide +kernel
theorem dX6_valueOf_245 : decode cX6_valueOf 245 = .ok (.ireturn, 1) := by decide +kernel
theorem dX6_valueOf_246 : decode cX6_valueOf 246 = .ok (.iload 5, 2) := by decide +kernel
theorem dX6_valueOf_248 : decode cX6_valueOf 248 = .ok (.iload 7, 2) := by decide +kernel
theorem dX6_valueOf_250 : decode cX6_valueOf 250 = .ok (.iload 8, 2) := by decide +kernel
theorem dX6_valueOf_252 : decode cX6_valueOf 252 = .ok (.invokestatic 168, 3) := by decide +kernel
theorem dX6_valueOf_255 : decode cX6_valueOf 255 = .ok (.ireturn, 1) := by decide +kernel
theorem dX6_keepOn_0 : decode cX6_keepOn 0 = .ok (.iconst 0, 1) := by decide +kernel
theorem dX6_keepOn_1 : decode cX6_keepOn 1 = .ok (.istore_n 2, 1) := by decide +kernel
theorem dX6_keepOn_2 : decode cX6_keepOn 2 = .ok (.iload_n 2, 1) := by decide +kernel
theorem dX6_keepOn_3 : decode cX6_keepOn 3 = .ok (.aload_n 1, 1) := by decide +kernel
theorem dX6_keepOn_4 : decode cX6_keepOn 4 = .ok (.iconst 0, 1) := by decide +kernel
theorem dX6_keepOn_5 : decode cX6_keepOn 5 = .ok (.iaload, 1) := by decide +kernel
theorem dX6_keepOn_6 : decode cX6_keepOn 6 = .ok (.if_icmp .ge 89, 3) := by decide +kernel
theorem dX6_keepOn_9 : decode cX6_keepOn 9 = .ok (.aload_n 1, 1) := by decide +kernel
theorem dX6_keepOn_10 : decode cX6_keepOn 10 = .ok (.iconst 1, 1) := by decide +kernel
theorem dX6_keepOn_11 : decode cX6_keepOn 11 = .ok (.iload_n 2, 1) := by decide +kernel
theorem dX6_keepOn_12 : decode cX6_keepOn 12 = .ok (.iadd, 1) := by decide +kernel
theorem dX6_keepOn_13 : decode cX6_keepOn 13 = .ok (.iaload, 1) := by decide +kernel
theorem dX6_keepOn_14 : decode cX6_keepOn 14 = .ok (.istore_n 3, 1) := by decide +kernel
theorem dX6_keepOn_15 : decode cX6_keepOn 15 = .ok (.aload_n 1, 1) := by decide +kernel
theorem dX6_keepOn_16 : decode cX6_keepOn 16 = .ok (.bipush 41, 2) := by decide +kernel
theorem dX6_keepOn_18 : decode cX6_keepOn 18 = .ok (.iload_n 2, 1) := by decide +kernel
theorem dX6_keepOn_19 : decode cX6_keepOn 19 = .ok (.iadd, 1) := by decide +kernel
theorem dX6_keepOn_20 : decode cX6_keepOn 20 = .ok (.iaload, 1) := by decide +kernel
theorem dX6_keepOn_21 : decode cX6_keepOn 21 = .ok (.bipush (-9), 2) := by decide +kernel
theorem dX6_keepOn_23 : decode cX6_keepOn 23 = .ok (.if_icmp .eq 66, 3) := by decide +kernel
theorem dX6_keepOn_26 : decode cX6_keepOn 26 = .ok (.aload_n 1, 1) := by decide +kernel
theorem dX6_keepOn_27 : decode cX6_keepOn 27 = .ok (.bipush 33, 2) := by decide +kernel
theorem dX6_keepOn_29 : decode cX6_keepOn 29 = .ok (.iload_n 2, 1) := by decide +kernel
theorem dX6_keepOn_30 : decode cX6_keepOn 30 = .ok (.iadd, 1) := by decide +kernel
theorem dX6_keepOn_31 : decode cX6_keepOn 31 = .ok (.iload_n 3, 1) := by decide +kernel
theorem dX6_keepOn_32 : decode cX6_keepOn 32 = .ok (.bipush 6, 2) := by decide +kernel
theorem dX6_keepOn_34 : decode cX6_keepOn 34 = .ok (.if_icmp .ne 21, 3) := by decide +kernel
theorem dX6_keepOn_37 : decode cX6_keepOn 37 = .ok (.aload_n 1, 1) := by decide +kernel
theorem dX6_keepOn_38 : decode cX6_keepOn 38 = .ok (.bipush 41, 2) := by decide +kernel
theorem dX6_keepOn_40 : decode cX6_keepOn 40 = .ok (.aload_n 1, 1) := by decide +kernel
theorem dX6_keepOn_41 : decode cX6_keepOn 41 = .ok (.bipush 9, 2) := by decide +kernel
theorem dX6_keepOn_43 : decode cX6_keepOn 43 = .ok (.iconst 3, 1) := by decide +kernel
theorem dX6_keepOn_44 : decode cX6_keepOn 44 = .ok (.iload_n 2, 1) := by decide +kernel
theorem dX6_keepOn_45 : decode cX6_keepOn 45 = .ok (.imul, 1) := by decide +kernel
theorem dX6_keepOn_46 : decode cX6_keepOn 46 = .ok (.iadd, 1) := by decide +kernel
theorem dX6_keepOn_47 : decode cX6_keepOn 47 = .ok (.iconst 1, 1) := by decide +kernel
theorem dX6_keepOn_48 : decode cX6_keepOn 48 = .ok (.iadd, 1) := by decide +kernel
theorem dX6_keepOn_49 : decode cX6_keepOn 49 = .ok (.iaload, 1) := by decide +kernel
theorem dX6_keepOn_50 : decode cX6_keepOn 50 = .ok (.iadd, 1) := by decide +kernel
theorem dX6_keepOn_51 : decode cX6_keepOn 51 = .ok (.iaload, 1) := by decide +kernel
theorem dX6_keepOn_52 : decode cX6_keepOn 52 = .ok (.goto 36, 3) := by decide +kernel
theorem dX6_keepOn_55 : decode cX6_keepOn 55 = .ok (.iload_n 3, 1) := by decide +kernel
theorem dX6_keepOn_56 : decode cX6_keepOn 56 = .ok (.bipush 7, 2) := by decide +kernel
theorem dX6_keepOn_58 : decode cX6_keepOn 58 = .ok (.if_icmp .ne 19, 3) := by decide +kernel
theorem dX6_keepOn_61 : decode cX6_keepOn 61 = .ok (.aload_n 1, 1) := by decide +kernel
theorem dX6_keepOn_62 : decode cX6_keepOn 62 = .ok (.bipush 41, 2) := by decide +kernel
theorem dX6_keepOn_64 : decode cX6_keepOn 64 = .ok (.aload_n 1, 1) := by decide +kernel
theorem dX6_keepOn_65 : decode cX6_keepOn 65 = .ok (.bipush 9, 2) := by decide +kernel
theorem dX6_keepOn_67 : decode cX6_keepOn 67 = .ok (.iconst 3, 1) := by decide +kernel
theorem dX6_keepOn_68 : decode cX6_keepOn 68 = .ok (.iload_n 2, 1) := by decide +kernel
theorem dX6_keepOn_69 : decode cX6_keepOn 69 = .ok (.imul, 1) := by decide +kernel
theorem dX6_keepOn_70 : decode cX6_keepOn 70 = .ok (.iadd, 1) := by decide +kernel
theorem dX6_keepOn_71 : decode cX6_keepOn 71 = .ok (.iaload, 1) := by decide +kernel
theorem dX6_keepOn_72 : decode cX6_keepOn 72 = .ok (.iadd, 1) := by decide +kernel
theorem dX6_keepOn_73 : decode cX6_keepOn 73 = .ok (.iaload, 1) := by decide +kernel
theorem dX6_keepOn_74 : decode cX6_keepOn 74 = .ok (.goto 14, 3) := by decide +kernel
theorem dX6_keepOn_77 : decode cX6_keepOn 77 = .ok (.iload_n 3, 1) := by decide +kernel
theorem dX6_keepOn_78 : decode cX6_keepOn 78 = .ok (.bipush 8, 2) := by decide +kernel
theorem dX6_keepOn_80 : decode cX6_keepOn 80 = .ok (.if_icmp .ne 7, 3) := by decide +kernel
theorem dX6_keepOn_83 : decode cX6_keepOn 83 = .ok (.iconst 1, 1) := by decide +kernel
theorem dX6_keepOn_84 : decode cX6_keepOn 84 = .ok (.goto 4, 3) := by decide +kernel
theorem dX6_keepOn_87 : decode cX6_keepOn 87 = .ok (.iconst 0, 1) := by decide +kernel
theorem dX6_keepOn_88 : decode cX6_keepOn 88 = .ok (.iastore, 1) := by decide +kernel
theorem dX6_keepOn_89 : decode cX6_keepOn 89 = .ok (.iinc 2 1, 3) := by decide +kernel
theorem dX6_keepOn_92 : decode cX6_keepOn 92 = .ok (.goto (-90), 3) := by decide +kernel
theorem dX6_keepOn_95 : decode cX6_keepOn 95 = .ok (.return_, 1) := by decide +kernel
theorem dX6_goTick_0 : decode cX6_goTick 0 = .ok (.iconst 0, 1) := by decide +kernel
theorem dX6_goTick_1 : decode cX6_goTick 1 = .ok (.istore 4, 2) := by decide +kernel
theorem dX6_goTick_3 : decode cX6_goTick 3 = .ok (.iconst 0, 1) := by decide +kernel
theorem dX6_goTick_4 : decode cX6_goTick 4 = .ok (.istore 5, 2) := by decide +kernel
theorem dX6_goTick_6 : decode cX6_goTick 6 = .ok (.iload 5, 2) := by decide +kernel
theorem dX6_goTick_8 : decode cX6_goTick 8 = .ok (.bipush 8, 2) := by decide +kernel
theorem dX6_goTick_10 : decode cX6_goTick 10 = .ok (.if_icmp .ge 18, 3) := by decide +kernel
theorem dX6_goTick_13 : decode cX6_goTick 13 = .ok (.aload_n 1, 1) := by decide +kernel
theorem dX6_goTick_14 : decode cX6_goTick 14 = .ok (.bipush 41, 2) := by decide +kernel
theorem dX6_goTick_16 : decode cX6_goTick 16 = .ok (.iload 5, 2) := by decide +kernel
theorem dX6_goTick_18 : decode cX6_goTick 18 = .ok (.iadd, 1) := by decide +kernel
theorem dX6_goTick_19 : decode cX6_goTick 19 = .ok (.bipush (-9), 2) := by decide +kernel
theorem dX6_goTick_21 : decode cX6_goTick 21 = .ok (.iastore, 1) := by decide +kernel
theorem dX6_goTick_22 : decode cX6_goTick 22 = .ok (.iinc 5 1, 3) := by decide +kernel
theorem dX6_goTick_25 : decode cX6_goTick 25 = .ok (.goto (-19), 3) := by decide +kernel
theorem dX6_goTick_28 : decode cX6_goTick 28 = .ok (.iconst 0, 1) := by decide +kernel
theorem dX6_goTick_29 : decode cX6_goTick 29 = .ok (.istore 5, 2) := by decide +kernel
theorem dX6_goTick_31 : decode cX6_goTick 31 = .ok (.iload 5, 2) := by decide +kernel
theorem dX6_goTick_33 : decode cX6_goTick 33 = .ok (.aload_n 1, 1) := by decide +kernel
theorem dX6_goTick_34 : decode cX6_goTick 34 = .ok (.iconst 0, 1) := by decide +kernel
theorem dX6_goTick_35 : decode cX6_goTick 35 = .ok (.iaload, 1) := by decide +kernel
theorem dX6_goTick_36 : decode cX6_goTick 36 = .ok (.if_icmp .ge 80, 3) := by decide +kernel
theorem dX6_goTick_39 : decode cX6_goTick 39 = .ok (.iconst 0, 1) := by decide +kernel
theorem dX6_goTick_40 : decode cX6_goTick 40 = .ok (.istore 6, 2) := by decide +kernel
theorem dX6_goTick_42 : decode cX6_goTick 42 = .ok (.aload_n 0, 1) := by decide +kernel
theorem dX6_goTick_43 : decode cX6_goTick 43 = .ok (.getfield 50, 3) := by decide +kernel
theorem dX6_goTick_46 : decode cX6_goTick 46 = .ok (.iload 6, 2) := by decide +kernel
theorem dX6_goTick_48 : decode cX6_goTick 48 = .ok (.iaload, 1) := by decide +kernel
theorem dX6_goTick_49 : decode cX6_goTick 49 = .ok (.iload 5, 2) := by decide +kernel
theorem dX6_goTick_51 : decode cX6_goTick 51 = .ok (.if_icmp .eq 9, 3) := by decide +kernel
theorem dX6_goTick_54 : decode cX6_goTick 54 = .ok (.iinc 6 1, 3) := by decide +kernel
theorem dX6_goTick_57 : decode cX6_goTick 57 = .ok (.goto (-15), 3) := by decide +kernel
theorem dX6_goTick_60 : decode cX6_goTick 60 = .ok (.aload_n 0, 1) := by decide +kernel
theorem dX6_goTick_61 : decode cX6_goTick 61 = .ok (.aload_n 1, 1) := by decide +kernel
theorem dX6_goTick_62 : decode cX6_goTick 62 = .ok (.iload 6, 2) := by decide +kernel
theorem dX6_goTick_64 : decode cX6_goTick 64 = .ok (.invokevirtual 171, 3) := by decide +kernel
theorem dX6_goTick_67 : decode cX6_goTick 67 = .ok (.istore 7, 2) := by decide +kernel
theorem dX6_goTick_69 : decode cX6_goTick 69 = .ok (.aload_n 1, 1) := by decide +kernel
theorem dX6_goTick_70 : decode cX6_goTick 70 = .ok (.bipush 41, 2) := by decide +kernel
theorem dX6_goTick_72 : decode cX6_goTick 72 = .ok (.iload 6, 2) := by decide +kernel
theorem dX6_goTick_74 : decode cX6_goTick 74 = .ok (.iadd, 1) := by decide +kernel
theorem dX6_goTick_75 : decode cX6_goTick 75 = .ok (.iload 7, 2) := by decide +kernel
theorem dX6_goTick_77 : decode cX6_goTick 77 = .ok (.ifCond .eq 15, 3) := by decide +kernel
theorem dX6_goTick_80 : decode cX6_goTick 80 = .ok (.aload_n 0, 1) := by decide +kernel
theorem dX6_goTick_81 : decode cX6_goTick 81 = .ok (.aload_n 1, 1) := by decide +kernel
theorem dX6_goTick_82 : decode cX6_goTick 82 = .ok (.iload 6, 2) := by decide +kernel
theorem dX6_goTick_84 : decode cX6_goTick 84 = .ok (.iload_n 2, 1) := by decide +kernel
theorem dX6_goTick_85 : decode cX6_goTick 85 = .ok (.iload_n 3, 1) := by decide +kernel
theorem dX6_goTick_86 : decode cX6_goTick 86 = .ok (.invokevirtual 174, 3) := by decide +kernel
theorem dX6_goTick_89 : decode cX6_goTick 89 = .ok (.goto 5, 3) := by decide +kernel
theorem dX6_goTick_92 : decode cX6_goTick 92 = .ok (.bipush (-9), 2) := by decide +kernel
theorem dX6_goTick_94 : decode cX6_goTick 94 = .ok (.iastore, 1) := by decide +kernel
theorem dX6_goTick_95 : decode cX6_goTick 95 = .ok (.iload 4, 2) := by decide +kernel
theorem dX6_goTick_97 : decode cX6_goTick 97 = .ok (.iload 7, 2) := by decide +kernel
theorem dX6_goTick_99 : decode cX6_goTick 99 = .ok (.ifCond .eq 7, 3) := by decide +kernel
theorem dX6_goTick_102 : decode cX6_goTick 102 = .ok (.iconst 1, 1) := by decide +kernel
theorem dX6_goTick_103 : decode cX6_goTick 103 = .ok (.goto 4, 3) := by decide +kernel
theorem dX6_goTick_106 : decode cX6_goTick 106 = .ok (.iconst 0, 1) := by decide +kernel
theorem dX6_goTick_107 : decode cX6_goTick 107 = .ok (.iadd, 1) := by decide +kernel
theorem dX6_goTick_108 : decode cX6_goTick 108 = .ok (.istore 4, 2) := by decide +kernel
theorem dX6_goTick_110 : decode cX6_goTick 110 = .ok (.iinc 5 1, 3) := by decide +kernel
theorem dX6_goTick_113 : decode cX6_goTick 113 = .ok (.goto (-82), 3) := by decide +kernel
theorem dX6_goTick_116 : decode cX6_goTick 116 = .ok (.aload_n 0, 1) := by decide +kernel
theorem dX6_goTick_117 : decode cX6_goTick 117 = .ok (.aload_n 1, 1) := by decide +kernel
theorem dX6_goTick_118 : decode cX6_goTick 118 = .ok (.invokevirtual 178, 3) := by decide +kernel
theorem dX6_goTick_121 : decode cX6_goTick 121 = .ok (.aload_n 1, 1) := by decide +kernel
theorem dX6_goTick_122 : decode cX6_goTick 122 = .ok (.bipush 49, 2) := by decide +kernel
theorem dX6_goTick_124 : decode cX6_goTick 124 = .ok (.dup2, 1) := by decide +kernel
theorem dX6_goTick_125 : decode cX6_goTick 125 = .ok (.iaload, 1) := by decide +kernel
theorem dX6_goTick_126 : decode cX6_goTick 126 = .ok (.iconst 1, 1) := by decide +kernel
theorem dX6_goTick_127 : decode cX6_goTick 127 = .ok (.iadd, 1) := by decide +kernel
theorem dX6_goTick_128 : decode cX6_goTick 128 = .ok (.iastore, 1) := by decide +kernel
theorem dX6_goTick_129 : decode cX6_goTick 129 = .ok (.iload 4, 2) := by decide +kernel
theorem dX6_goTick_131 : decode cX6_goTick 131 = .ok (.ireturn, 1) := by decide +kernel
theorem dX6_program_0 : decode cX6_program 0 = .ok (.aload_n 0, 1) := by decide +kernel
theorem dX6_program_1 : decode cX6_program 1 = .ok (.iconst 0, 1) := by decide +kernel
theorem dX6_program_2 : decode cX6_program 2 = .ok (.putfield 62, 3) := by decide +kernel
theorem dX6_program_5 : decode cX6_program 5 = .ok (.aload_n 0, 1) := by decide +kernel
theorem dX6_program_6 : decode cX6_program 6 = .ok (.invokevirtual 98, 3) := by decide +kernel
theorem dX6_program_9 : decode cX6_program 9 = .ok (.bipush (-9), 2) := by decide +kernel
theorem dX6_program_11 : decode cX6_program 11 = .ok (.if_icmp .eq 6, 3) := by decide +kernel
theorem dX6_program_14 : decode cX6_program 14 = .ok (.bipush (-3), 2) := by decide +kernel
theorem dX6_program_16 : decode cX6_program 16 = .ok (.ireturn, 1) := by decide +kernel
theorem dX6_program_17 : decode cX6_program 17 = .ok (.iconst 0, 1) := by decide +kernel
theorem dX6_program_18 : decode cX6_program 18 = .ok (.istore_n 1, 1) := by decide +kernel
theorem dX6_program_19 : decode cX6_program 19 = .ok (.iload_n 1, 1) := by decide +kernel
theorem dX6_program_20 : decode cX6_program 20 = .ok (.bipush 50, 2) := by decide +kernel
theorem dX6_program_22 : decode cX6_program 22 = .ok (.if_icmp .ge 21, 3) := by decide +kernel
theorem dX6_program_25 : decode cX6_program 25 = .ok (.aload_n 0, 1) := by decide +kernel
theorem dX6_program_26 : decode cX6_program 26 = .ok (.getfield 16, 3) := by decide +kernel
theorem dX6_program_29 : decode cX6_program 29 = .ok (.iload_n 1, 1) := by decide +kernel
theorem dX6_program_30 : decode cX6_program 30 = .ok (.aload_n 0, 1) := by decide +kernel
theorem dX6_program_31 : decode cX6_program 31 = .ok (.getfield 13, 3) := by decide +kernel
theorem dX6_program_34 : decode cX6_program 34 = .ok (.iload_n 1, 1) := by decide +kernel
theorem dX6_program_35 : decode cX6_program 35 = .ok (.iaload, 1) := by decide +kernel
theorem dX6_program_36 : decode cX6_program 36 = .ok (.iastore, 1) := by decide +kernel
theorem dX6_program_37 : decode cX6_program 37 = .ok (.iinc 1 1, 3) := by decide +kernel
theorem dX6_program_40 : decode cX6_program 40 = .ok (.goto (-21), 3) := by decide +kernel
theorem dX6_program_43 : decode cX6_program 43 = .ok (.aload_n 0, 1) := by decide +kernel
theorem dX6_program_44 : decode cX6_program 44 = .ok (.getfield 16, 3) := by decide +kernel
theorem dX6_program_47 : decode cX6_program 47 = .ok (.invokestatic 181, 3) := by decide +kernel
theorem dX6_program_50 : decode cX6_program 50 = .ok (.aload_n 0, 1) := by decide +kernel
theorem dX6_program_51 : decode cX6_program 51 = .ok (.iconst 0, 1) := by decide +kernel
theorem dX6_program_52 : decode cX6_program 52 = .ok (.putfield 184, 3) := by decide +kernel
theorem dX6_program_55 : decode cX6_program 55 = .ok (.aload_n 0, 1) := by decide +kernel
theorem dX6_program_56 : decode cX6_program 56 = .ok (.getfield 28, 3) := by decide +kernel
theorem dX6_program_59 : decode cX6_program 59 = .ok (.iconst 0, 1) := by decide +kernel
theorem dX6_program_60 : decode cX6_program 60 = .ok (.iconst 0, 1) := by decide +kernel
theorem dX6_program_61 : decode cX6_program 61 = .ok (.bastore, 1) := by decide +kernel
theorem dX6_program_62 : decode cX6_program 62 = .ok (.aload_n 0, 1) := by decide +kernel
theorem dX6_program_63 : decode cX6_program 63 = .ok (.getfield 28, 3) := by decide +kernel
theorem dX6_program_66 : decode cX6_program 66 = .ok (.iconst 1, 1) := by decide +kernel
theorem dX6_program_67 : decode cX6_program 67 = .ok (.iconst 0, 1) := by decide +kernel
theorem dX6_program_68 : decode cX6_program 68 = .ok (.bastore, 1) := by decide +kernel
theorem dX6_program_69 : decode cX6_program 69 = .ok (.aload_n 0, 1) := by decide +kernel
theorem dX6_program_70 : decode cX6_program 70 = .ok (.invokevirtual 187, 3) := by decide +kernel
theorem dX6_program_73 : decode cX6_program 73 = .ok (.ifCond .eq 7, 3) := by decide +kernel
theorem dX6_program_76 : decode cX6_program 76 = .ok (.iconst 1, 1) := by decide +kernel
theorem dX6_program_77 : decode cX6_program 77 = .ok (.goto 4, 3) := by decide +kernel
theorem dX6_program_80 : decode cX6_program 80 = .ok (.iconst 0, 1) := by decide +kernel
theorem dX6_program_81 : decode cX6_program 81 = .ok (.ireturn, 1) := by decide +kernel
theorem dX6_there_0 : decode cX6_there 0 = .ok (.iconst 0, 1) := by decide +kernel
theorem dX6_there_1 : decode cX6_there 1 = .ok (.istore_n 1, 1) := by decide +kernel
theorem dX6_there_2 : decode cX6_there 2 = .ok (.iconst 0, 1) := by decide +kernel
theorem dX6_there_3 : decode cX6_there 3 = .ok (.istore_n 2, 1) := by decide +kernel
theorem dX6_there_4 : decode cX6_there 4 = .ok (.iload_n 2, 1) := by decide +kernel
theorem dX6_there_5 : decode cX6_there 5 = .ok (.aload_n 0, 1) := by decide +kernel
theorem dX6_there_6 : decode cX6_there 6 = .ok (.getfield 16, 3) := by decide +kernel
theorem dX6_there_9 : decode cX6_there 9 = .ok (.iconst 0, 1) := by decide +kernel
theorem dX6_there_10 : decode cX6_there 10 = .ok (.iaload, 1) := by decide +kernel
theorem dX6_there_11 : decode cX6_there 11 = .ok (.if_icmp .ge 33, 3) := by decide +kernel
theorem dX6_there_14 : decode cX6_there 14 = .ok (.iload_n 1, 1) := by decide +kernel
theorem dX6_there_15 : decode cX6_there 15 = .ok (.aload_n 0, 1) := by decide +kernel
theorem dX6_there_16 : decode cX6_there 16 = .ok (.getfield 16, 3) := by decide +kernel
theorem dX6_there_19 : decode cX6_there 19 = .ok (.bipush 41, 2) := by decide +kernel
theorem dX6_there_21 : decode cX6_there 21 = .ok (.iload_n 2, 1) := by decide +kernel
theorem dX6_there_22 : decode cX6_there 22 = .ok (.iadd, 1) := by decide +kernel
theorem dX6_there_23 : decode cX6_there 23 = .ok (.iaload, 1) := by decide +kernel
theorem dX6_there_24 : decode cX6_there 24 = .ok (.bipush (-9), 2) := by decide +kernel
theorem dX6_there_26 : decode cX6_there 26 = .ok (.if_icmp .ne 7, 3) := by decide +kernel
theorem dX6_there_29 : decode cX6_there 29 = .ok (.iconst 0, 1) := by decide +kernel
theorem dX6_there_30 : decode cX6_there 30 = .ok (.goto 6, 3) := by decide +kernel
theorem dX6_there_33 : decode cX6_there 33 = .ok (.iconst 1, 1) := by decide +kernel
theorem dX6_there_34 : decode cX6_there 34 = .ok (.iload_n 2, 1) := by decide +kernel
theorem dX6_there_35 : decode cX6_there 35 = .ok (.ishl, 1) := by decide +kernel
theorem dX6_there_36 : decode cX6_there 36 = .ok (.ior, 1) := by decide +kernel
theorem dX6_there_37 : decode cX6_there 37 = .ok (.istore_n 1, 1) := by decide +kernel
theorem dX6_there_38 : decode cX6_there 38 = .ok (.iinc 2 1, 3) := by decide +kernel
theorem dX6_there_41 : decode cX6_there 41 = .ok (.goto (-37), 3) := by decide +kernel
theorem dX6_there_44 : decode cX6_there 44 = .ok (.iload_n 1, 1) := by decide +kernel
theorem dX6_there_45 : decode cX6_there 45 = .ok (.ireturn, 1) := by decide +kernel
theorem dX6_about_0 : decode cX6_about 0 = .ok (.aload_n 0, 1) := by decide +kernel
theorem dX6_about_1 : decode cX6_about 1 = .ok (.iconst 0, 1) := by decide +kernel
theorem dX6_about_2 : decode cX6_about 2 = .ok (.putfield 62, 3) := by decide +kernel
theorem dX6_about_5 : decode cX6_about 5 = .ok (.aload_n 0, 1) := by decide +kernel
theorem dX6_about_6 : decode cX6_about 6 = .ok (.aload_n 0, 1) := by decide +kernel
theorem dX6_about_7 : decode cX6_about 7 = .ok (.getfield 16, 3) := by decide +kernel
theorem dX6_about_10 : decode cX6_about 10 = .ok (.invokevirtual 161, 3) := by decide +kernel
theorem dX6_about_13 : decode cX6_about 13 = .ok (.iload_n 1, 1) := by decide +kernel
theorem dX6_about_14 : decode cX6_about 14 = .ok (.tableswitch 117 0 9 #[54, 61, 66, 71, 76, 89, 97, 102, 107, 112], 54) := by decide +kernel
theorem dX6_about_68 : decode cX6_about 68 = .ok (.aload_n 0, 1) := by decide +kernel
theorem dX6_about_69 : decode cX6_about 69 = .ok (.getfield 16, 3) := by decide +kernel
theorem dX6_about_72 : decode cX6_about 72 = .ok (.iconst 0, 1) := by decide +kernel
theorem dX6_about_73 : decode cX6_about 73 = .ok (.iaload, 1) := by decide +kernel
theorem dX6_about_74 : decode cX6_about 74 = .ok (.ireturn, 1) := by decide +kernel
theorem dX6_about_75 : decode cX6_about 75 = .ok (.aload_n 0, 1) := by decide +kernel
theorem dX6_about_76 : decode cX6_about 76 = .ok (.getfield 114, 3) := by decide +kernel
theorem dX6_about_79 : decode cX6_about 79 = .ok (.ireturn, 1) := by decide +kernel
theorem dX6_about_80 : decode cX6_about 80 = .ok (.aload_n 0, 1) := by decide +kernel
theorem dX6_about_81 : decode cX6_about 81 = .ok (.getfield 135, 3) := by decide +kernel
theorem dX6_about_84 : decode cX6_about 84 = .ok (.ireturn, 1) := by decide +kernel
theorem dX6_about_85 : decode cX6_about 85 = .ok (.aload_n 0, 1) := by decide +kernel
theorem dX6_about_86 : decode cX6_about 86 = .ok (.getfield 149, 3) := by decide +kernel
theorem dX6_about_89 : decode cX6_about 89 = .ok (.ireturn, 1) := by decide +kernel
theorem dX6_about_90 : decode cX6_about 90 = .ok (.aload_n 0, 1) := by decide +kernel
theorem dX6_about_91 : decode cX6_about 91 = .ok (.invokevirtual 164, 3) := by decide +kernel
theorem dX6_about_94 : decode cX6_about 94 = .ok (.ifCond .eq 7, 3) := by decide +kernel
theorem dX6_about_97 : decode cX6_about 97 = .ok (.iconst 1, 1) := by decide +kernel
theorem dX6_about_98 : decode cX6_about 98 = .ok (.goto 4, 3) := by decide +kernel
theorem dX6_about_101 : decode cX6_about 101 = .ok (.iconst 0, 1) := by decide +kernel
theorem dX6_about_102 : decode cX6_about 102 = .ok (.ireturn, 1) := by decide +kernel
theorem dX6_about_103 : decode cX6_about 103 = .ok (.aload_n 0, 1) := by decide +kernel
theorem dX6_about_104 : decode cX6_about 104 = .ok (.getfield 16, 3) := by decide +kernel
theorem dX6_about_107 : decode cX6_about 107 = .ok (.bipush 49, 2) := by decide +kernel
theorem dX6_about_109 : decode cX6_about 109 = .ok (.iaload, 1) := by decide +kernel
theorem dX6_about_110 : decode cX6_about 110 = .ok (.ireturn, 1) := by decide +kernel
theorem dX6_about_111 : decode cX6_about 111 = .ok (.aload_n 0, 1) := by decide +kernel
theorem dX6_about_112 : decode cX6_about 112 = .ok (.invokevirtual 190, 3) := by decide +kernel
theorem dX6_about_115 : decode cX6_about 115 = .ok (.ireturn, 1) := by decide +kernel
theorem dX6_about_116 : decode cX6_about 116 = .ok (.aload_n 0, 1) := by decide +kernel
theorem dX6_about_117 : decode cX6_about 117 = .ok (.getfield 184, 3) := by decide +kernel
theorem dX6_about_120 : decode cX6_about 120 = .ok (.ireturn, 1) := by decide +kernel
theorem dX6_about_121 : decode cX6_about 121 = .ok (.aload_n 0, 1) := by decide +kernel
theorem dX6_about_122 : decode cX6_about 122 = .ok (.getfield 193, 3) := by decide +kernel
theorem dX6_about_125 : decode cX6_about 125 = .ok (.ireturn, 1) := by decide +kernel
theorem dX6_about_126 : decode cX6_about 126 = .ok (.aload_n 0, 1) := by decide +kernel
theorem dX6_about_127 : decode cX6_about 127 = .ok (.getfield 76, 3) := by decide +kernel
theorem dX6_about_130 : decode cX6_about 130 = .ok (.ireturn, 1) := by decide +kernel
theorem dX6_about_131 : decode cX6_about 131 = .ok (.bipush (-2), 2) := by decide +kernel
theorem dX6_about_133 : decode cX6_about 133 = .ok (.ireturn, 1) := by decide +kernel
theorem dX6_stream_0 : decode cX6_stream 0 = .ok (.aload_n 0, 1) := by decide +kernel
theorem dX6_stream_1 : decode cX6_stream 1 = .ok (.iconst 0, 1) := by decide +kernel
theorem dX6_stream_2 : decode cX6_stream 2 = .ok (.putfield 62, 3) := by decide +kernel
theorem dX6_stream_5 : decode cX6_stream 5 = .ok (.aload_n 0, 1) := by decide +kernel
theorem dX6_stream_6 : decode cX6_stream 6 = .ok (.iload_n 1, 1) := by decide +kernel
theorem dX6_stream_7 : decode cX6_stream 7 = .ok (.invokevirtual 196, 3) := by decide +kernel
theorem dX6_stream_10 : decode cX6_stream 10 = .ok (.ifCond .eq 5, 3) := by decide +kernel
theorem dX6_stream_13 : decode cX6_stream 13 = .ok (.iconst (-1), 1) := by decide +kernel
theorem dX6_stream_14 : decode cX6_stream 14 = .ok (.ireturn, 1) := by decide +kernel
theorem dX6_stream_15 : decode cX6_stream 15 = .ok (.aload_n 0, 1) := by decide +kernel
theorem dX6_stream_16 : decode cX6_stream 16 = .ok (.aload_n 0, 1) := by decide +kernel
theorem dX6_stream_17 : decode cX6_stream 17 = .ok (.getfield 16, 3) := by decide +kernel
theorem dX6_stream_20 : decode cX6_stream 20 = .ok (.invokevirtual 161, 3) := by decide +kernel
theorem dX6_stream_23 : decode cX6_stream 23 = .ok (.iload_n 2, 1) := by decide +kernel
theorem dX6_stream_24 : decode cX6_stream 24 = .ok (.tableswitch 117 0 4 #[36, 45, 65, 86, 107], 36) := by decide +kernel
theorem dX6_stream_60 : decode cX6_stream 60 = .ok (.aload_n 0, 1) := by decide +kernel
theorem dX6_stream_61 : decode cX6_stream 61 = .ok (.getfield 16, 3) := by decide +kernel
theorem dX6_stream_64 : decode cX6_stream 64 = .ok (.iconst 1, 1) := by decide +kernel
theorem dX6_stream_65 : decode cX6_stream 65 = .ok (.iload_n 1, 1) := by decide +kernel
theorem dX6_stream_66 : decode cX6_stream 66 = .ok (.iadd, 1) := by decide +kernel
theorem dX6_stream_67 : decode cX6_stream 67 = .ok (.iaload, 1) := by decide +kernel
theorem dX6_stream_68 : decode cX6_stream 68 = .ok (.ireturn, 1) := by decide +kernel
theorem dX6_stream_69 : decode cX6_stream 69 = .ok (.aload_n 0, 1) := by decide +kernel
theorem dX6_stream_70 : decode cX6_stream 70 = .ok (.getfield 114, 3) := by decide +kernel
theorem dX6_stream_73 : decode cX6_stream 73 = .ok (.bipush (-9), 2) := by decide +kernel
theorem dX6_stream_75 : decode cX6_stream 75 = .ok (.if_icmp .ne 11, 3) := by decide +kernel
theorem dX6_stream_78 : decode cX6_stream 78 = .ok (.aload_n 0, 1) := by decide +kernel
theorem dX6_stream_79 : decode cX6_stream 79 = .ok (.iload_n 1, 1) := by decide +kernel
theorem dX6_stream_80 : decode cX6_stream 80 = .ok (.invokevirtual 125, 3) := by decide +kernel
theorem dX6_stream_83 : decode cX6_stream 83 = .ok (.goto 5, 3) := by decide +kernel
theorem dX6_stream_86 : decode cX6_stream 86 = .ok (.bipush (-9), 2) := by decide +kernel
theorem dX6_stream_88 : decode cX6_stream 88 = .ok (.ireturn, 1) := by decide +kernel
theorem dX6_stream_89 : decode cX6_stream 89 = .ok (.aload_n 0, 1) := by decide +kernel
theorem dX6_stream_90 : decode cX6_stream 90 = .ok (.getfield 114, 3) := by decide +kernel
theorem dX6_stream_93 : decode cX6_stream 93 = .ok (.bipush (-9), 2) := by decide +kernel
theorem dX6_stream_95 : decode cX6_stream 95 = .ok (.if_icmp .ne 12, 3) := by decide +kernel
theorem dX6_stream_98 : decode cX6_stream 98 = .ok (.aload_n 0, 1) := by decide +kernel
theorem dX6_stream_99 : decode cX6_stream 99 = .ok (.getfield 50, 3) := by decide +kernel
theorem dX6_stream_102 : decode cX6_stream 102 = .ok (.iload_n 1, 1) := by decide +kernel
theorem dX6_stream_103 : decode cX6_stream 103 = .ok (.iaload, 1) := by decide +kernel
theorem dX6_stream_104 : decode cX6_stream 104 = .ok (.goto 5, 3) := by decide +kernel
theorem dX6_stream_107 : decode cX6_stream 107 = .ok (.bipush (-9), 2) := by decide +kernel
theorem dX6_stream_109 : decode cX6_stream 109 = .ok (.ireturn, 1) := by decide +kernel
theorem dX6_stream_110 : decode cX6_stream 110 = .ok (.aload_n 0, 1) := by decide +kernel
theorem dX6_stream_111 : decode cX6_stream 111 = .ok (.getfield 114, 3) := by decide +kernel
theorem dX6_stream_114 : decode cX6_stream 114 = .ok (.bipush (-9), 2) := by decide +kernel
theorem dX6_stream_116 : decode cX6_stream 116 = .ok (.if_icmp .ne 12, 3) := by decide +kernel
theorem dX6_stream_119 : decode cX6_stream 119 = .ok (.aload_n 0, 1) := by decide +kernel
theorem dX6_stream_120 : decode cX6_stream 120 = .ok (.getfield 53, 3) := by decide +kernel
theorem dX6_stream_123 : decode cX6_stream 123 = .ok (.iload_n 1, 1) := by decide +kernel
theorem dX6_stream_124 : decode cX6_stream 124 = .ok (.iaload, 1) := by decide +kernel
theorem dX6_stream_125 : decode cX6_stream 125 = .ok (.goto 5, 3) := by decide +kernel
theorem dX6_stream_128 : decode cX6_stream 128 = .ok (.bipush (-9), 2) := by decide +kernel
theorem dX6_stream_130 : decode cX6_stream 130 = .ok (.ireturn, 1) := by decide +kernel
theorem dX6_stream_131 : decode cX6_stream 131 = .ok (.aload_n 0, 1) := by decide +kernel
theorem dX6_stream_132 : decode cX6_stream 132 = .ok (.getfield 16, 3) := by decide +kernel
theorem dX6_stream_135 : decode cX6_stream 135 = .ok (.bipush 41, 2) := by decide +kernel
theorem dX6_stream_137 : decode cX6_stream 137 = .ok (.iload_n 1, 1) := by decide +kernel
theorem dX6_stream_138 : decode cX6_stream 138 = .ok (.iadd, 1) := by decide +kernel
theorem dX6_stream_139 : decode cX6_stream 139 = .ok (.iaload, 1) := by decide +kernel
theorem dX6_stream_140 : decode cX6_stream 140 = .ok (.ireturn, 1) := by decide +kernel
theorem dX6_stream_141 : decode cX6_stream 141 = .ok (.bipush (-2), 2) := by decide +kernel
theorem dX6_stream_143 : decode cX6_stream 143 = .ok (.ireturn, 1) := by decide +kernel
theorem dX6_figure_0 : decode cX6_figure 0 = .ok (.aload_n 0, 1) := by decide +kernel
theorem dX6_figure_1 : decode cX6_figure 1 = .ok (.iconst 0, 1) := by decide +kernel
theorem dX6_figure_2 : decode cX6_figure 2 = .ok (.putfield 62, 3) := by decide +kernel
theorem dX6_figure_5 : decode cX6_figure 5 = .ok (.aload_n 0, 1) := by decide +kernel
theorem dX6_figure_6 : decode cX6_figure 6 = .ok (.iload_n 1, 1) := by decide +kernel
theorem dX6_figure_7 : decode cX6_figure 7 = .ok (.invokevirtual 196, 3) := by decide +kernel
theorem dX6_figure_10 : decode cX6_figure 10 = .ok (.ifCond .ne 26, 3) := by decide +kernel
theorem dX6_figure_13 : decode cX6_figure 13 = .ok (.iload_n 2, 1) := by decide +kernel
theorem dX6_figure_14 : decode cX6_figure 14 = .ok (.i2l, 1) := by decide +kernel
theorem dX6_figure_15 : decode cX6_figure 15 = .ok (.lconst 0, 1) := by decide +kernel
theorem dX6_figure_16 : decode cX6_figure 16 = .ok (.aload_n 0, 1) := by decide +kernel
theorem dX6_figure_17 : decode cX6_figure 17 = .ok (.getfield 16, 3) := by decide +kernel
theorem dX6_figure_20 : decode cX6_figure 20 = .ok (.iconst 1, 1) := by decide +kernel
theorem dX6_figure_21 : decode cX6_figure 21 = .ok (.iload_n 1, 1) := by decide +kernel
theorem dX6_figure_22 : decode cX6_figure 22 = .ok (.iadd, 1) := by decide +kernel
theorem dX6_figure_23 : decode cX6_figure 23 = .ok (.iaload, 1) := by decide +kernel
theorem dX6_figure_24 : decode cX6_figure 24 = .ok (.invokestatic 70, 3) := by decide +kernel
theorem dX6_figure_27 : decode cX6_figure 27 = .ok (.iconst 1, 1) := by decide +kernel
theorem dX6_figure_28 : decode cX6_figure 28 = .ok (.isub, 1) := by decide +kernel
theorem dX6_figure_29 : decode cX6_figure 29 = .ok (.i2l, 1) := by decide +kernel
theorem dX6_figure_30 : decode cX6_figure 30 = .ok (.invokestatic 66, 3) := by decide +kernel
theorem dX6_figure_33 : decode cX6_figure 33 = .ok (.ifCond .ne 7, 3) := by decide +kernel
theorem dX6_figure_36 : decode cX6_figure 36 = .ok (.iconst (-1), 1) := by decide +kernel
theorem dX6_figure_37 : decode cX6_figure 37 = .ok (.goto 16, 3) := by decide +kernel
theorem dX6_figure_40 : decode cX6_figure 40 = .ok (.aload_n 0, 1) := by decide +kernel
theorem dX6_figure_41 : decode cX6_figure 41 = .ok (.getfield 16, 3) := by decide +kernel
theorem dX6_figure_44 : decode cX6_figure 44 = .ok (.bipush 9, 2) := by decide +kernel
theorem dX6_figure_46 : decode cX6_figure 46 = .ok (.iconst 3, 1) := by decide +kernel
theorem dX6_figure_47 : decode cX6_figure 47 = .ok (.iload_n 1, 1) := by decide +kernel
theorem dX6_figure_48 : decode cX6_figure 48 = .ok (.imul, 1) := by decide +kernel
theorem dX6_figure_49 : decode cX6_figure 49 = .ok (.iadd, 1) := by decide +kernel
