theorem dX0_init_0 : decode cX0_init 0 = .ok (.aload_n 0, 1) := by decide +kernel
theorem dX0_init_1 : decode cX0_init 1 = .ok (.invokespecial 3, 3) := by decide +kernel
theorem dX0_init_4 : decode cX0_init 4 = .ok (.aload_n 0, 1) := by decide +kernel
theorem dX0_init_5 : decode cX0_init 5 = .ok (.iconst 0, 1) := by decide +kernel
theorem dX0_init_6 : decode cX0_init 6 = .ok (.putfield 9, 3) := by decide +kernel
theorem dX0_init_9 : decode cX0_init 9 = .ok (.aload_n 0, 1) := by decide +kernel
theorem dX0_init_10 : decode cX0_init 10 = .ok (.iconst 0, 1) := by decide +kernel
theorem dX0_init_11 : decode cX0_init 11 = .ok (.putfield 15, 3) := by decide +kernel
theorem dX0_init_14 : decode cX0_init 14 = .ok (.aload_n 0, 1) := by decide +kernel
theorem dX0_init_15 : decode cX0_init 15 = .ok (.bipush 14, 2) := by decide +kernel
theorem dX0_init_17 : decode cX0_init 17 = .ok (.anewarray 18, 3) := by decide +kernel
theorem dX0_init_20 : decode cX0_init 20 = .ok (.putfield 20, 3) := by decide +kernel
theorem dX0_init_23 : decode cX0_init 23 = .ok (.iconst 0, 1) := by decide +kernel
theorem dX0_init_24 : decode cX0_init 24 = .ok (.istore_n 1, 1) := by decide +kernel
theorem dX0_init_25 : decode cX0_init 25 = .ok (.iload_n 1, 1) := by decide +kernel
theorem dX0_init_26 : decode cX0_init 26 = .ok (.bipush 14, 2) := by decide +kernel
theorem dX0_init_28 : decode cX0_init 28 = .ok (.if_icmp .ge 22, 3) := by decide +kernel
theorem dX0_init_31 : decode cX0_init 31 = .ok (.aload_n 0, 1) := by decide +kernel
theorem dX0_init_32 : decode cX0_init 32 = .ok (.getfield 20, 3) := by decide +kernel
theorem dX0_init_35 : decode cX0_init 35 = .ok (.iload_n 1, 1) := by decide +kernel
theorem dX0_init_36 : decode cX0_init 36 = .ok (.new 18, 3) := by decide +kernel
theorem dX0_init_39 : decode cX0_init 39 = .ok (.dup, 1) := by decide +kernel
theorem dX0_init_40 : decode cX0_init 40 = .ok (.invokespecial 24, 3) := by decide +kernel
theorem dX0_init_43 : decode cX0_init 43 = .ok (.aastore, 1) := by decide +kernel
theorem dX0_init_44 : decode cX0_init 44 = .ok (.iinc 1 1, 3) := by decide +kernel
theorem dX0_init_47 : decode cX0_init 47 = .ok (.goto (-22), 3) := by decide +kernel
theorem dX0_init_50 : decode cX0_init 50 = .ok (.return_, 1) := by decide +kernel
theorem dX0_forget_0 : decode cX0_forget 0 = .ok (.aload_n 0, 1) := by decide +kernel
theorem dX0_forget_1 : decode cX0_forget 1 = .ok (.iconst 0, 1) := by decide +kernel
theorem dX0_forget_2 : decode cX0_forget 2 = .ok (.putfield 9, 3) := by decide +kernel
theorem dX0_forget_5 : decode cX0_forget 5 = .ok (.return_, 1) := by decide +kernel
theorem dX0_remember_0 : decode cX0_remember 0 = .ok (.aload_n 1, 1) := by decide +kernel
theorem dX0_remember_1 : decode cX0_remember 1 = .ok (.aload_n 0, 1) := by decide +kernel
theorem dX0_remember_2 : decode cX0_remember 2 = .ok (.getfield 20, 3) := by decide +kernel
theorem dX0_remember_5 : decode cX0_remember 5 = .ok (.aload_n 0, 1) := by decide +kernel
theorem dX0_remember_6 : decode cX0_remember 6 = .ok (.getfield 15, 3) := by decide +kernel
theorem dX0_remember_9 : decode cX0_remember 9 = .ok (.aload_n 0, 1) := by decide +kernel
theorem dX0_remember_10 : decode cX0_remember 10 = .ok (.getfield 9, 3) := by decide +kernel
theorem dX0_remember_13 : decode cX0_remember 13 = .ok (.iadd, 1) := by decide +kernel
theorem dX0_remember_14 : decode cX0_remember 14 = .ok (.bipush 14, 2) := by decide +kernel
theorem dX0_remember_16 : decode cX0_remember 16 = .ok (.irem, 1) := by decide +kernel
theorem dX0_remember_17 : decode cX0_remember 17 = .ok (.aaload, 1) := by decide +kernel
theorem dX0_remember_18 : decode cX0_remember 18 = .ok (.invokestatic 25, 3) := by decide +kernel
theorem dX0_remember_21 : decode cX0_remember 21 = .ok (.aload_n 0, 1) := by decide +kernel
theorem dX0_remember_22 : decode cX0_remember 22 = .ok (.getfield 9, 3) := by decide +kernel
theorem dX0_remember_25 : decode cX0_remember 25 = .ok (.bipush 14, 2) := by decide +kernel
theorem dX0_remember_27 : decode cX0_remember 27 = .ok (.if_icmp .ge 16, 3) := by decide +kernel
theorem dX0_remember_30 : decode cX0_remember 30 = .ok (.aload_n 0, 1) := by decide +kernel
theorem dX0_remember_31 : decode cX0_remember 31 = .ok (.dup, 1) := by decide +kernel
theorem dX0_remember_32 : decode cX0_remember 32 = .ok (.getfield 9, 3) := by decide +kernel
theorem dX0_remember_35 : decode cX0_remember 35 = .ok (.iconst 1, 1) := by decide +kernel
theorem dX0_remember_36 : decode cX0_remember 36 = .ok (.iadd, 1) := by decide +kernel
theorem dX0_remember_37 : decode cX0_remember 37 = .ok (.putfield 9, 3) := by decide +kernel
theorem dX0_remember_40 : decode cX0_remember 40 = .ok (.goto 16, 3) := by decide +kernel
theorem dX0_remember_43 : decode cX0_remember 43 = .ok (.aload_n 0, 1) := by decide +kernel
theorem dX0_remember_44 : decode cX0_remember 44 = .ok (.aload_n 0, 1) := by decide +kernel
theorem dX0_remember_45 : decode cX0_remember 45 = .ok (.getfield 15, 3) := by decide +kernel
theorem dX0_remember_48 : decode cX0_remember 48 = .ok (.iconst 1, 1) := by decide +kernel
theorem dX0_remember_49 : decode cX0_remember 49 = .ok (.iadd, 1) := by decide +kernel
theorem dX0_remember_50 : decode cX0_remember 50 = .ok (.bipush 14, 2) := by decide +kernel
theorem dX0_remember_52 : decode cX0_remember 52 = .ok (.irem, 1) := by decide +kernel
theorem dX0_remember_53 : decode cX0_remember 53 = .ok (.putfield 15, 3) := by decide +kernel
theorem dX0_remember_56 : decode cX0_remember 56 = .ok (.return_, 1) := by decide +kernel
theorem dX0_takeBack_0 : decode cX0_takeBack 0 = .ok (.aload_n 0, 1) := by decide +kernel
theorem dX0_takeBack_1 : decode cX0_takeBack 1 = .ok (.getfield 9, 3) := by decide +kernel
theorem dX0_takeBack_4 : decode cX0_takeBack 4 = .ok (.ifCond .le 34, 3) := by decide +kernel
theorem dX0_takeBack_7 : decode cX0_takeBack 7 = .ok (.aload_n 0, 1) := by decide +kernel
theorem dX0_takeBack_8 : decode cX0_takeBack 8 = .ok (.dup, 1) := by decide +kernel
theorem dX0_takeBack_9 : decode cX0_takeBack 9 = .ok (.getfield 9, 3) := by decide +kernel
theorem dX0_takeBack_12 : decode cX0_takeBack 12 = .ok (.iconst 1, 1) := by decide +kernel
theorem dX0_takeBack_13 : decode cX0_takeBack 13 = .ok (.isub, 1) := by decide +kernel
theorem dX0_takeBack_14 : decode cX0_takeBack 14 = .ok (.putfield 9, 3) := by decide +kernel
theorem dX0_takeBack_17 : decode cX0_takeBack 17 = .ok (.aload_n 0, 1) := by decide +kernel
theorem dX0_takeBack_18 : decode cX0_takeBack 18 = .ok (.getfield 20, 3) := by decide +kernel
theorem dX0_takeBack_21 : decode cX0_takeBack 21 = .ok (.aload_n 0, 1) := by decide +kernel
theorem dX0_takeBack_22 : decode cX0_takeBack 22 = .ok (.getfield 15, 3) := by decide +kernel
theorem dX0_takeBack_25 : decode cX0_takeBack 25 = .ok (.aload_n 0, 1) := by decide +kernel
theorem dX0_takeBack_26 : decode cX0_takeBack 26 = .ok (.getfield 9, 3) := by decide +kernel
theorem dX0_takeBack_29 : decode cX0_takeBack 29 = .ok (.iadd, 1) := by decide +kernel
theorem dX0_takeBack_30 : decode cX0_takeBack 30 = .ok (.bipush 14, 2) := by decide +kernel
theorem dX0_takeBack_32 : decode cX0_takeBack 32 = .ok (.irem, 1) := by decide +kernel
theorem dX0_takeBack_33 : decode cX0_takeBack 33 = .ok (.aaload, 1) := by decide +kernel
theorem dX0_takeBack_34 : decode cX0_takeBack 34 = .ok (.aload_n 1, 1) := by decide +kernel
theorem dX0_takeBack_35 : decode cX0_takeBack 35 = .ok (.invokestatic 25, 3) := by decide +kernel
theorem dX0_takeBack_38 : decode cX0_takeBack 38 = .ok (.return_, 1) := by decide +kernel
theorem dX1_init_0 : decode cX1_init 0 = .ok (.aload_n 0, 1) := by decide +kernel
theorem dX1_init_1 : decode cX1_init 1 = .ok (.invokespecial 3, 3) := by decide +kernel
theorem dX1_init_4 : decode cX1_init 4 = .ok (.aload_n 0, 1) := by decide +kernel
theorem dX1_init_5 : decode cX1_init 5 = .ok (.iconst 0, 1) := by decide +kernel
theorem dX1_init_6 : decode cX1_init 6 = .ok (.putfield 9, 3) := by decide +kernel
theorem dX1_init_9 : decode cX1_init 9 = .ok (.aload_n 0, 1) := by decide +kernel
theorem dX1_init_10 : decode cX1_init 10 = .ok (.iconst 0, 1) := by decide +kernel
theorem dX1_init_11 : decode cX1_init 11 = .ok (.putfield 15, 3) := by decide +kernel
theorem dX1_init_14 : decode cX1_init 14 = .ok (.aload_n 0, 1) := by decide +kernel
theorem dX1_init_15 : decode cX1_init 15 = .ok (.bipush 8, 2) := by decide +kernel
theorem dX1_init_17 : decode cX1_init 17 = .ok (.newarray .int, 2) := by decide +kernel
theorem dX1_init_19 : decode cX1_init 19 = .ok (.putfield 18, 3) := by decide +kernel
theorem dX1_init_22 : decode cX1_init 22 = .ok (.aload_n 0, 1) := by decide +kernel
theorem dX1_init_23 : decode cX1_init 23 = .ok (.bipush 24, 2) := by decide +kernel
theorem dX1_init_25 : decode cX1_init 25 = .ok (.newarray .int, 2) := by decide +kernel
theorem dX1_init_27 : decode cX1_init 27 = .ok (.putfield 22, 3) := by decide +kernel
theorem dX1_init_30 : decode cX1_init 30 = .ok (.aload_n 0, 1) := by decide +kernel
theorem dX1_init_31 : decode cX1_init 31 = .ok (.bipush 8, 2) := by decide +kernel
theorem dX1_init_33 : decode cX1_init 33 = .ok (.newarray .int, 2) := by decide +kernel
theorem dX1_init_35 : decode cX1_init 35 = .ok (.putfield 25, 3) := by decide +kernel
theorem dX1_init_38 : decode cX1_init 38 = .ok (.aload_n 0, 1) := by decide +kernel
theorem dX1_init_39 : decode cX1_init 39 = .ok (.bipush 8, 2) := by decide +kernel
theorem dX1_init_41 : decode cX1_init 41 = .ok (.newarray .int, 2) := by decide +kernel
theorem dX1_init_43 : decode cX1_init 43 = .ok (.putfield 28, 3) := by decide +kernel
theorem dX1_init_46 : decode cX1_init 46 = .ok (.aload_n 0, 1) := by decide +kernel
theorem dX1_init_47 : decode cX1_init 47 = .ok (.getfield 28, 3) := by decide +kernel
theorem dX1_init_50 : decode cX1_init 50 = .ok (.bipush (-9), 2) := by decide +kernel
theorem dX1_init_52 : decode cX1_init 52 = .ok (.invokestatic 31, 3) := by decide +kernel
theorem dX1_init_55 : decode cX1_init 55 = .ok (.return_, 1) := by decide +kernel
theorem dX1_become_0 : decode cX1_become 0 = .ok (.aload_n 0, 1) := by decide +kernel
theorem dX1_become_1 : decode cX1_become 1 = .ok (.aload_n 1, 1) := by decide +kernel
theorem dX1_become_2 : decode cX1_become 2 = .ok (.getfield 9, 3) := by decide +kernel
theorem dX1_become_5 : decode cX1_become 5 = .ok (.putfield 9, 3) := by decide +kernel
theorem dX1_become_8 : decode cX1_become 8 = .ok (.aload_n 0, 1) := by decide +kernel
theorem dX1_become_9 : decode cX1_become 9 = .ok (.aload_n 1, 1) := by decide +kernel
theorem dX1_become_10 : decode cX1_become 10 = .ok (.getfield 15, 3) := by decide +kernel
theorem dX1_become_13 : decode cX1_become 13 = .ok (.putfield 15, 3) := by decide +kernel
theorem dX1_become_16 : decode cX1_become 16 = .ok (.aload_n 1, 1) := by decide +kernel
theorem dX1_become_17 : decode cX1_become 17 = .ok (.getfield 18, 3) := by decide +kernel
theorem dX1_become_20 : decode cX1_become 20 = .ok (.iconst 0, 1) := by decide +kernel
theorem dX1_become_21 : decode cX1_become 21 = .ok (.aload_n 0, 1) := by decide +kernel
theorem dX1_become_22 : decode cX1_become 22 = .ok (.getfield 18, 3) := by decide +kernel
theorem dX1_become_25 : decode cX1_become 25 = .ok (.iconst 0, 1) := by decide +kernel
theorem dX1_become_26 : decode cX1_become 26 = .ok (.bipush 8, 2) := by decide +kernel
theorem dX1_become_28 : decode cX1_become 28 = .ok (.invokestatic 37, 3) := by decide +kernel
theorem dX1_become_31 : decode cX1_become 31 = .ok (.aload_n 1, 1) := by decide +kernel
theorem dX1_become_32 : decode cX1_become 32 = .ok (.getfield 22, 3) := by decide +kernel
theorem dX1_become_35 : decode cX1_become 35 = .ok (.iconst 0, 1) := by decide +kernel
theorem dX1_become_36 : decode cX1_become 36 = .ok (.aload_n 0, 1) := by decide +kernel
theorem dX1_become_37 : decode cX1_become 37 = .ok (.getfield 22, 3) := by decide +kernel
theorem dX1_become_40 : decode cX1_become 40 = .ok (.iconst 0, 1) := by decide +kernel
theorem dX1_become_41 : decode cX1_become 41 = .ok (.bipush 24, 2) := by decide +kernel
theorem dX1_become_43 : decode cX1_become 43 = .ok (.invokestatic 37, 3) := by decide +kernel
theorem dX1_become_46 : decode cX1_become 46 = .ok (.aload_n 1, 1) := by decide +kernel
theorem dX1_become_47 : decode cX1_become 47 = .ok (.getfield 25, 3) := by decide +kernel
theorem dX1_become_50 : decode cX1_become 50 = .ok (.iconst 0, 1) := by decide +kernel
theorem dX1_become_51 : decode cX1_become 51 = .ok (.aload_n 0, 1) := by decide +kernel
theorem dX1_become_52 : decode cX1_become 52 = .ok (.getfield 25, 3) := by decide +kernel
theorem dX1_become_55 : decode cX1_become 55 = .ok (.iconst 0, 1) := by decide +kernel
theorem dX1_become_56 : decode cX1_become 56 = .ok (.bipush 8, 2) := by decide +kernel
theorem dX1_become_58 : decode cX1_become 58 = .ok (.invokestatic 37, 3) := by decide +kernel
theorem dX1_become_61 : decode cX1_become 61 = .ok (.aload_n 1, 1) := by decide +kernel
theorem dX1_become_62 : decode cX1_become 62 = .ok (.getfield 28, 3) := by decide +kernel
theorem dX1_become_65 : decode cX1_become 65 = .ok (.iconst 0, 1) := by decide +kernel
theorem dX1_become_66 : decode cX1_become 66 = .ok (.aload_n 0, 1) := by decide +kernel
theorem dX1_become_67 : decode cX1_become 67 = .ok (.getfield 28, 3) := by decide +kernel
theorem dX1_become_70 : decode cX1_become 70 = .ok (.iconst 0, 1) := by decide +kernel
theorem dX1_become_71 : decode cX1_become 71 = .ok (.bipush 8, 2) := by decide +kernel
theorem dX1_become_73 : decode cX1_become 73 = .ok (.invokestatic 37, 3) := by decide +kernel
theorem dX1_become_76 : decode cX1_become 76 = .ok (.return_, 1) := by decide +kernel
theorem dX1_equate_0 : decode cX1_equate 0 = .ok (.iload_n 1, 1) := by decide +kernel
theorem dX1_equate_1 : decode cX1_equate 1 = .ok (.ifCond .lt 9, 3) := by decide +kernel
theorem dX1_equate_4 : decode cX1_equate 4 = .ok (.iload_n 1, 1) := by decide +kernel
theorem dX1_equate_5 : decode cX1_equate 5 = .ok (.bipush 8, 2) := by decide +kernel
theorem dX1_equate_7 : decode cX1_equate 7 = .ok (.if_icmp .lt 4, 3) := by decide +kernel
theorem dX1_equate_10 : decode cX1_equate 10 = .ok (.return_, 1) := by decide +kernel
theorem dX1_equate_11 : decode cX1_equate 11 = .ok (.aload_n 0, 1) := by decide +kernel
theorem dX1_equate_12 : decode cX1_equate 12 = .ok (.getfield 18, 3) := by decide +kernel
theorem dX1_equate_15 : decode cX1_equate 15 = .ok (.iload_n 1, 1) := by decide +kernel
theorem dX1_equate_16 : decode cX1_equate 16 = .ok (.iload_n 2, 1) := by decide +kernel
theorem dX1_equate_17 : decode cX1_equate 17 = .ok (.iastore, 1) := by decide +kernel
theorem dX1_equate_18 : decode cX1_equate 18 = .ok (.aload_n 0, 1) := by decide +kernel
theorem dX1_equate_19 : decode cX1_equate 19 = .ok (.iload_n 1, 1) := by decide +kernel
theorem dX1_equate_20 : decode cX1_equate 20 = .ok (.iconst 0, 1) := by decide +kernel
theorem dX1_equate_21 : decode cX1_equate 21 = .ok (.iload_n 3, 1) := by decide +kernel
theorem dX1_equate_22 : decode cX1_equate 22 = .ok (.invokevirtual 43, 3) := by decide +kernel
theorem dX1_equate_25 : decode cX1_equate 25 = .ok (.aload_n 0, 1) := by decide +kernel
theorem dX1_equate_26 : decode cX1_equate 26 = .ok (.iload_n 1, 1) := by decide +kernel
theorem dX1_equate_27 : decode cX1_equate 27 = .ok (.iconst 1, 1) := by decide +kernel
theorem dX1_equate_28 : decode cX1_equate 28 = .ok (.iload 4, 2) := by decide +kernel
theorem dX1_equate_30 : decode cX1_equate 30 = .ok (.invokevirtual 43, 3) := by decide +kernel
theorem dX1_equate_33 : decode cX1_equate 33 = .ok (.aload_n 0, 1) := by decide +kernel
theorem dX1_equate_34 : decode cX1_equate 34 = .ok (.iload_n 1, 1) := by decide +kernel
theorem dX1_equate_35 : decode cX1_equate 35 = .ok (.iconst 2, 1) := by decide +kernel
theorem dX1_equate_36 : decode cX1_equate 36 = .ok (.iload 5, 2) := by decide +kernel
theorem dX1_equate_38 : decode cX1_equate 38 = .ok (.invokevirtual 43, 3) := by decide +kernel
theorem dX1_equate_41 : decode cX1_equate 41 = .ok (.return_, 1) := by decide +kernel
theorem dX1_setPart_0 : decode cX1_setPart 0 = .ok (.iload_n 1, 1) := by decide +kernel
theorem dX1_setPart_1 : decode cX1_setPart 1 = .ok (.ifCond .lt 29, 3) := by decide +kernel
theorem dX1_setPart_4 : decode cX1_setPart 4 = .ok (.iload_n 1, 1) := by decide +kernel
theorem dX1_setPart_5 : decode cX1_setPart 5 = .ok (.bipush 8, 2) := by decide +kernel
theorem dX1_setPart_7 : decode cX1_setPart 7 = .ok (.if_icmp .ge 23, 3) := by decide +kernel
theorem dX1_setPart_10 : decode cX1_setPart 10 = .ok (.iload_n 2, 1) := by decide +kernel
theorem dX1_setPart_11 : decode cX1_setPart 11 = .ok (.ifCond .lt 19, 3) := by decide +kernel
theorem dX1_setPart_14 : decode cX1_setPart 14 = .ok (.iload_n 2, 1) := by decide +kernel
theorem dX1_setPart_15 : decode cX1_setPart 15 = .ok (.iconst 3, 1) := by decide +kernel
theorem dX1_setPart_16 : decode cX1_setPart 16 = .ok (.if_icmp .ge 14, 3) := by decide +kernel
theorem dX1_setPart_19 : decode cX1_setPart 19 = .ok (.aload_n 0, 1) := by decide +kernel
theorem dX1_setPart_20 : decode cX1_setPart 20 = .ok (.getfield 22, 3) := by decide +kernel
theorem dX1_setPart_23 : decode cX1_setPart 23 = .ok (.iload_n 1, 1) := by decide +kernel
theorem dX1_setPart_24 : decode cX1_setPart 24 = .ok (.iconst 3, 1) := by decide +kernel
theorem dX1_setPart_25 : decode cX1_setPart 25 = .ok (.imul, 1) := by decide +kernel
theorem dX1_setPart_26 : decode cX1_setPart 26 = .ok (.iload_n 2, 1) := by decide +kernel
theorem dX1_setPart_27 : decode cX1_setPart 27 = .ok (.iadd, 1) := by decide +kernel
theorem dX1_setPart_28 : decode cX1_setPart 28 = .ok (.iload_n 3, 1) := by decide +kernel
theorem dX1_setPart_29 : decode cX1_setPart 29 = .ok (.iastore, 1) := by decide +kernel
theorem dX1_setPart_30 : decode cX1_setPart 30 = .ok (.return_, 1) := by decide +kernel
theorem dX1_part_0 : decode cX1_part 0 = .ok (.iload_n 1, 1) := by decide +kernel
theorem dX1_part_1 : decode cX1_part 1 = .ok (.ifCond .lt 18, 3) := by decide +kernel
theorem dX1_part_4 : decode cX1_part 4 = .ok (.iload_n 1, 1) := by decide +kernel
theorem dX1_part_5 : decode cX1_part 5 = .ok (.bipush 8, 2) := by decide +kernel
theorem dX1_part_7 : decode cX1_part 7 = .ok (.if_icmp .ge 12, 3) := by decide +kernel
theorem dX1_part_10 : decode cX1_part 10 = .ok (.iload_n 2, 1) := by decide +kernel
theorem dX1_part_11 : decode cX1_part 11 = .ok (.ifCond .lt 8, 3) := by decide +kernel
theorem dX1_part_14 : decode cX1_part 14 = .ok (.iload_n 2, 1) := by decide +kernel
theorem dX1_part_15 : decode cX1_part 15 = .ok (.iconst 3, 1) := by decide +kernel
theorem dX1_part_16 : decode cX1_part 16 = .ok (.if_icmp .lt 5, 3) := by decide +kernel
theorem dX1_part_19 : decode cX1_part 19 = .ok (.iconst 0, 1) := by decide +kernel
theorem dX1_part_20 : decode cX1_part 20 = .ok (.ireturn, 1) := by decide +kernel
theorem dX1_part_21 : decode cX1_part 21 = .ok (.aload_n 0, 1) := by decide +kernel
theorem dX1_part_22 : decode cX1_part 22 = .ok (.getfield 22, 3) := by decide +kernel
theorem dX1_part_25 : decode cX1_part 25 = .ok (.iload_n 1, 1) := by decide +kernel
theorem dX1_part_26 : decode cX1_part 26 = .ok (.iconst 3, 1) := by decide +kernel
theorem dX1_part_27 : decode cX1_part 27 = .ok (.imul, 1) := by decide +kernel
theorem dX1_part_28 : decode cX1_part 28 = .ok (.iload_n 2, 1) := by decide +kernel
theorem dX1_part_29 : decode cX1_part 29 = .ok (.iadd, 1) := by decide +kernel
theorem dX1_part_30 : decode cX1_part 30 = .ok (.iaload, 1) := by decide +kernel
theorem dX1_part_31 : decode cX1_part 31 = .ok (.ireturn, 1) := by decide +kernel
theorem dX1_streamPart_0 : decode cX1_streamPart 0 = .ok (.aload_n 0, 1) := by decide +kernel
theorem dX1_streamPart_1 : decode cX1_streamPart 1 = .ok (.iload_n 1, 1) := by decide +kernel
theorem dX1_streamPart_2 : decode cX1_streamPart 2 = .ok (.iload_n 2, 1) := by decide +kernel
theorem dX1_streamPart_3 : decode cX1_streamPart 3 = .ok (.invokevirtual 47, 3) := by decide +kernel
theorem dX1_streamPart_6 : decode cX1_streamPart 6 = .ok (.istore_n 3, 1) := by decide +kernel
theorem dX1_streamPart_7 : decode cX1_streamPart 7 = .ok (.iload_n 3, 1) := by decide +kernel
theorem dX1_streamPart_8 : decode cX1_streamPart 8 = .ok (.ifCond .lt 9, 3) := by decide +kernel
theorem dX1_streamPart_11 : decode cX1_streamPart 11 = .ok (.iload_n 3, 1) := by decide +kernel
theorem dX1_streamPart_12 : decode cX1_streamPart 12 = .ok (.bipush 8, 2) := by decide +kernel
theorem dX1_streamPart_14 : decode cX1_streamPart 14 = .ok (.if_icmp .lt 7, 3) := by decide +kernel
theorem dX1_streamPart_17 : decode cX1_streamPart 17 = .ok (.iconst 0, 1) := by decide +kernel
theorem dX1_streamPart_18 : decode cX1_streamPart 18 = .ok (.goto 4, 3) := by decide +kernel
theorem dX1_streamPart_21 : decode cX1_streamPart 21 = .ok (.iload_n 3, 1) := by decide +kernel
theorem dX1_streamPart_22 : decode cX1_streamPart 22 = .ok (.ireturn, 1) := by decide +kernel
theorem dX1_kindOf_0 : decode cX1_kindOf 0 = .ok (.iload_n 1, 1) := by decide +kernel
theorem dX1_kindOf_1 : decode cX1_kindOf 1 = .ok (.ifCond .lt 9, 3) := by decide +kernel
theorem dX1_kindOf_4 : decode cX1_kindOf 4 = .ok (.iload_n 1, 1) := by decide +kernel
theorem dX1_kindOf_5 : decode cX1_kindOf 5 = .ok (.bipush 8, 2) := by decide +kernel
theorem dX1_kindOf_7 : decode cX1_kindOf 7 = .ok (.if_icmp .lt 7, 3) := by decide +kernel
theorem dX1_kindOf_10 : decode cX1_kindOf 10 = .ok (.iconst 1, 1) := by decide +kernel
theorem dX1_kindOf_11 : decode cX1_kindOf 11 = .ok (.goto 9, 3) := by decide +kernel
theorem dX1_kindOf_14 : decode cX1_kindOf 14 = .ok (.aload_n 0, 1) := by decide +kernel
theorem dX1_kindOf_15 : decode cX1_kindOf 15 = .ok (.getfield 18, 3) := by decide +kernel
theorem dX1_kindOf_18 : decode cX1_kindOf 18 = .ok (.iload_n 1, 1) := by decide +kernel
theorem dX1_kindOf_19 : decode cX1_kindOf 19 = .ok (.iaload, 1) := by decide +kernel
theorem dX1_kindOf_20 : decode cX1_kindOf 20 = .ok (.ireturn, 1) := by decide +kernel
theorem dX1_valueOf_0 : decode cX1_valueOf 0 = .ok (.iload_n 1, 1) := by decide +kernel
theorem dX1_valueOf_1 : decode cX1_valueOf 1 = .ok (.ifCond .lt 9, 3) := by decide +kernel
theorem dX1_valueOf_4 : decode cX1_valueOf 4 = .ok (.iload_n 1, 1) := by decide +kernel
theorem dX1_valueOf_5 : decode cX1_valueOf 5 = .ok (.bipush 8, 2) := by decide +kernel
theorem dX1_valueOf_7 : decode cX1_valueOf 7 = .ok (.if_icmp .lt 8, 3) := by decide +kernel
theorem dX1_valueOf_10 : decode cX1_valueOf 10 = .ok (.bipush (-9), 2) := by decide +kernel
theorem dX1_valueOf_12 : decode cX1_valueOf 12 = .ok (.goto 9, 3) := by decide +kernel
theorem dX1_valueOf_15 : decode cX1_valueOf 15 = .ok (.aload_n 0, 1) := by decide +kernel
theorem dX1_valueOf_16 : decode cX1_valueOf 16 = .ok (.getfield 28, 3) := by decide +kernel
theorem dX1_valueOf_19 : decode cX1_valueOf 19 = .ok (.iload_n 1, 1) := by decide +kernel
theorem dX1_valueOf_20 : decode cX1_valueOf 20 = .ok (.iaload, 1) := by decide +kernel
theorem dX1_valueOf_21 : decode cX1_valueOf 21 = .ok (.ireturn, 1) := by decide +kernel
theorem dX1_restart_0 : decode cX1_restart 0 = .ok (.aload_n 0, 1) := by decide +kernel
theorem dX1_restart_1 : decode cX1_restart 1 = .ok (.iconst 0, 1) := by decide +kernel
theorem dX1_restart_2 : decode cX1_restart 2 = .ok (.putfield 15, 3) := by decide +kernel
theorem dX1_restart_5 : decode cX1_restart 5 = .ok (.iconst 0, 1) := by decide +kernel
theorem dX1_restart_6 : decode cX1_restart 6 = .ok (.istore_n 1, 1) := by decide +kernel
theorem dX1_restart_7 : decode cX1_restart 7 = .ok (.iload_n 1, 1) := by decide +kernel
theorem dX1_restart_8 : decode cX1_restart 8 = .ok (.bipush 8, 2) := by decide +kernel
theorem dX1_restart_10 : decode cX1_restart 10 = .ok (.if_icmp .ge 40, 3) := by decide +kernel
theorem dX1_restart_13 : decode cX1_restart 13 = .ok (.aload_n 0, 1) := by decide +kernel
theorem dX1_restart_14 : decode cX1_restart 14 = .ok (.getfield 28, 3) := by decide +kernel
theorem dX1_restart_17 : decode cX1_restart 17 = .ok (.iload_n 1, 1) := by decide +kernel
theorem dX1_restart_18 : decode cX1_restart 18 = .ok (.bipush (-9), 2) := by decide +kernel
theorem dX1_restart_20 : decode cX1_restart 20 = .ok (.iastore, 1) := by decide +kernel
theorem dX1_restart_21 : decode cX1_restart 21 = .ok (.aload_n 0, 1) := by decide +kernel
theorem dX1_restart_22 : decode cX1_restart 22 = .ok (.getfield 25, 3) := by decide +kernel
theorem dX1_restart_25 : decode cX1_restart 25 = .ok (.iload_n 1, 1) := by decide +kernel
theorem dX1_restart_26 : decode cX1_restart 26 = .ok (.iload_n 1, 1) := by decide +kernel
theorem dX1_restart_27 : decode cX1_restart 27 = .ok (.aload_n 0, 1) := by decide +kernel
theorem dX1_restart_28 : decode cX1_restart 28 = .ok (.getfield 9, 3) := by decide +kernel
theorem dX1_restart_31 : decode cX1_restart 31 = .ok (.if_icmp .ge 11, 3) := by decide +kernel
theorem dX1_restart_34 : decode cX1_restart 34 = .ok (.aload_n 0, 1) := by decide +kernel
theorem dX1_restart_35 : decode cX1_restart 35 = .ok (.iload_n 1, 1) := by decide +kernel
theorem dX1_restart_36 : decode cX1_restart 36 = .ok (.invokevirtual 51, 3) := by decide +kernel
theorem dX1_restart_39 : decode cX1_restart 39 = .ok (.goto 4, 3) := by decide +kernel
theorem dX1_restart_42 : decode cX1_restart 42 = .ok (.iconst 0, 1) := by decide +kernel
theorem dX1_restart_43 : decode cX1_restart 43 = .ok (.iastore, 1) := by decide +kernel
theorem dX1_restart_44 : decode cX1_restart 44 = .ok (.iinc 1 1, 3) := by decide +kernel
theorem dX1_restart_47 : decode cX1_restart 47 = .ok (.goto (-40), 3) := by decide +kernel
theorem dX1_restart_50 : decode cX1_restart 50 = .ok (.return_, 1) := by decide +kernel
theorem dX1_heldAtFirst_0 : decode cX1_heldAtFirst 0 = .ok (.aload_n 0, 1) := by decide +kernel
theorem dX1_heldAtFirst_1 : decode cX1_heldAtFirst 1 = .ok (.iload_n 1, 1) := by decide +kernel
theorem dX1_heldAtFirst_2 : decode cX1_heldAtFirst 2 = .ok (.invokevirtual 55, 3) := by decide +kernel
theorem dX1_heldAtFirst_5 : decode cX1_heldAtFirst 5 = .ok (.lookupswitch 37 #[(6, 27), (7, 34)], 27) := by decide +kernel
theorem dX1_heldAtFirst_32 : decode cX1_heldAtFirst 32 = .ok (.aload_n 0, 1) := by decide +kernel
theorem dX1_heldAtFirst_33 : decode cX1_heldAtFirst 33 = .ok (.iload_n 1, 1) := by decide +kernel
theorem dX1_heldAtFirst_34 : decode cX1_heldAtFirst 34 = .ok (.iconst 0, 1) := by decide +kernel
theorem dX1_heldAtFirst_35 : decode cX1_heldAtFirst 35 = .ok (.invokevirtual 47, 3) := by decide +kernel
theorem dX1_heldAtFirst_38 : decode cX1_heldAtFirst 38 = .ok (.ireturn, 1) := by decide +kernel
theorem dX1_heldAtFirst_39 : decode cX1_heldAtFirst 39 = .ok (.bipush (-8), 2) := by decide +kernel
theorem dX1_heldAtFirst_41 : decode cX1_heldAtFirst 41 = .ok (.ireturn, 1) := by decide +kernel
theorem dX1_heldAtFirst_42 : decode cX1_heldAtFirst 42 = .ok (.iconst 0, 1) := by decide +kernel
theorem dX1_heldAtFirst_43 : decode cX1_heldAtFirst 43 = .ok (.ireturn, 1) := by decide +kernel
theorem dX1_thereBits_0 : decode cX1_thereBits 0 = .ok (.iconst 0, 1) := by decide +kernel
theorem dX1_thereBits_1 : decode cX1_thereBits 1 = .ok (.istore_n 1, 1) := by decide +kernel
theorem dX1_thereBits_2 : decode cX1_thereBits 2 = .ok (.iconst 0, 1) := by decide +kernel
theorem dX1_thereBits_3 : decode cX1_thereBits 3 = .ok (.istore_n 2, 1) := by decide +kernel
theorem dX1_thereBits_4 : decode cX1_thereBits 4 = .ok (.iload_n 2, 1) := by decide +kernel
theorem dX1_thereBits_5 : decode cX1_thereBits 5 = .ok (.bipush 8, 2) := by decide +kernel
theorem dX1_thereBits_7 : decode cX1_thereBits 7 = .ok (.if_icmp .ge 26, 3) := by decide +kernel
theorem dX1_thereBits_10 : decode cX1_thereBits 10 = .ok (.aload_n 0, 1) := by decide +kernel
theorem dX1_thereBits_11 : decode cX1_thereBits 11 = .ok (.getfield 28, 3) := by decide +kernel
theorem dX1_thereBits_14 : decode cX1_thereBits 14 = .ok (.iload_n 2, 1) := by decide +kernel
theorem dX1_thereBits_15 : decode cX1_thereBits 15 = .ok (.iaload, 1) := by decide +kernel
theorem dX1_thereBits_16 : decode cX1_thereBits 16 = .ok (.bipush (-9), 2) := by decide +kernel
theorem dX1_thereBits_18 : decode cX1_thereBits 18 = .ok (.if_icmp .eq 9, 3) := by decide +kernel
theorem dX1_thereBits_21 : decode cX1_thereBits 21 = .ok (.iload_n 1, 1) := by decide +kernel
theorem dX1_thereBits_22 : decode cX1_thereBits 22 = .ok (.iconst 1, 1) := by decide +kernel
theorem dX1_thereBits_23 : decode cX1_thereBits 23 = .ok (.iload_n 2, 1) := by decide +kernel
theorem dX1_thereBits_24 : decode cX1_thereBits 24 = .ok (.ishl, 1) := by decide +kernel
theorem dX1_thereBits_25 : decode cX1_thereBits 25 = .ok (.ior, 1) := by decide +kernel
theorem dX1_thereBits_26 : decode cX1_thereBits 26 = .ok (.istore_n 1, 1) := by decide +kernel
theorem dX1_thereBits_27 : decode cX1_thereBits 27 = .ok (.iinc 2 1, 3) := by decide +kernel
theorem dX1_thereBits_30 : decode cX1_thereBits 30 = .ok (.goto (-26), 3) := by decide +kernel
theorem dX1_thereBits_33 : decode cX1_thereBits 33 = .ok (.iload_n 1, 1) := by decide +kernel
theorem dX1_thereBits_34 : decode cX1_thereBits 34 = .ok (.ireturn, 1) := by decide +kernel
theorem dX1_sumOfThere_0 : decode cX1_sumOfThere 0 = .ok (.iconst 0, 1) := by decide +kernel
theorem dX1_sumOfThere_1 : decode cX1_sumOfThere 1 = .ok (.istore_n 1, 1) := by decide +kernel
theorem dX1_sumOfThere_2 : decode cX1_sumOfThere 2 = .ok (.iconst 0, 1) := by decide +kernel
theorem dX1_sumOfThere_3 : decode cX1_sumOfThere 3 = .ok (.istore_n 2, 1) := by decide +kernel
theorem dX1_sumOfThere_4 : decode cX1_sumOfThere 4 = .ok (.iload_n 2, 1) := by decide +kernel
theorem dX1_sumOfThere_5 : decode cX1_sumOfThere 5 = .ok (.bipush 8, 2) := by decide +kernel
theorem dX1_sumOfThere_7 : decode cX1_sumOfThere 7 = .ok (.if_icmp .ge 46, 3) := by decide +kernel
theorem dX1_sumOfThere_10 : decode cX1_sumOfThere 10 = .ok (.aload_n 0, 1) := by decide +kernel
theorem dX1_sumOfThere_11 : decode cX1_sumOfThere 11 = .ok (.getfield 28, 3) := by decide +kernel
theorem dX1_sumOfThere_14 : decode cX1_sumOfThere 14 = .ok (.iload_n 2, 1) := by decide +kernel
theorem dX1_sumOfThere_15 : decode cX1_sumOfThere 15 = .ok (.iaload, 1) := by decide +kernel
theorem dX1_sumOfThere_16 : decode cX1_sumOfThere 16 = .ok (.bipush (-9), 2) := by decide +kernel
theorem dX1_sumOfThere_18 : decode cX1_sumOfThere 18 = .ok (.if_icmp .eq 29, 3) := by decide +kernel
theorem dX1_sumOfThere_21 : decode cX1_sumOfThere 21 = .ok (.iload_n 1, 1) := by decide +kernel
theorem dX1_sumOfThere_22 : decode cX1_sumOfThere 22 = .ok (.iconst 1, 1) := by decide +kernel
theorem dX1_sumOfThere_23 : decode cX1_sumOfThere 23 = .ok (.aload_n 0, 1) := by decide +kernel
theorem dX1_sumOfThere_24 : decode cX1_sumOfThere 24 = .ok (.getfield 28, 3) := by decide +kernel
theorem dX1_sumOfThere_27 : decode cX1_sumOfThere 27 = .ok (.iload_n 2, 1) := by decide +kernel
theorem dX1_sumOfThere_28 : decode cX1_sumOfThere 28 = .ok (.iaload, 1) := by decide +kernel
theorem dX1_sumOfThere_29 : decode cX1_sumOfThere 29 = .ok (.bipush (-8), 2) := by decide +kernel
theorem dX1_sumOfThere_31 : decode cX1_sumOfThere 31 = .ok (.if_icmp .ne 7, 3) := by decide +kernel
theorem dX1_sumOfThere_34 : decode cX1_sumOfThere 34 = .ok (.iconst 0, 1) := by decide +kernel
theorem dX1_sumOfThere_35 : decode cX1_sumOfThere 35 = .ok (.goto 9, 3) := by decide +kernel
theorem dX1_sumOfThere_38 : decode cX1_sumOfThere 38 = .ok (.aload_n 0, 1) := by decide +kernel
theorem dX1_sumOfThere_39 : decode cX1_sumOfThere 39 = .ok (.getfield 28, 3) := by decide +kernel
theorem dX1_sumOfThere_42 : decode cX1_sumOfThere 42 = .ok (.iload_n 2, 1) := by decide +kernel
theorem dX1_sumOfThere_43 : decode cX1_sumOfThere 43 = .ok (.iaload, 1) := by decide +kernel
theorem dX1_sumOfThere_44 : decode cX1_sumOfThere 44 = .ok (.iadd, 1) := by decide +kernel
theorem dX1_sumOfThere_45 : decode cX1_sumOfThere 45 = .ok (.iadd, 1) := by decide +kernel
theorem dX1_sumOfThere_46 : decode cX1_sumOfThere 46 = .ok (.istore_n 1, 1) := by decide +kernel
theorem dX1_sumOfThere_47 : decode cX1_sumOfThere 47 = .ok (.iinc 2 1, 3) := by decide +kernel
theorem dX1_sumOfThere_50 : decode cX1_sumOfThere 50 = .ok (.goto (-46), 3) := by decide +kernel
theorem dX1_sumOfThere_53 : decode cX1_sumOfThere 53 = .ok (.iload_n 1, 1) := by decide +kernel
theorem dX1_sumOfThere_54 : decode cX1_sumOfThere 54 = .ok (.ireturn, 1) := by decide +kernel
theorem dX1_work_0 : decode cX1_work 0 = .ok (.aload_n 0, 1) := by decide +kernel
theorem dX1_work_1 : decode cX1_work 1 = .ok (.getfield 28, 3) := by decide +kernel
theorem dX1_work_4 : decode cX1_work 4 = .ok (.bipush (-9), 2) := by decide +kernel
theorem dX1_work_6 : decode cX1_work 6 = .ok (.invokestatic 31, 3) := by decide +kernel
theorem dX1_work_9 : decode cX1_work 9 = .ok (.iconst 0, 1) := by decide +kernel
theorem dX1_work_10 : decode cX1_work 10 = .ok (.istore 4, 2) := by decide +kernel
theorem dX1_work_12 : decode cX1_work 12 = .ok (.iload 4, 2) := by decide +kernel
theorem dX1_work_14 : decode cX1_work 14 = .ok (.bipush 8, 2) := by decide +kernel
theorem dX1_work_16 : decode cX1_work 16 = .ok (.if_icmp .ge 68, 3) := by decide +kernel
theorem dX1_work_19 : decode cX1_work 19 = .ok (.iload 4, 2) := by decide +kernel
theorem dX1_work_21 : decode cX1_work 21 = .ok (.aload_n 0, 1) := by decide +kernel
theorem dX1_work_22 : decode cX1_work 22 = .ok (.getfield 9, 3) := by decide +kernel
theorem dX1_work_25 : decode cX1_work 25 = .ok (.if_icmp .ge 59, 3) := by decide +kernel
theorem dX1_work_28 : decode cX1_work 28 = .ok (.aload_n 1, 1) := by decide +kernel
theorem dX1_work_29 : decode cX1_work 29 = .ok (.getfield 58, 3) := by decide +kernel
theorem dX1_work_32 : decode cX1_work 32 = .ok (.iload 4, 2) := by decide +kernel
theorem dX1_work_34 : decode cX1_work 34 = .ok (.iaload, 1) := by decide +kernel
theorem dX1_work_35 : decode cX1_work 35 = .ok (.istore 5, 2) := by decide +kernel
theorem dX1_work_37 : decode cX1_work 37 = .ok (.iload 5, 2) := by decide +kernel
theorem dX1_work_39 : decode cX1_work 39 = .ok (.ifCond .lt 39, 3) := by decide +kernel
theorem dX1_work_42 : decode cX1_work 42 = .ok (.iload 5, 2) := by decide +kernel
theorem dX1_work_44 : decode cX1_work 44 = .ok (.bipush 8, 2) := by decide +kernel
theorem dX1_work_46 : decode cX1_work 46 = .ok (.if_icmp .ge 32, 3) := by decide +kernel
theorem dX1_work_49 : decode cX1_work 49 = .ok (.aload_n 0, 1) := by decide +kernel
theorem dX1_work_50 : decode cX1_work 50 = .ok (.aload_n 1, 1) := by decide +kernel
theorem dX1_work_51 : decode cX1_work 51 = .ok (.getfield 63, 3) := by decide +kernel
theorem dX1_work_54 : decode cX1_work 54 = .ok (.iload 5, 2) := by decide +kernel
theorem dX1_work_56 : decode cX1_work 56 = .ok (.iaload, 1) := by decide +kernel
theorem dX1_work_57 : decode cX1_work 57 = .ok (.invokevirtual 66, 3) := by decide +kernel
theorem dX1_work_60 : decode cX1_work 60 = .ok (.ifCond .eq 18, 3) := by decide +kernel
theorem dX1_work_63 : decode cX1_work 63 = .ok (.aload_n 0, 1) := by decide +kernel
theorem dX1_work_64 : decode cX1_work 64 = .ok (.getfield 28, 3) := by decide +kernel
theorem dX1_work_67 : decode cX1_work 67 = .ok (.iload 5, 2) := by decide +kernel
theorem dX1_work_69 : decode cX1_work 69 = .ok (.aload_n 0, 1) := by decide +kernel
theorem dX1_work_70 : decode cX1_work 70 = .ok (.iload 5, 2) := by decide +kernel
theorem dX1_work_72 : decode cX1_work 72 = .ok (.iload_n 2, 1) := by decide +kernel
theorem dX1_work_73 : decode cX1_work 73 = .ok (.iload_n 3, 1) := by decide +kernel
theorem dX1_work_74 : decode cX1_work 74 = .ok (.invokevirtual 70, 3) := by decide +kernel
theorem dX1_work_77 : decode cX1_work 77 = .ok (.iastore, 1) := by decide +kernel
theorem dX1_work_78 : decode cX1_work 78 = .ok (.iinc 4 1, 3) := by decide +kernel
theorem dX1_work_81 : decode cX1_work 81 = .ok (.goto (-69), 3) := by decide +kernel
theorem dX1_work_84 : decode cX1_work 84 = .ok (.iconst 0, 1) := by decide +kernel
theorem dX1_work_85 : decode cX1_work 85 = .ok (.istore 4, 2) := by decide +kernel
theorem dX1_work_87 : decode cX1_work 87 = .ok (.iload 4, 2) := by decide +kernel
theorem dX1_work_89 : decode cX1_work 89 = .ok (.bipush 8, 2) := by decide +kernel
theorem dX1_work_91 : decode cX1_work 91 = .ok (.if_icmp .ge 43, 3) := by decide +kernel
theorem dX1_work_94 : decode cX1_work 94 = .ok (.iload 4, 2) := by decide +kernel
theorem dX1_work_96 : decode cX1_work 96 = .ok (.aload_n 0, 1) := by decide +kernel
theorem dX1_work_97 : decode cX1_work 97 = .ok (.getfield 9, 3) := by decide +kernel
theorem dX1_work_100 : decode cX1_work 100 = .ok (.if_icmp .ge 34, 3) := by decide +kernel
theorem dX1_work_103 : decode cX1_work 103 = .ok (.aload_n 0, 1) := by decide +kernel
theorem dX1_work_104 : decode cX1_work 104 = .ok (.getfield 28, 3) := by decide +kernel
theorem dX1_work_107 : decode cX1_work 107 = .ok (.iload 4, 2) := by decide +kernel
theorem dX1_work_109 : decode cX1_work 109 = .ok (.iaload, 1) := by decide +kernel
theorem dX1_work_110 : decode cX1_work 110 = .ok (.bipush (-9), 2) := by decide +kernel
theorem dX1_work_112 : decode cX1_work 112 = .ok (.if_icmp .eq 16, 3) := by decide +kernel
theorem dX1_work_115 : decode cX1_work 115 = .ok (.aload_n 0, 1) := by decide +kernel
theorem dX1_work_116 : decode cX1_work 116 = .ok (.getfield 25, 3) := by decide +kernel
theorem dX1_work_119 : decode cX1_work 119 = .ok (.iload 4, 2) := by decide +kernel
theorem dX1_work_121 : decode cX1_work 121 = .ok (.aload_n 0, 1) := by decide +kernel
theorem dX1_work_122 : decode cX1_work 122 = .ok (.iload 4, 2) := by decide +kernel
theorem dX1_work_124 : decode cX1_work 124 = .ok (.invokevirtual 74, 3) := by decide +kernel
theorem dX1_work_127 : decode cX1_work 127 = .ok (.iastore, 1) := by decide +kernel
theorem dX1_work_128 : decode cX1_work 128 = .ok (.iinc 4 1, 3) := by decide +kernel
theorem dX1_work_131 : decode cX1_work 131 = .ok (.goto (-44), 3) := by decide +kernel
theorem dX1_work_134 : decode cX1_work 134 = .ok (.aload_n 0, 1) := by decide +kernel
theorem dX1_work_135 : decode cX1_work 135 = .ok (.dup, 1) := by decide +kernel
theorem dX1_work_136 : decode cX1_work 136 = .ok (.getfield 15, 3) := by decide +kernel
theorem dX1_work_139 : decode cX1_work 139 = .ok (.iconst 1, 1) := by decide +kernel
theorem dX1_work_140 : decode cX1_work 140 = .ok (.iadd, 1) := by decide +kernel
theorem dX1_work_141 : decode cX1_work 141 = .ok (.putfield 15, 3) := by decide +kernel
theorem dX1_work_144 : decode cX1_work 144 = .ok (.return_, 1) := by decide +kernel
theorem dX1_isThere_0 : decode cX1_isThere 0 = .ok (.iload_n 1, 1) := by decide +kernel
theorem dX1_isThere_1 : decode cX1_isThere 1 = .ok (.ifCond .ge 5, 3) := by decide +kernel
theorem dX1_isThere_4 : decode cX1_isThere 4 = .ok (.iconst 1, 1) := by decide +kernel
theorem dX1_isThere_5 : decode cX1_isThere 5 = .ok (.ireturn, 1) := by decide +kernel
theorem dX1_isThere_6 : decode cX1_isThere 6 = .ok (.aload_n 0, 1) := by decide +kernel
theorem dX1_isThere_7 : decode cX1_isThere 7 = .ok (.iload_n 1, 1) := by decide +kernel
theorem dX1_isThere_8 : decode cX1_isThere 8 = .ok (.invokestatic 77, 3) := by decide +kernel
theorem dX1_isThere_11 : decode cX1_isThere 11 = .ok (.invokevirtual 80, 3) := by decide +kernel
theorem dX1_isThere_14 : decode cX1_isThere 14 = .ok (.istore_n 2, 1) := by decide +kernel
theorem dX1_isThere_15 : decode cX1_isThere 15 = .ok (.iload_n 2, 1) := by decide +kernel
theorem dX1_isThere_16 : decode cX1_isThere 16 = .ok (.bipush (-9), 2) := by decide +kernel
theorem dX1_isThere_18 : decode cX1_isThere 18 = .ok (.if_icmp .eq 9, 3) := by decide +kernel
theorem dX1_isThere_21 : decode cX1_isThere 21 = .ok (.iload_n 2, 1) := by decide +kernel
theorem dX1_isThere_22 : decode cX1_isThere 22 = .ok (.bipush (-8), 2) := by decide +kernel
theorem dX1_isThere_24 : decode cX1_isThere 24 = .ok (.if_icmp .ne 5, 3) := by decide +kernel
theorem dX1_isThere_27 : decode cX1_isThere 27 = .ok (.iconst 0, 1) := by decide +kernel
theorem dX1_isThere_28 : decode cX1_isThere 28 = .ok (.ireturn, 1) := by decide +kernel
theorem dX1_isThere_29 : decode cX1_isThere 29 = .ok (.iload_n 2, 1) := by decide +kernel
theorem dX1_isThere_30 : decode cX1_isThere 30 = .ok (.ifCond .eq 7, 3) := by decide +kernel
theorem dX1_isThere_33 : decode cX1_isThere 33 = .ok (.iconst 1, 1) := by decide +kernel
theorem dX1_isThere_34 : decode cX1_isThere 34 = .ok (.goto 4, 3) := by decide +kernel
theorem dX1_isThere_37 : decode cX1_isThere 37 = .ok (.iconst 0, 1) := by decide +kernel
theorem dX1_isThere_38 : decode cX1_isThere 38 = .ok (.iload_n 1, 1) := by decide +kernel
theorem dX1_isThere_39 : decode cX1_isThere 39 = .ok (.bipush 10, 2) := by decide +kernel
theorem dX1_isThere_41 : decode cX1_isThere 41 = .ok (.irem, 1) := by decide +kernel
theorem dX1_isThere_42 : decode cX1_isThere 42 = .ok (.iconst 1, 1) := by decide +kernel
theorem dX1_isThere_43 : decode cX1_isThere 43 = .ok (.if_icmp .ne 7, 3) := by decide +kernel
theorem dX1_isThere_46 : decode cX1_isThere 46 = .ok (.iconst 1, 1) := by decide +kernel
theorem dX1_isThere_47 : decode cX1_isThere 47 = .ok (.goto 4, 3) := by decide +kernel
theorem dX1_isThere_50 : decode cX1_isThere 50 = .ok (.iconst 0, 1) := by decide +kernel
theorem dX1_isThere_51 : decode cX1_isThere 51 = .ok (.if_icmp .ne 7, 3) := by decide +kernel
theorem dX1_isThere_54 : decode cX1_isThere 54 = .ok (.iconst 1, 1) := by decide +kernel
theorem dX1_isThere_55 : decode cX1_isThere 55 = .ok (.goto 4, 3) := by decide +kernel
theorem dX1_isThere_58 : decode cX1_isThere 58 = .ok (.iconst 0, 1) := by decide +kernel
theorem dX1_isThere_59 : decode cX1_isThere 59 = .ok (.ireturn, 1) := by decide +kernel
theorem dX1_heldNext_0 : decode cX1_heldNext 0 = .ok (.aload_n 0, 1) := by decide +kernel
theorem dX1_heldNext_1 : decode cX1_heldNext 1 = .ok (.iload_n 1, 1) := by decide +kernel
theorem dX1_heldNext_2 : decode cX1_heldNext 2 = .ok (.invokevirtual 55, 3) := by decide +kernel
theorem dX1_heldNext_5 : decode cX1_heldNext 5 = .ok (.tableswitch 51 6 8 #[27, 38, 49], 27) := by decide +kernel
theorem dX1_heldNext_32 : decode cX1_heldNext 32 = .ok (.aload_n 0, 1) := by decide +kernel
theorem dX1_heldNext_33 : decode cX1_heldNext 33 = .ok (.aload_n 0, 1) := by decide +kernel
theorem dX1_heldNext_34 : decode cX1_heldNext 34 = .ok (.iload_n 1, 1) := by decide +kernel
theorem dX1_heldNext_35 : decode cX1_heldNext 35 = .ok (.iconst 1, 1) := by decide +kernel
theorem dX1_heldNext_36 : decode cX1_heldNext 36 = .ok (.invokevirtual 47, 3) := by decide +kernel
theorem dX1_heldNext_39 : decode cX1_heldNext 39 = .ok (.invokevirtual 80, 3) := by decide +kernel
theorem dX1_heldNext_42 : decode cX1_heldNext 42 = .ok (.ireturn, 1) := by decide +kernel
theorem dX1_heldNext_43 : decode cX1_heldNext 43 = .ok (.aload_n 0, 1) := by decide +kernel
theorem dX1_heldNext_44 : decode cX1_heldNext 44 = .ok (.aload_n 0, 1) := by decide +kernel
theorem dX1_heldNext_45 : decode cX1_heldNext 45 = .ok (.iload_n 1, 1) := by decide +kernel
theorem dX1_heldNext_46 : decode cX1_heldNext 46 = .ok (.iconst 0, 1) := by decide +kernel
theorem dX1_heldNext_47 : decode cX1_heldNext 47 = .ok (.invokevirtual 47, 3) := by decide +kernel
theorem dX1_heldNext_50 : decode cX1_heldNext 50 = .ok (.invokevirtual 80, 3) := by decide +kernel
theorem dX1_heldNext_53 : decode cX1_heldNext 53 = .ok (.ireturn, 1) := by decide +kernel
theorem dX1_heldNext_54 : decode cX1_heldNext 54 = .ok (.iconst 1, 1) := by decide +kernel
theorem dX1_heldNext_55 : decode cX1_heldNext 55 = .ok (.ireturn, 1) := by decide +kernel
theorem dX1_heldNext_56 : decode cX1_heldNext 56 = .ok (.iconst 0, 1) := by decide +kernel
theorem dX1_heldNext_57 : decode cX1_heldNext 57 = .ok (.ireturn, 1) := by decide +kernel
theorem dX1_reckon_0 : decode cX1_reckon 0 = .ok (.aload_n 0, 1) := by decide +kernel
theorem dX1_reckon_1 : decode cX1_reckon 1 = .ok (.iload_n 1, 1) := by decide +kernel
theorem dX1_reckon_2 : decode cX1_reckon 2 = .ok (.iconst 0, 1) := by decide +kernel
theorem dX1_reckon_3 : decode cX1_reckon 3 = .ok (.invokevirtual 47, 3) := by decide +kernel
theorem dX1_reckon_6 : decode cX1_reckon 6 = .ok (.istore 4, 2) := by decide +kernel
theorem dX1_reckon_8 : decode cX1_reckon 8 = .ok (.aload_n 0, 1) := by decide +kernel
theorem dX1_reckon_9 : decode cX1_reckon 9 = .ok (.iload_n 1, 1) := by decide +kernel
theorem dX1_reckon_10 : decode cX1_reckon 10 = .ok (.iconst 1, 1) := by decide +kernel
theorem dX1_reckon_11 : decode cX1_reckon 11 = .ok (.invokevirtual 47, 3) := by decide +kernel
theorem dX1_reckon_14 : decode cX1_reckon 14 = .ok (.istore 5, 2) := by decide +kernel
theorem dX1_reckon_16 : decode cX1_reckon 16 = .ok (.aload_n 0, 1) := by decide +kernel
theorem dX1_reckon_17 : decode cX1_reckon 17 = .ok (.iload_n 1, 1) := by decide +kernel
theorem dX1_reckon_18 : decode cX1_reckon 18 = .ok (.invokevirtual 55, 3) := by decide +kernel
theorem dX1_reckon_21 : decode cX1_reckon 21 = .ok (.tableswitch 146 0 11 #[63, 74, 77, 77, 77, 99, 118, 118, 125, 146, 146, 99], 63) := by decide +kernel
theorem dX1_reckon_84 : decode cX1_reckon 84 = .ok (.iload 4, 2) := by decide +kernel
theorem dX1_reckon_86 : decode cX1_reckon 86 = .ok (.ifCond .ne 7, 3) := by decide +kernel
theorem dX1_reckon_89 : decode cX1_reckon 89 = .ok (.iload_n 2, 1) := by decide +kernel
theorem dX1_reckon_90 : decode cX1_reckon 90 = .ok (.goto 4, 3) := by decide +kernel
theorem dX1_reckon_93 : decode cX1_reckon 93 = .ok (.iload_n 3, 1) := by decide +kernel
theorem dX1_reckon_94 : decode cX1_reckon 94 = .ok (.ireturn, 1) := by decide +kernel
theorem dX1_reckon_95 : decode cX1_reckon 95 = .ok (.iload 4, 2) := by decide +kernel
theorem dX1_reckon_97 : decode cX1_reckon 97 = .ok (.ireturn, 1) := by decide +kernel
theorem dX1_reckon_98 : decode cX1_reckon 98 = .ok (.aload_n 0, 1) := by decide +kernel
theorem dX1_reckon_99 : decode cX1_reckon 99 = .ok (.aload_n 0, 1) := by decide +kernel
theorem dX1_reckon_100 : decode cX1_reckon 100 = .ok (.iload_n 1, 1) := by decide +kernel
theorem dX1_reckon_101 : decode cX1_reckon 101 = .ok (.invokevirtual 55, 3) := by decide +kernel
theorem dX1_reckon_104 : decode cX1_reckon 104 = .ok (.aload_n 0, 1) := by decide +kernel
theorem dX1_reckon_105 : decode cX1_reckon 105 = .ok (.iload 4, 2) := by decide +kernel
theorem dX1_reckon_107 : decode cX1_reckon 107 = .ok (.invokevirtual 80, 3) := by decide +kernel
theorem dX1_reckon_110 : decode cX1_reckon 110 = .ok (.aload_n 0, 1) := by decide +kernel
theorem dX1_reckon_111 : decode cX1_reckon 111 = .ok (.iload 5, 2) := by decide +kernel
theorem dX1_reckon_113 : decode cX1_reckon 113 = .ok (.invokevirtual 80, 3) := by decide +kernel
theorem dX1_reckon_116 : decode cX1_reckon 116 = .ok (.invokevirtual 83, 3) := by decide +kernel
theorem dX1_reckon_119 : decode cX1_reckon 119 = .ok (.ireturn, 1) := by decide +kernel
theorem dX1_reckon_120 : decode cX1_reckon 120 = .ok (.aload_n 0, 1) := by decide +kernel
theorem dX1_reckon_121 : decode cX1_reckon 121 = .ok (.aload_n 0, 1) := by decide +kernel
theorem dX1_reckon_122 : decode cX1_reckon 122 = .ok (.iload 4, 2) := by decide +kernel
theorem dX1_reckon_124 : decode cX1_reckon 124 = .ok (.invokevirtual 80, 3) := by decide +kernel
theorem dX1_reckon_127 : decode cX1_reckon 127 = .ok (.iload 5, 2) := by decide +kernel
theorem dX1_reckon_129 : decode cX1_reckon 129 = .ok (.aload_n 0, 1) := by decide +kernel
theorem dX1_reckon_130 : decode cX1_reckon 130 = .ok (.iload_n 1, 1) := by decide +kernel
theorem dX1_reckon_131 : decode cX1_reckon 131 = .ok (.iconst 2, 1) := by decide +kernel
theorem dX1_reckon_132 : decode cX1_reckon 132 = .ok (.invokevirtual 47, 3) := by decide +kernel
theorem dX1_reckon_135 : decode cX1_reckon 135 = .ok (.invokevirtual 86, 3) := by decide +kernel
theorem dX1_reckon_138 : decode cX1_reckon 138 = .ok (.ireturn, 1) := by decide +kernel
theorem dX1_reckon_139 : decode cX1_reckon 139 = .ok (.aload_n 0, 1) := by decide +kernel
theorem dX1_reckon_140 : decode cX1_reckon 140 = .ok (.getfield 25, 3) := by decide +kernel
theorem dX1_reckon_143 : decode cX1_reckon 143 = .ok (.iload_n 1, 1) := by decide +kernel
theorem dX1_reckon_144 : decode cX1_reckon 144 = .ok (.iaload, 1) := by decide +kernel
theorem dX1_reckon_145 : decode cX1_reckon 145 = .ok (.ireturn, 1) := by decide +kernel
theorem dX1_reckon_146 : decode cX1_reckon 146 = .ok (.aload_n 0, 1) := by decide +kernel
theorem dX1_reckon_147 : decode cX1_reckon 147 = .ok (.aload_n 0, 1) := by decide +kernel
theorem dX1_reckon_148 : decode cX1_reckon 148 = .ok (.getfield 25, 3) := by decide +kernel
theorem dX1_reckon_151 : decode cX1_reckon 151 = .ok (.iload_n 1, 1) := by decide +kernel
theorem dX1_reckon_152 : decode cX1_reckon 152 = .ok (.iaload, 1) := by decide +kernel
theorem dX1_reckon_153 : decode cX1_reckon 153 = .ok (.ifCond .ne 8, 3) := by decide +kernel
theorem dX1_reckon_156 : decode cX1_reckon 156 = .ok (.iload 4, 2) := by decide +kernel
theorem dX1_reckon_158 : decode cX1_reckon 158 = .ok (.goto 5, 3) := by decide +kernel
theorem dX1_reckon_161 : decode cX1_reckon 161 = .ok (.iload 5, 2) := by decide +kernel
theorem dX1_reckon_163 : decode cX1_reckon 163 = .ok (.invokevirtual 80, 3) := by decide +kernel
theorem dX1_reckon_166 : decode cX1_reckon 166 = .ok (.ireturn, 1) := by decide +kernel
theorem dX1_reckon_167 : decode cX1_reckon 167 = .ok (.aload_n 0, 1) := by decide +kernel
theorem dX1_reckon_168 : decode cX1_reckon 168 = .ok (.iload 4, 2) := by decide +kernel
theorem dX1_reckon_170 : decode cX1_reckon 170 = .ok (.invokevirtual 80, 3) := by decide +kernel
theorem dX1_reckon_173 : decode cX1_reckon 173 = .ok (.ireturn, 1) := by decide +kernel
theorem dX1_combine_0 : decode cX1_combine 0 = .ok (.iload_n 2, 1) := by decide +kernel
theorem dX1_combine_1 : decode cX1_combine 1 = .ok (.bipush (-8), 2) := by decide +kernel
theorem dX1_combine_3 : decode cX1_combine 3 = .ok (.if_icmp .eq 9, 3) := by decide +kernel
theorem dX1_combine_6 : decode cX1_combine 6 = .ok (.iload_n 3, 1) := by decide +kernel
theorem dX1_combine_7 : decode cX1_combine 7 = .ok (.bipush (-8), 2) := by decide +kernel
theorem dX1_combine_9 : decode cX1_combine 9 = .ok (.if_icmp .ne 6, 3) := by decide +kernel
theorem dX1_combine_12 : decode cX1_combine 12 = .ok (.bipush (-8), 2) := by decide +kernel
theorem dX1_combine_14 : decode cX1_combine 14 = .ok (.ireturn, 1) := by decide +kernel
theorem dX1_combine_15 : decode cX1_combine 15 = .ok (.iload_n 1, 1) := by decide +kernel
theorem dX1_combine_16 : decode cX1_combine 16 = .ok (.lookupswitch 45 #[(2, 28), (3, 35)], 28) := by decide +kernel
theorem dX1_combine_44 : decode cX1_combine 44 = .ok (.iload_n 2, 1) := by decide +kernel
theorem dX1_combine_45 : decode cX1_combine 45 = .ok (.iload_n 3, 1) := by decide +kernel
theorem dX1_combine_46 : decode cX1_combine 46 = .ok (.iadd, 1) := by decide +kernel
theorem dX1_combine_47 : decode cX1_combine 47 = .ok (.bipush 100, 2) := by decide +kernel
theorem dX1_combine_49 : decode cX1_combine 49 = .ok (.irem, 1) := by decide +kernel
theorem dX1_combine_50 : decode cX1_combine 50 = .ok (.ireturn, 1) := by decide +kernel
theorem dX1_combine_51 : decode cX1_combine 51 = .ok (.iload_n 2, 1) := by decide +kernel
theorem dX1_combine_52 : decode cX1_combine 52 = .ok (.iload_n 3, 1) := by decide +kernel
theorem dX1_combine_53 : decode cX1_combine 53 = .ok (.isub, 1) := by decide +kernel
theorem dX1_combine_54 : decode cX1_combine 54 = .ok (.bipush 100, 2) := by decide +kernel
theorem dX1_combine_56 : decode cX1_combine 56 = .ok (.iadd, 1) := by decide +kernel
theorem dX1_combine_57 : decode cX1_combine 57 = .ok (.bipush 100, 2) := by decide +kernel
theorem dX1_combine_59 : decode cX1_combine 59 = .ok (.irem, 1) := by decide +kernel
theorem dX1_combine_60 : decode cX1_combine 60 = .ok (.ireturn, 1) := by decide +kernel
theorem dX1_combine_61 : decode cX1_combine 61 = .ok (.iload_n 2, 1) := by decide +kernel
theorem dX1_combine_62 : decode cX1_combine 62 = .ok (.iload_n 3, 1) := by decide +kernel
theorem dX1_combine_63 : decode cX1_combine 63 = .ok (.if_icmp .ge 7, 3) := by decide +kernel
theorem dX1_combine_66 : decode cX1_combine 66 = .ok (.iconst 1, 1) := by decide +kernel
theorem dX1_combine_67 : decode cX1_combine 67 = .ok (.goto 4, 3) := by decide +kernel
theorem dX1_combine_70 : decode cX1_combine 70 = .ok (.iconst 0, 1) := by decide +kernel
theorem dX1_combine_71 : decode cX1_combine 71 = .ok (.ireturn, 1) := by decide +kernel
theorem dX1_choose_0 : decode cX1_choose 0 = .ok (.iload_n 1, 1) := by decide +kernel
theorem dX1_choose_1 : decode cX1_choose 1 = .ok (.bipush (-8), 2) := by decide +kernel
theorem dX1_choose_3 : decode cX1_choose 3 = .ok (.if_icmp .ne 6, 3) := by decide +kernel
theorem dX1_choose_6 : decode cX1_choose 6 = .ok (.bipush (-8), 2) := by decide +kernel
theorem dX1_choose_8 : decode cX1_choose 8 = .ok (.ireturn, 1) := by decide +kernel
theorem dX1_choose_9 : decode cX1_choose 9 = .ok (.aload_n 0, 1) := by decide +kernel
theorem dX1_choose_10 : decode cX1_choose 10 = .ok (.iload_n 1, 1) := by decide +kernel
theorem dX1_choose_11 : decode cX1_choose 11 = .ok (.ifCond .eq 7, 3) := by decide +kernel
theorem dX1_choose_14 : decode cX1_choose 14 = .ok (.iload_n 2, 1) := by decide +kernel
theorem dX1_choose_15 : decode cX1_choose 15 = .ok (.goto 4, 3) := by decide +kernel
theorem dX1_choose_18 : decode cX1_choose 18 = .ok (.iload_n 3, 1) := by decide +kernel
theorem dX1_choose_19 : decode cX1_choose 19 = .ok (.invokevirtual 80, 3) := by decide +kernel
theorem dX1_choose_22 : decode cX1_choose 22 = .ok (.ireturn, 1) := by decide +kernel
theorem dX3_init_0 : decode cX3_init 0 = .ok (.aload_n 0, 1) := by decide +kernel
theorem dX3_init_1 : decode cX3_init 1 = .ok (.invokespecial 3, 3) := by decide +kernel
theorem dX3_init_4 : decode cX3_init 4 = .ok (.aload_n 0, 1) := by decide +kernel
theorem dX3_init_5 : decode cX3_init 5 = .ok (.iconst 0, 1) := by decide +kernel
theorem dX3_init_6 : decode cX3_init 6 = .ok (.putfield 9, 3) := by decide +kernel
theorem dX3_init_9 : decode cX3_init 9 = .ok (.aload_n 0, 1) := by decide +kernel
theorem dX3_init_10 : decode cX3_init 10 = .ok (.bipush 6, 2) := by decide +kernel
theorem dX3_init_12 : decode cX3_init 12 = .ok (.newarray .int, 2) := by decide +kernel
theorem dX3_init_14 : decode cX3_init 14 = .ok (.putfield 15, 3) := by decide +kernel
theorem dX3_init_17 : decode cX3_init 17 = .ok (.aload_n 0, 1) := by decide +kernel
theorem dX3_init_18 : decode cX3_init 18 = .ok (.bipush 6, 2) := by decide +kernel
theorem dX3_init_20 : decode cX3_init 20 = .ok (.newarray .int, 2) := by decide +kernel
theorem dX3_init_22 : decode cX3_init 22 = .ok (.putfield 19, 3) := by decide +kernel
theorem dX3_init_25 : decode cX3_init 25 = .ok (.aload_n 0, 1) := by decide +kernel
theorem dX3_init_26 : decode cX3_init 26 = .ok (.bipush 6, 2) := by decide +kernel
theorem dX3_init_28 : decode cX3_init 28 = .ok (.newarray .int, 2) := by decide +kernel
theorem dX3_init_30 : decode cX3_init 30 = .ok (.putfield 22, 3) := by decide +kernel
theorem dX3_init_33 : decode cX3_init 33 = .ok (.aload_n 0, 1) := by decide +kernel
theorem dX3_init_34 : decode cX3_init 34 = .ok (.bipush 6, 2) := by decide +kernel
theorem dX3_init_36 : decode cX3_init 36 = .ok (.newarray .boolean, 2) := by decide +kernel
theorem dX3_init_38 : decode cX3_init 38 = .ok (.putfield 25, 3) := by decide +kernel
theorem dX3_init_41 : decode cX3_init 41 = .ok (.return_, 1) := by decide +kernel
theorem dX3_add_0 : decode cX3_add 0 = .ok (.aload_n 0, 1) := by decide +kernel
theorem dX3_add_1 : decode cX3_add 1 = .ok (.getfield 9, 3) := by decide +kernel
theorem dX3_add_4 : decode cX3_add 4 = .ok (.ifCond .lt 12, 3) := by decide +kernel
theorem dX3_add_7 : decode cX3_add 7 = .ok (.aload_n 0, 1) := by decide +kernel
theorem dX3_add_8 : decode cX3_add 8 = .ok (.getfield 9, 3) := by decide +kernel
theorem dX3_add_11 : decode cX3_add 11 = .ok (.bipush 6, 2) := by decide +kernel
theorem dX3_add_13 : decode cX3_add 13 = .ok (.if_icmp .lt 5, 3) := by decide +kernel
theorem dX3_add_16 : decode cX3_add 16 = .ok (.iconst 0, 1) := by decide +kernel
theorem dX3_add_17 : decode cX3_add 17 = .ok (.ireturn, 1) := by decide +kernel
theorem dX3_add_18 : decode cX3_add 18 = .ok (.aload_n 0, 1) := by decide +kernel
theorem dX3_add_19 : decode cX3_add 19 = .ok (.getfield 15, 3) := by decide +kernel
theorem dX3_add_22 : decode cX3_add 22 = .ok (.aload_n 0, 1) := by decide +kernel
theorem dX3_add_23 : decode cX3_add 23 = .ok (.getfield 9, 3) := by decide +kernel
theorem dX3_add_26 : decode cX3_add 26 = .ok (.iload_n 1, 1) := by decide +kernel
theorem dX3_add_27 : decode cX3_add 27 = .ok (.iastore, 1) := by decide +kernel
theorem dX3_add_28 : decode cX3_add 28 = .ok (.aload_n 0, 1) := by decide +kernel
theorem dX3_add_29 : decode cX3_add 29 = .ok (.getfield 19, 3) := by decide +kernel
theorem dX3_add_32 : decode cX3_add 32 = .ok (.aload_n 0, 1) := by decide +kernel
theorem dX3_add_33 : decode cX3_add 33 = .ok (.getfield 9, 3) := by decide +kernel
theorem dX3_add_36 : decode cX3_add 36 = .ok (.iload_n 2, 1) := by decide +kernel
theorem dX3_add_37 : decode cX3_add 37 = .ok (.iastore, 1) := by decide +kernel
theorem dX3_add_38 : decode cX3_add 38 = .ok (.aload_n 0, 1) := by decide +kernel
theorem dX3_add_39 : decode cX3_add 39 = .ok (.getfield 22, 3) := by decide +kernel
theorem dX3_add_42 : decode cX3_add 42 = .ok (.aload_n 0, 1) := by decide +kernel
theorem dX3_add_43 : decode cX3_add 43 = .ok (.getfield 9, 3) := by decide +kernel
theorem dX3_add_46 : decode cX3_add 46 = .ok (.iload_n 3, 1) := by decide +kernel
theorem dX3_add_47 : decode cX3_add 47 = .ok (.iastore, 1) := by decide +kernel
theorem dX3_add_48 : decode cX3_add 48 = .ok (.aload_n 0, 1) := by decide +kernel
theorem dX3_add_49 : decode cX3_add 49 = .ok (.getfield 25, 3) := by decide +kernel
theorem dX3_add_52 : decode cX3_add 52 = .ok (.aload_n 0, 1) := by decide +kernel
theorem dX3_add_53 : decode cX3_add 53 = .ok (.getfield 9, 3) := by decide +kernel
theorem dX3_add_56 : decode cX3_add 56 = .ok (.iload 4, 2) := by decide +kernel
theorem dX3_add_58 : decode cX3_add 58 = .ok (.iconst 1, 1) := by decide +kernel
theorem dX3_add_59 : decode cX3_add 59 = .ok (.if_icmp .ne 7, 3) := by decide +kernel
theorem dX3_add_62 : decode cX3_add 62 = .ok (.iconst 1, 1) := by decide +kernel
theorem dX3_add_63 : decode cX3_add 63 = .ok (.goto 4, 3) := by decide +kernel
theorem dX3_add_66 : decode cX3_add 66 = .ok (.iconst 0, 1) := by decide +kernel
theorem dX3_add_67 : decode cX3_add 67 = .ok (.bastore, 1) := by decide +kernel
theorem dX3_add_68 : decode cX3_add 68 = .ok (.aload_n 0, 1) := by decide +kernel
theorem dX3_add_69 : decode cX3_add 69 = .ok (.dup, 1) := by decide +kernel
theorem dX3_add_70 : decode cX3_add 70 = .ok (.getfield 9, 3) := by decide +kernel
theorem dX3_add_73 : decode cX3_add 73 = .ok (.iconst 1, 1) := by decide +kernel
theorem dX3_add_74 : decode cX3_add 74 = .ok (.iadd, 1) := by decide +kernel
theorem dX3_add_75 : decode cX3_add 75 = .ok (.putfield 9, 3) := by decide +kernel
theorem dX3_add_78 : decode cX3_add 78 = .ok (.iconst 1, 1) := by decide +kernel
theorem dX3_add_79 : decode cX3_add 79 = .ok (.ireturn, 1) := by decide +kernel
theorem dX3_lastTick_0 : decode cX3_lastTick 0 = .ok (.iconst 0, 1) := by decide +kernel
theorem dX3_lastTick_1 : decode cX3_lastTick 1 = .ok (.istore_n 1, 1) := by decide +kernel
theorem dX3_lastTick_2 : decode cX3_lastTick 2 = .ok (.iconst 0, 1) := by decide +kernel
theorem dX3_lastTick_3 : decode cX3_lastTick 3 = .ok (.istore_n 2, 1) := by decide +kernel
theorem dX3_lastTick_4 : decode cX3_lastTick 4 = .ok (.iload_n 2, 1) := by decide +kernel
theorem dX3_lastTick_5 : decode cX3_lastTick 5 = .ok (.aload_n 0, 1) := by decide +kernel
theorem dX3_lastTick_6 : decode cX3_lastTick 6 = .ok (.getfield 9, 3) := by decide +kernel
theorem dX3_lastTick_9 : decode cX3_lastTick 9 = .ok (.if_icmp .ge 26, 3) := by decide +kernel
theorem dX3_lastTick_12 : decode cX3_lastTick 12 = .ok (.iload_n 2, 1) := by decide +kernel
theorem dX3_lastTick_13 : decode cX3_lastTick 13 = .ok (.bipush 6, 2) := by decide +kernel
theorem dX3_lastTick_15 : decode cX3_lastTick 15 = .ok (.if_icmp .ge 20, 3) := by decide +kernel
theorem dX3_lastTick_18 : decode cX3_lastTick 18 = .ok (.iload_n 1, 1) := by decide +kernel
theorem dX3_lastTick_19 : decode cX3_lastTick 19 = .ok (.aload_n 0, 1) := by decide +kernel
theorem dX3_lastTick_20 : decode cX3_lastTick 20 = .ok (.getfield 15, 3) := by decide +kernel
theorem dX3_lastTick_23 : decode cX3_lastTick 23 = .ok (.iload_n 2, 1) := by decide +kernel
theorem dX3_lastTick_24 : decode cX3_lastTick 24 = .ok (.iaload, 1) := by decide +kernel
theorem dX3_lastTick_25 : decode cX3_lastTick 25 = .ok (.invokestatic 29, 3) := by decide +kernel
theorem dX3_lastTick_28 : decode cX3_lastTick 28 = .ok (.istore_n 1, 1) := by decide +kernel
theorem dX3_lastTick_29 : decode cX3_lastTick 29 = .ok (.iinc 2 1, 3) := by decide +kernel
theorem dX3_lastTick_32 : decode cX3_lastTick 32 = .ok (.goto (-28), 3) := by decide +kernel
theorem dX3_lastTick_35 : decode cX3_lastTick 35 = .ok (.iload_n 1, 1) := by decide +kernel
theorem dX3_lastTick_36 : decode cX3_lastTick 36 = .ok (.ireturn, 1) := by decide +kernel
theorem dX3_fit_0 : decode cX3_fit 0 = .ok (.iconst 0, 1) := by decide +kernel
theorem dX3_fit_1 : decode cX3_fit 1 = .ok (.istore_n 3, 1) := by decide +kernel
theorem dX3_fit_2 : decode cX3_fit 2 = .ok (.iload_n 3, 1) := by decide +kernel
theorem dX3_fit_3 : decode cX3_fit 3 = .ok (.aload_n 0, 1) := by decide +kernel
theorem dX3_fit_4 : decode cX3_fit 4 = .ok (.getfield 9, 3) := by decide +kernel
theorem dX3_fit_7 : decode cX3_fit 7 = .ok (.if_icmp .ge 60, 3) := by decide +kernel
theorem dX3_fit_10 : decode cX3_fit 10 = .ok (.iload_n 3, 1) := by decide +kernel
theorem dX3_fit_11 : decode cX3_fit 11 = .ok (.bipush 6, 2) := by decide +kernel
theorem dX3_fit_13 : decode cX3_fit 13 = .ok (.if_icmp .ge 54, 3) := by decide +kernel
theorem dX3_fit_16 : decode cX3_fit 16 = .ok (.aload_n 0, 1) := by decide +kernel
theorem dX3_fit_17 : decode cX3_fit 17 = .ok (.getfield 15, 3) := by decide +kernel
theorem dX3_fit_20 : decode cX3_fit 20 = .ok (.iload_n 3, 1) := by decide +kernel
theorem dX3_fit_21 : decode cX3_fit 21 = .ok (.iaload, 1) := by decide +kernel
theorem dX3_fit_22 : decode cX3_fit 22 = .ok (.iload_n 1, 1) := by decide +kernel
theorem dX3_fit_23 : decode cX3_fit 23 = .ok (.if_icmp .ne 38, 3) := by decide +kernel
theorem dX3_fit_26 : decode cX3_fit 26 = .ok (.aload_n 2, 1) := by decide +kernel
theorem dX3_fit_27 : decode cX3_fit 27 = .ok (.aload_n 0, 1) := by decide +kernel
theorem dX3_fit_28 : decode cX3_fit 28 = .ok (.getfield 19, 3) := by decide +kernel
theorem dX3_fit_31 : decode cX3_fit 31 = .ok (.iload_n 3, 1) := by decide +kernel
theorem dX3_fit_32 : decode cX3_fit 32 = .ok (.iaload, 1) := by decide +kernel
theorem dX3_fit_33 : decode cX3_fit 33 = .ok (.invokevirtual 35, 3) := by decide +kernel
theorem dX3_fit_36 : decode cX3_fit 36 = .ok (.aload_n 0, 1) := by decide +kernel
theorem dX3_fit_37 : decode cX3_fit 37 = .ok (.getfield 22, 3) := by decide +kernel
theorem dX3_fit_40 : decode cX3_fit 40 = .ok (.iload_n 3, 1) := by decide +kernel
theorem dX3_fit_41 : decode cX3_fit 41 = .ok (.iaload, 1) := by decide +kernel
theorem dX3_fit_42 : decode cX3_fit 42 = .ok (.if_icmp .ne 7, 3) := by decide +kernel
theorem dX3_fit_45 : decode cX3_fit 45 = .ok (.iconst 1, 1) := by decide +kernel
theorem dX3_fit_46 : decode cX3_fit 46 = .ok (.goto 4, 3) := by decide +kernel
theorem dX3_fit_49 : decode cX3_fit 49 = .ok (.iconst 0, 1) := by decide +kernel
theorem dX3_fit_50 : decode cX3_fit 50 = .ok (.aload_n 0, 1) := by decide +kernel
theorem dX3_fit_51 : decode cX3_fit 51 = .ok (.getfield 25, 3) := by decide +kernel
theorem dX3_fit_54 : decode cX3_fit 54 = .ok (.iload_n 3, 1) := by decide +kernel
theorem dX3_fit_55 : decode cX3_fit 55 = .ok (.baload, 1) := by decide +kernel
theorem dX3_fit_56 : decode cX3_fit 56 = .ok (.if_icmp .eq 5, 3) := by decide +kernel
theorem dX3_fit_59 : decode cX3_fit 59 = .ok (.iconst 0, 1) := by decide +kernel
theorem dX3_fit_60 : decode cX3_fit 60 = .ok (.ireturn, 1) := by decide +kernel
theorem dX3_fit_61 : decode cX3_fit 61 = .ok (.iinc 3 1, 3) := by decide +kernel
theorem dX3_fit_64 : decode cX3_fit 64 = .ok (.goto (-62), 3) := by decide +kernel
theorem dX3_fit_67 : decode cX3_fit 67 = .ok (.iconst 1, 1) := by decide +kernel
theorem dX3_fit_68 : decode cX3_fit 68 = .ok (.ireturn, 1) := by decide +kernel
theorem dX4_init_0 : decode cX4_init 0 = .ok (.aload_n 0, 1) := by decide +kernel
theorem dX4_init_1 : decode cX4_init 1 = .ok (.invokespecial 3, 3) := by decide +kernel
theorem dX4_init_4 : decode cX4_init 4 = .ok (.aload_n 0, 1) := by decide +kernel
theorem dX4_init_5 : decode cX4_init 5 = .ok (.bipush 40, 2) := by decide +kernel
theorem dX4_init_7 : decode cX4_init 7 = .ok (.newarray .int, 2) := by decide +kernel
theorem dX4_init_9 : decode cX4_init 9 = .ok (.putfield 9, 3) := by decide +kernel
theorem dX4_init_12 : decode cX4_init 12 = .ok (.aload_n 0, 1) := by decide +kernel
theorem dX4_init_13 : decode cX4_init 13 = .ok (.iconst 0, 1) := by decide +kernel
theorem dX4_init_14 : decode cX4_init 14 = .ok (.putfield 15, 3) := by decide +kernel
theorem dX4_init_17 : decode cX4_init 17 = .ok (.return_, 1) := by decide +kernel
theorem dX4_append_0 : decode cX4_append 0 = .ok (.aload_n 0, 1) := by decide +kernel
theorem dX4_append_1 : decode cX4_append 1 = .ok (.getfield 15, 3) := by decide +kernel
theorem dX4_append_4 : decode cX4_append 4 = .ok (.ifCond .lt 12, 3) := by decide +kernel
theorem dX4_append_7 : decode cX4_append 7 = .ok (.aload_n 0, 1) := by decide +kernel
theorem dX4_append_8 : decode cX4_append 8 = .ok (.getfield 15, 3) := by decide +kernel
theorem dX4_append_11 : decode cX4_append 11 = .ok (.bipush 40, 2) := by decide +kernel
theorem dX4_append_13 : decode cX4_append 13 = .ok (.if_icmp .lt 5, 3) := by decide +kernel
theorem dX4_append_16 : decode cX4_append 16 = .ok (.iconst 0, 1) := by decide +kernel
theorem dX4_append_17 : decode cX4_append 17 = .ok (.ireturn, 1) := by decide +kernel
theorem dX4_append_18 : decode cX4_append 18 = .ok (.aload_n 0, 1) := by decide +kernel
theorem dX4_append_19 : decode cX4_append 19 = .ok (.getfield 9, 3) := by decide +kernel
theorem dX4_append_22 : decode cX4_append 22 = .ok (.aload_n 0, 1) := by decide +kernel
theorem dX4_append_23 : decode cX4_append 23 = .ok (.getfield 15, 3) := by decide +kernel
theorem dX4_append_26 : decode cX4_append 26 = .ok (.iload_n 1, 1) := by decide +kernel
theorem dX4_append_27 : decode cX4_append 27 = .ok (.iastore, 1) := by decide +kernel
theorem dX4_append_28 : decode cX4_append 28 = .ok (.aload_n 0, 1) := by decide +kernel
theorem dX4_append_29 : decode cX4_append 29 = .ok (.dup, 1) := by decide +kernel
theorem dX4_append_30 : decode cX4_append 30 = .ok (.getfield 15, 3) := by decide +kernel
theorem dX4_append_33 : decode cX4_append 33 = .ok (.iconst 1, 1) := by decide +kernel
theorem dX4_append_34 : decode cX4_append 34 = .ok (.iadd, 1) := by decide +kernel
theorem dX4_append_35 : decode cX4_append 35 = .ok (.putfield 15, 3) := by decide +kernel
theorem dX4_append_38 : decode cX4_append 38 = .ok (.iconst 1, 1) := by decide +kernel
theorem dX4_append_39 : decode cX4_append 39 = .ok (.ireturn, 1) := by decide +kernel
theorem dX4_readInto_0 : decode cX4_readInto 0 = .ok (.aload_n 0, 1) := by decide +kernel
theorem dX4_readInto_1 : decode cX4_readInto 1 = .ok (.getfield 15, 3) := by decide +kernel
theorem dX4_readInto_4 : decode cX4_readInto 4 = .ok (.iconst 1, 1) := by decide +kernel
theorem dX4_readInto_5 : decode cX4_readInto 5 = .ok (.if_icmp .lt 13, 3) := by decide +kernel
theorem dX4_readInto_8 : decode cX4_readInto 8 = .ok (.aload_n 0, 1) := by decide +kernel
theorem dX4_readInto_9 : decode cX4_readInto 9 = .ok (.iconst 0, 1) := by decide +kernel
theorem dX4_readInto_10 : decode cX4_readInto 10 = .ok (.invokevirtual 19, 3) := by decide +kernel
theorem dX4_readInto_13 : decode cX4_readInto 13 = .ok (.bipush 83, 2) := by decide +kernel
theorem dX4_readInto_15 : decode cX4_readInto 15 = .ok (.if_icmp .eq 5, 3) := by decide +kernel
theorem dX4_readInto_18 : decode cX4_readInto 18 = .ok (.iconst 0, 1) := by decide +kernel
theorem dX4_readInto_19 : decode cX4_readInto 19 = .ok (.ireturn, 1) := by decide +kernel
theorem dX4_readInto_20 : decode cX4_readInto 20 = .ok (.aload_n 0, 1) := by decide +kernel
theorem dX4_readInto_21 : decode cX4_readInto 21 = .ok (.getfield 15, 3) := by decide +kernel
theorem dX4_readInto_24 : decode cX4_readInto 24 = .ok (.iconst 2, 1) := by decide +kernel
theorem dX4_readInto_25 : decode cX4_readInto 25 = .ok (.if_icmp .lt 23, 3) := by decide +kernel
theorem dX4_readInto_28 : decode cX4_readInto 28 = .ok (.aload_n 0, 1) := by decide +kernel
theorem dX4_readInto_29 : decode cX4_readInto 29 = .ok (.iconst 1, 1) := by decide +kernel
theorem dX4_readInto_30 : decode cX4_readInto 30 = .ok (.invokevirtual 19, 3) := by decide +kernel
theorem dX4_readInto_33 : decode cX4_readInto 33 = .ok (.bipush 49, 2) := by decide +kernel
theorem dX4_readInto_35 : decode cX4_readInto 35 = .ok (.if_icmp .lt 13, 3) := by decide +kernel
theorem dX4_readInto_38 : decode cX4_readInto 38 = .ok (.aload_n 0, 1) := by decide +kernel
theorem dX4_readInto_39 : decode cX4_readInto 39 = .ok (.iconst 1, 1) := by decide +kernel
theorem dX4_readInto_40 : decode cX4_readInto 40 = .ok (.invokevirtual 19, 3) := by decide +kernel
theorem dX4_readInto_43 : decode cX4_readInto 43 = .ok (.bipush 56, 2) := by decide +kernel
theorem dX4_readInto_45 : decode cX4_readInto 45 = .ok (.if_icmp .le 5, 3) := by decide +kernel
theorem dX4_readInto_48 : decode cX4_readInto 48 = .ok (.iconst 1, 1) := by decide +kernel
theorem dX4_readInto_49 : decode cX4_readInto 49 = .ok (.ireturn, 1) := by decide +kernel
theorem dX4_readInto_50 : decode cX4_readInto 50 = .ok (.aload_n 0, 1) := by decide +kernel
theorem dX4_readInto_51 : decode cX4_readInto 51 = .ok (.iconst 1, 1) := by decide +kernel
theorem dX4_readInto_52 : decode cX4_readInto 52 = .ok (.invokevirtual 19, 3) := by decide +kernel
theorem dX4_readInto_55 : decode cX4_readInto 55 = .ok (.bipush 48, 2) := by decide +kernel
theorem dX4_readInto_57 : decode cX4_readInto 57 = .ok (.isub, 1) := by decide +kernel
theorem dX4_readInto_58 : decode cX4_readInto 58 = .ok (.istore_n 2, 1) := by decide +kernel
theorem dX4_readInto_59 : decode cX4_readInto 59 = .ok (.aload_n 1, 1) := by decide +kernel
theorem dX4_readInto_60 : decode cX4_readInto 60 = .ok (.iload_n 2, 1) := by decide +kernel
theorem dX4_readInto_61 : decode cX4_readInto 61 = .ok (.putfield 23, 3) := by decide +kernel
theorem dX4_readInto_64 : decode cX4_readInto 64 = .ok (.iconst 2, 1) := by decide +kernel
theorem dX4_readInto_65 : decode cX4_readInto 65 = .ok (.istore_n 3, 1) := by decide +kernel
theorem dX4_readInto_66 : decode cX4_readInto 66 = .ok (.iconst 0, 1) := by decide +kernel
theorem dX4_readInto_67 : decode cX4_readInto 67 = .ok (.istore 4, 2) := by decide +kernel
theorem dX4_readInto_69 : decode cX4_readInto 69 = .ok (.iload 4, 2) := by decide +kernel
theorem dX4_readInto_71 : decode cX4_readInto 71 = .ok (.iload_n 2, 1) := by decide +kernel
theorem dX4_readInto_72 : decode cX4_readInto 72 = .ok (.if_icmp .ge 43, 3) := by decide +kernel
theorem dX4_readInto_75 : decode cX4_readInto 75 = .ok (.aload_n 0, 1) := by decide +kernel
theorem dX4_readInto_76 : decode cX4_readInto 76 = .ok (.aload_n 1, 1) := by decide +kernel
theorem dX4_readInto_77 : decode cX4_readInto 77 = .ok (.iload 4, 2) := by decide +kernel
theorem dX4_readInto_79 : decode cX4_readInto 79 = .ok (.iload_n 3, 1) := by decide +kernel
theorem dX4_readInto_80 : decode cX4_readInto 80 = .ok (.invokevirtual 28, 3) := by decide +kernel
theorem dX4_readInto_83 : decode cX4_readInto 83 = .ok (.istore 5, 2) := by decide +kernel
theorem dX4_readInto_85 : decode cX4_readInto 85 = .ok (.iload 5, 2) := by decide +kernel
theorem dX4_readInto_87 : decode cX4_readInto 87 = .ok (.bipush (-9), 2) := by decide +kernel
theorem dX4_readInto_89 : decode cX4_readInto 89 = .ok (.if_icmp .eq 6, 3) := by decide +kernel
theorem dX4_readInto_92 : decode cX4_readInto 92 = .ok (.iload 5, 2) := by decide +kernel
theorem dX4_readInto_94 : decode cX4_readInto 94 = .ok (.ireturn, 1) := by decide +kernel
theorem dX4_readInto_95 : decode cX4_readInto 95 = .ok (.iload_n 3, 1) := by decide +kernel
theorem dX4_readInto_96 : decode cX4_readInto 96 = .ok (.iconst 1, 1) := by decide +kernel
theorem dX4_readInto_97 : decode cX4_readInto 97 = .ok (.aload_n 1, 1) := by decide +kernel
theorem dX4_readInto_98 : decode cX4_readInto 98 = .ok (.iload 4, 2) := by decide +kernel
theorem dX4_readInto_100 : decode cX4_readInto 100 = .ok (.invokevirtual 32, 3) := by decide +kernel
theorem dX4_readInto_103 : decode cX4_readInto 103 = .ok (.invokestatic 35, 3) := by decide +kernel
theorem dX4_readInto_106 : decode cX4_readInto 106 = .ok (.iadd, 1) := by decide +kernel
theorem dX4_readInto_107 : decode cX4_readInto 107 = .ok (.iadd, 1) := by decide +kernel
theorem dX4_readInto_108 : decode cX4_readInto 108 = .ok (.istore_n 3, 1) := by decide +kernel
theorem dX4_readInto_109 : decode cX4_readInto 109 = .ok (.iinc 4 1, 3) := by decide +kernel
theorem dX4_readInto_112 : decode cX4_readInto 112 = .ok (.goto (-43), 3) := by decide +kernel
theorem dX4_readInto_115 : decode cX4_readInto 115 = .ok (.iload_n 3, 1) := by decide +kernel
theorem dX4_readInto_116 : decode cX4_readInto 116 = .ok (.aload_n 0, 1) := by decide +kernel
theorem dX4_readInto_117 : decode cX4_readInto 117 = .ok (.getfield 15, 3) := by decide +kernel
theorem dX4_readInto_120 : decode cX4_readInto 120 = .ok (.if_icmp .ge 7, 3) := by decide +kernel
theorem dX4_readInto_123 : decode cX4_readInto 123 = .ok (.iload_n 3, 1) := by decide +kernel
theorem dX4_readInto_124 : decode cX4_readInto 124 = .ok (.goto 5, 3) := by decide +kernel
theorem dX4_readInto_127 : decode cX4_readInto 127 = .ok (.bipush (-9), 2) := by decide +kernel
theorem dX4_readInto_129 : decode cX4_readInto 129 = .ok (.ireturn, 1) := by decide +kernel
theorem dX4_readEquation_0 : decode cX4_readEquation 0 = .ok (.iload_n 3, 1) := by decide +kernel
theorem dX4_readEquation_1 : decode cX4_readEquation 1 = .ok (.aload_n 0, 1) := by decide +kernel
theorem dX4_readEquation_2 : decode cX4_readEquation 2 = .ok (.getfield 15, 3) := by decide +kernel
theorem dX4_readEquation_5 : decode cX4_readEquation 5 = .ok (.if_icmp .lt 8, 3) := by decide +kernel
theorem dX4_readEquation_8 : decode cX4_readEquation 8 = .ok (.aload_n 0, 1) := by decide +kernel
theorem dX4_readEquation_9 : decode cX4_readEquation 9 = .ok (.getfield 15, 3) := by decide +kernel
theorem dX4_readEquation_12 : decode cX4_readEquation 12 = .ok (.ireturn, 1) := by decide +kernel
theorem dX4_readEquation_13 : decode cX4_readEquation 13 = .ok (.ldc 38, 2) := by decide +kernel
theorem dX4_readEquation_15 : decode cX4_readEquation 15 = .ok (.aload_n 0, 1) := by decide +kernel
theorem dX4_readEquation_16 : decode cX4_readEquation 16 = .ok (.iload_n 3, 1) := by decide +kernel
theorem dX4_readEquation_17 : decode cX4_readEquation 17 = .ok (.invokevirtual 19, 3) := by decide +kernel
theorem dX4_readEquation_20 : decode cX4_readEquation 20 = .ok (.i2c, 1) := by decide +kernel
theorem dX4_readEquation_21 : decode cX4_readEquation 21 = .ok (.invokevirtual 40, 3) := by decide +kernel
theorem dX4_readEquation_24 : decode cX4_readEquation 24 = .ok (.istore 4, 2) := by decide +kernel
theorem dX4_readEquation_26 : decode cX4_readEquation 26 = .ok (.iload 4, 2) := by decide +kernel
theorem dX4_readEquation_28 : decode cX4_readEquation 28 = .ok (.ifCond .ge 5, 3) := by decide +kernel
theorem dX4_readEquation_31 : decode cX4_readEquation 31 = .ok (.iload_n 3, 1) := by decide +kernel
theorem dX4_readEquation_32 : decode cX4_readEquation 32 = .ok (.ireturn, 1) := by decide +kernel
theorem dX4_readEquation_33 : decode cX4_readEquation 33 = .ok (.aload_n 1, 1) := by decide +kernel
theorem dX4_readEquation_34 : decode cX4_readEquation 34 = .ok (.iload_n 2, 1) := by decide +kernel
theorem dX4_readEquation_35 : decode cX4_readEquation 35 = .ok (.iload 4, 2) := by decide +kernel
theorem dX4_readEquation_37 : decode cX4_readEquation 37 = .ok (.iconst 0, 1) := by decide +kernel
theorem dX4_readEquation_38 : decode cX4_readEquation 38 = .ok (.iconst 0, 1) := by decide +kernel
theorem dX4_readEquation_39 : decode cX4_readEquation 39 = .ok (.iconst 0, 1) := by decide +kernel
theorem dX4_readEquation_40 : decode cX4_readEquation 40 = .ok (.invokevirtual 45, 3) := by decide +kernel
theorem dX4_readEquation_43 : decode cX4_readEquation 43 = .ok (.iconst 0, 1) := by decide +kernel
theorem dX4_readEquation_44 : decode cX4_readEquation 44 = .ok (.istore 5, 2) := by decide +kernel
theorem dX4_readEquation_46 : decode cX4_readEquation 46 = .ok (.iload 5, 2) := by decide +kernel
theorem dX4_readEquation_48 : decode cX4_readEquation 48 = .ok (.iload 4, 2) := by decide +kernel
theorem dX4_readEquation_50 : decode cX4_readEquation 50 = .ok (.invokestatic 35, 3) := by decide +kernel
theorem dX4_readEquation_53 : decode cX4_readEquation 53 = .ok (.if_icmp .ge 70, 3) := by decide +kernel
theorem dX4_readEquation_56 : decode cX4_readEquation 56 = .ok (.iload_n 3, 1) := by decide +kernel
theorem dX4_readEquation_57 : decode cX4_readEquation 57 = .ok (.iconst 1, 1) := by decide +kernel
theorem dX4_readEquation_58 : decode cX4_readEquation 58 = .ok (.iadd, 1) := by decide +kernel
theorem dX4_readEquation_59 : decode cX4_readEquation 59 = .ok (.iload 5, 2) := by decide +kernel
theorem dX4_readEquation_61 : decode cX4_readEquation 61 = .ok (.iadd, 1) := by decide +kernel
theorem dX4_readEquation_62 : decode cX4_readEquation 62 = .ok (.istore 6, 2) := by decide +kernel
theorem dX4_readEquation_64 : decode cX4_readEquation 64 = .ok (.iload 6, 2) := by decide +kernel
theorem dX4_readEquation_66 : decode cX4_readEquation 66 = .ok (.aload_n 0, 1) := by decide +kernel
theorem dX4_readEquation_67 : decode cX4_readEquation 67 = .ok (.getfield 15, 3) := by decide +kernel
theorem dX4_readEquation_70 : decode cX4_readEquation 70 = .ok (.if_icmp .lt 8, 3) := by decide +kernel
theorem dX4_readEquation_73 : decode cX4_readEquation 73 = .ok (.aload_n 0, 1) := by decide +kernel
theorem dX4_readEquation_74 : decode cX4_readEquation 74 = .ok (.getfield 15, 3) := by decide +kernel
theorem dX4_readEquation_77 : decode cX4_readEquation 77 = .ok (.ireturn, 1) := by decide +kernel
theorem dX4_readEquation_78 : decode cX4_readEquation 78 = .ok (.aload_n 0, 1) := by decide +kernel
theorem dX4_readEquation_79 : decode cX4_readEquation 79 = .ok (.iload 6, 2) := by decide +kernel
theorem dX4_readEquation_81 : decode cX4_readEquation 81 = .ok (.invokevirtual 19, 3) := by decide +kernel
theorem dX4_readEquation_84 : decode cX4_readEquation 84 = .ok (.bipush 48, 2) := by decide +kernel
theorem dX4_readEquation_86 : decode cX4_readEquation 86 = .ok (.isub, 1) := by decide +kernel
theorem dX4_readEquation_87 : decode cX4_readEquation 87 = .ok (.istore 7, 2) := by decide +kernel
theorem dX4_readEquation_89 : decode cX4_readEquation 89 = .ok (.iload 4, 2) := by decide +kernel
theorem dX4_readEquation_91 : decode cX4_readEquation 91 = .ok (.iload 5, 2) := by decide +kernel
theorem dX4_readEquation_93 : decode cX4_readEquation 93 = .ok (.iload 7, 2) := by decide +kernel
theorem dX4_readEquation_95 : decode cX4_readEquation 95 = .ok (.aload_n 1, 1) := by decide +kernel
theorem dX4_readEquation_96 : decode cX4_readEquation 96 = .ok (.getfield 23, 3) := by decide +kernel
theorem dX4_readEquation_99 : decode cX4_readEquation 99 = .ok (.invokestatic 49, 3) := by decide +kernel
theorem dX4_readEquation_102 : decode cX4_readEquation 102 = .ok (.ifCond .ne 6, 3) := by decide +kernel
theorem dX4_readEquation_105 : decode cX4_readEquation 105 = .ok (.iload 6, 2) := by decide +kernel
theorem dX4_readEquation_107 : decode cX4_readEquation 107 = .ok (.ireturn, 1) := by decide +kernel
theorem dX4_readEquation_108 : decode cX4_readEquation 108 = .ok (.aload_n 1, 1) := by decide +kernel
theorem dX4_readEquation_109 : decode cX4_readEquation 109 = .ok (.iload_n 2, 1) := by decide +kernel
theorem dX4_readEquation_110 : decode cX4_readEquation 110 = .ok (.iload 5, 2) := by decide +kernel
theorem dX4_readEquation_112 : decode cX4_readEquation 112 = .ok (.iload 7, 2) := by decide +kernel
theorem dX4_readEquation_114 : decode cX4_readEquation 114 = .ok (.invokevirtual 53, 3) := by decide +kernel
theorem dX4_readEquation_117 : decode cX4_readEquation 117 = .ok (.iinc 5 1, 3) := by decide +kernel
theorem dX4_readEquation_120 : decode cX4_readEquation 120 = .ok (.goto (-74), 3) := by decide +kernel
theorem dX4_readEquation_123 : decode cX4_readEquation 123 = .ok (.bipush (-9), 2) := by decide +kernel
theorem dX4_readEquation_125 : decode cX4_readEquation 125 = .ok (.ireturn, 1) := by decide +kernel
theorem dX4_letterAt_0 : decode cX4_letterAt 0 = .ok (.iload_n 1, 1) := by decide +kernel
theorem dX4_letterAt_1 : decode cX4_letterAt 1 = .ok (.ifCond .lt 9, 3) := by decide +kernel
theorem dX4_letterAt_4 : decode cX4_letterAt 4 = .ok (.iload_n 1, 1) := by decide +kernel
theorem dX4_letterAt_5 : decode cX4_letterAt 5 = .ok (.bipush 40, 2) := by decide +kernel
theorem dX4_letterAt_7 : decode cX4_letterAt 7 = .ok (.if_icmp .lt 7, 3) := by decide +kernel
theorem dX4_letterAt_10 : decode cX4_letterAt 10 = .ok (.iconst 0, 1) := by decide +kernel
theorem dX4_letterAt_11 : decode cX4_letterAt 11 = .ok (.goto 9, 3) := by decide +kernel
theorem dX4_letterAt_14 : decode cX4_letterAt 14 = .ok (.aload_n 0, 1) := by decide +kernel
theorem dX4_letterAt_15 : decode cX4_letterAt 15 = .ok (.getfield 9, 3) := by decide +kernel
theorem dX4_letterAt_18 : decode cX4_letterAt 18 = .ok (.iload_n 1, 1) := by decide +kernel
theorem dX4_letterAt_19 : decode cX4_letterAt 19 = .ok (.iaload, 1) := by decide +kernel
theorem dX4_letterAt_20 : decode cX4_letterAt 20 = .ok (.ireturn, 1) := by decide +kernel
theorem dX2_init_0 : decode cX2_init 0 = .ok (.aload_n 0, 1) := by decide +kernel
theorem dX2_init_1 : decode cX2_init 1 = .ok (.invokespecial 3, 3) := by decide +kernel
theorem dX2_init_4 : decode cX2_init 4 = .ok (.aload_n 0, 1) := by decide +kernel
theorem dX2_init_5 : decode cX2_init 5 = .ok (.bipush (-9), 2) := by decide +kernel
theorem dX2_init_7 : decode cX2_init 7 = .ok (.putfield 9, 3) := by decide +kernel
theorem dX2_init_10 : decode cX2_init 10 = .ok (.aload_n 0, 1) := by decide +kernel
theorem dX2_init_11 : decode cX2_init 11 = .ok (.iconst 0, 1) := by decide +kernel
theorem dX2_init_12 : decode cX2_init 12 = .ok (.putfield 15, 3) := by decide +kernel
theorem dX2_init_15 : decode cX2_init 15 = .ok (.aload_n 0, 1) := by decide +kernel
theorem dX2_init_16 : decode cX2_init 16 = .ok (.bipush (-9), 2) := by decide +kernel
theorem dX2_init_18 : decode cX2_init 18 = .ok (.putfield 18, 3) := by decide +kernel
theorem dX2_init_21 : decode cX2_init 21 = .ok (.aload_n 0, 1) := by decide +kernel
theorem dX2_init_22 : decode cX2_init 22 = .ok (.iconst 0, 1) := by decide +kernel
theorem dX2_init_23 : decode cX2_init 23 = .ok (.putfield 21, 3) := by decide +kernel
theorem dX2_init_26 : decode cX2_init 26 = .ok (.aload_n 0, 1) := by decide +kernel
theorem dX2_init_27 : decode cX2_init 27 = .ok (.bipush 8, 2) := by decide +kernel
theorem dX2_init_29 : decode cX2_init 29 = .ok (.newarray .int, 2) := by decide +kernel
theorem dX2_init_31 : decode cX2_init 31 = .ok (.putfield 24, 3) := by decide +kernel
theorem dX2_init_34 : decode cX2_init 34 = .ok (.aload_n 0, 1) := by decide +kernel
theorem dX2_init_35 : decode cX2_init 35 = .ok (.bipush 8, 2) := by decide +kernel
theorem dX2_init_37 : decode cX2_init 37 = .ok (.newarray .int, 2) := by decide +kernel
theorem dX2_init_39 : decode cX2_init 39 = .ok (.putfield 28, 3) := by decide +kernel
theorem dX2_init_42 : decode cX2_init 42 = .ok (.aload_n 0, 1) := by decide +kernel
theorem dX2_init_43 : decode cX2_init 43 = .ok (.bipush 8, 2) := by decide +kernel
theorem dX2_init_45 : decode cX2_init 45 = .ok (.newarray .int, 2) := by decide +kernel
theorem dX2_init_47 : decode cX2_init 47 = .ok (.putfield 31, 3) := by decide +kernel
theorem dX2_init_50 : decode cX2_init 50 = .ok (.aload_n 0, 1) := by decide +kernel
theorem dX2_init_51 : decode cX2_init 51 = .ok (.bipush 8, 2) := by decide +kernel
theorem dX2_init_53 : decode cX2_init 53 = .ok (.newarray .int, 2) := by decide +kernel
theorem dX2_init_55 : decode cX2_init 55 = .ok (.putfield 34, 3) := by decide +kernel
theorem dX2_init_58 : decode cX2_init 58 = .ok (.aload_n 0, 1) := by decide +kernel
theorem dX2_init_59 : decode cX2_init 59 = .ok (.bipush 8, 2) := by decide +kernel
theorem dX2_init_61 : decode cX2_init 61 = .ok (.newarray .int, 2) := by decide +kernel
theorem dX2_init_63 : decode cX2_init 63 = .ok (.putfield 37, 3) := by decide +kernel
theorem dX2_init_66 : decode cX2_init 66 = .ok (.aload_n 0, 1) := by decide +kernel
theorem dX2_init_67 : decode cX2_init 67 = .ok (.bipush 8, 2) := by decide +kernel
theorem dX2_init_69 : decode cX2_init 69 = .ok (.newarray .int, 2) := by decide +kernel
theorem dX2_init_71 : decode cX2_init 71 = .ok (.putfield 40, 3) := by decide +kernel
theorem dX2_init_74 : decode cX2_init 74 = .ok (.aload_n 0, 1) := by decide +kernel
theorem dX2_init_75 : decode cX2_init 75 = .ok (.bipush 8, 2) := by decide +kernel
theorem dX2_init_77 : decode cX2_init 77 = .ok (.newarray .int, 2) := by decide +kernel
theorem dX2_init_79 : decode cX2_init 79 = .ok (.putfield 43, 3) := by decide +kernel
theorem dX2_init_82 : decode cX2_init 82 = .ok (.return_, 1) := by decide +kernel
theorem dX2_isSound_0 : decode cX2_isSound 0 = .ok (.aload_n 0, 1) := by decide +kernel
theorem dX2_isSound_1 : decode cX2_isSound 1 = .ok (.getfield 9, 3) := by decide +kernel
theorem dX2_isSound_4 : decode cX2_isSound 4 = .ok (.bipush (-9), 2) := by decide +kernel
theorem dX2_isSound_6 : decode cX2_isSound 6 = .ok (.if_icmp .ne 23, 3) := by decide +kernel
theorem dX2_isSound_9 : decode cX2_isSound 9 = .ok (.aload_n 0, 1) := by decide +kernel
theorem dX2_isSound_10 : decode cX2_isSound 10 = .ok (.getfield 15, 3) := by decide +kernel
theorem dX2_isSound_13 : decode cX2_isSound 13 = .ok (.ifCond .ne 16, 3) := by decide +kernel
theorem dX2_isSound_16 : decode cX2_isSound 16 = .ok (.aload_n 0, 1) := by decide +kernel
theorem dX2_isSound_17 : decode cX2_isSound 17 = .ok (.getfield 18, 3) := by decide +kernel
theorem dX2_isSound_20 : decode cX2_isSound 20 = .ok (.bipush (-9), 2) := by decide +kernel
theorem dX2_isSound_22 : decode cX2_isSound 22 = .ok (.if_icmp .ne 7, 3) := by decide +kernel
theorem dX2_isSound_25 : decode cX2_isSound 25 = .ok (.iconst 1, 1) := by decide +kernel
theorem dX2_isSound_26 : decode cX2_isSound 26 = .ok (.goto 4, 3) := by decide +kernel
theorem dX2_isSound_29 : decode cX2_isSound 29 = .ok (.iconst 0, 1) := by decide +kernel
theorem dX2_isSound_30 : decode cX2_isSound 30 = .ok (.ireturn, 1) := by decide +kernel
theorem dX2_study_0 : decode cX2_study 0 = .ok (.aload_n 0, 1) := by decide +kernel
theorem dX2_study_1 : decode cX2_study 1 = .ok (.aload_n 1, 1) := by decide +kernel
theorem dX2_study_2 : decode cX2_study 2 = .ok (.getfield 46, 3) := by decide +kernel
theorem dX2_study_5 : decode cX2_study 5 = .ok (.bipush 8, 2) := by decide +kernel
theorem dX2_study_7 : decode cX2_study 7 = .ok (.invokestatic 49, 3) := by decide +kernel
theorem dX2_study_10 : decode cX2_study 10 = .ok (.putfield 21, 3) := by decide +kernel
theorem dX2_study_13 : decode cX2_study 13 = .ok (.aload_n 0, 1) := by decide +kernel
theorem dX2_study_14 : decode cX2_study 14 = .ok (.aload_n 0, 1) := by decide +kernel
theorem dX2_study_15 : decode cX2_study 15 = .ok (.aload_n 1, 1) := by decide +kernel
theorem dX2_study_16 : decode cX2_study 16 = .ok (.invokevirtual 55, 3) := by decide +kernel
theorem dX2_study_19 : decode cX2_study 19 = .ok (.putfield 9, 3) := by decide +kernel
theorem dX2_study_22 : decode cX2_study 22 = .ok (.aload_n 0, 1) := by decide +kernel
theorem dX2_study_23 : decode cX2_study 23 = .ok (.iconst 0, 1) := by decide +kernel
theorem dX2_study_24 : decode cX2_study 24 = .ok (.putfield 15, 3) := by decide +kernel
theorem dX2_study_27 : decode cX2_study 27 = .ok (.aload_n 0, 1) := by decide +kernel
theorem dX2_study_28 : decode cX2_study 28 = .ok (.bipush (-9), 2) := by decide +kernel
theorem dX2_study_30 : decode cX2_study 30 = .ok (.putfield 18, 3) := by decide +kernel
theorem dX2_study_33 : decode cX2_study 33 = .ok (.aload_n 0, 1) := by decide +kernel
theorem dX2_study_34 : decode cX2_study 34 = .ok (.getfield 9, 3) := by decide +kernel
theorem dX2_study_37 : decode cX2_study 37 = .ok (.bipush (-9), 2) := by decide +kernel
theorem dX2_study_39 : decode cX2_study 39 = .ok (.if_icmp .ne 26, 3) := by decide +kernel
theorem dX2_study_42 : decode cX2_study 42 = .ok (.aload_n 0, 1) := by decide +kernel
theorem dX2_study_43 : decode cX2_study 43 = .ok (.invokevirtual 59, 3) := by decide +kernel
theorem dX2_study_46 : decode cX2_study 46 = .ok (.aload_n 0, 1) := by decide +kernel
theorem dX2_study_47 : decode cX2_study 47 = .ok (.aload_n 1, 1) := by decide +kernel
theorem dX2_study_48 : decode cX2_study 48 = .ok (.invokevirtual 62, 3) := by decide +kernel
theorem dX2_study_51 : decode cX2_study 51 = .ok (.aload_n 0, 1) := by decide +kernel
theorem dX2_study_52 : decode cX2_study 52 = .ok (.aload_n 1, 1) := by decide +kernel
theorem dX2_study_53 : decode cX2_study 53 = .ok (.invokevirtual 66, 3) := by decide +kernel
theorem dX2_study_56 : decode cX2_study 56 = .ok (.aload_n 0, 1) := by decide +kernel
theorem dX2_study_57 : decode cX2_study 57 = .ok (.aload_n 0, 1) := by decide +kernel
theorem dX2_study_58 : decode cX2_study 58 = .ok (.aload_n 1, 1) := by decide +kernel
theorem dX2_study_59 : decode cX2_study 59 = .ok (.invokevirtual 69, 3) := by decide +kernel
theorem dX2_study_62 : decode cX2_study 62 = .ok (.putfield 18, 3) := by decide +kernel
theorem dX2_study_65 : decode cX2_study 65 = .ok (.return_, 1) := by decide +kernel
theorem dX2_clockAt_0 : decode cX2_clockAt 0 = .ok (.iload_n 1, 1) := by decide +kernel
theorem dX2_clockAt_1 : decode cX2_clockAt 1 = .ok (.istore_n 3, 1) := by decide +kernel
theorem dX2_clockAt_2 : decode cX2_clockAt 2 = .ok (.aload_n 0, 1) := by decide +kernel
theorem dX2_clockAt_3 : decode cX2_clockAt 3 = .ok (.getfield 34, 3) := by decide +kernel
theorem dX2_clockAt_6 : decode cX2_clockAt 6 = .ok (.iload_n 1, 1) := by decide +kernel
theorem dX2_clockAt_7 : decode cX2_clockAt 7 = .ok (.iaload, 1) := by decide +kernel
theorem dX2_clockAt_8 : decode cX2_clockAt 8 = .ok (.iconst 1, 1) := by decide +kernel
theorem dX2_clockAt_9 : decode cX2_clockAt 9 = .ok (.isub, 1) := by decide +kernel
theorem dX2_clockAt_10 : decode cX2_clockAt 10 = .ok (.istore 4, 2) := by decide +kernel
theorem dX2_clockAt_12 : decode cX2_clockAt 12 = .ok (.iload 4, 2) := by decide +kernel
theorem dX2_clockAt_14 : decode cX2_clockAt 14 = .ok (.iload_n 2, 1) := by decide +kernel
theorem dX2_clockAt_15 : decode cX2_clockAt 15 = .ok (.if_icmp .le 28, 3) := by decide +kernel
theorem dX2_clockAt_18 : decode cX2_clockAt 18 = .ok (.aload_n 0, 1) := by decide +kernel
theorem dX2_clockAt_19 : decode cX2_clockAt 19 = .ok (.getfield 31, 3) := by decide +kernel
theorem dX2_clockAt_22 : decode cX2_clockAt 22 = .ok (.iload_n 3, 1) := by decide +kernel
theorem dX2_clockAt_23 : decode cX2_clockAt 23 = .ok (.iaload, 1) := by decide +kernel
theorem dX2_clockAt_24 : decode cX2_clockAt 24 = .ok (.ifCond .lt 19, 3) := by decide +kernel
theorem dX2_clockAt_27 : decode cX2_clockAt 27 = .ok (.aload_n 0, 1) := by decide +kernel
theorem dX2_clockAt_28 : decode cX2_clockAt 28 = .ok (.getfield 31, 3) := by decide +kernel
theorem dX2_clockAt_31 : decode cX2_clockAt 31 = .ok (.iload_n 3, 1) := by decide +kernel
theorem dX2_clockAt_32 : decode cX2_clockAt 32 = .ok (.iaload, 1) := by decide +kernel
theorem dX2_clockAt_33 : decode cX2_clockAt 33 = .ok (.invokestatic 72, 3) := by decide +kernel
theorem dX2_clockAt_36 : decode cX2_clockAt 36 = .ok (.istore_n 3, 1) := by decide +kernel
theorem dX2_clockAt_37 : decode cX2_clockAt 37 = .ok (.iinc 4 (-1), 3) := by decide +kernel
theorem dX2_clockAt_40 : decode cX2_clockAt 40 = .ok (.goto (-28), 3) := by decide +kernel
theorem dX2_clockAt_43 : decode cX2_clockAt 43 = .ok (.aload_n 0, 1) := by decide +kernel
theorem dX2_clockAt_44 : decode cX2_clockAt 44 = .ok (.getfield 31, 3) := by decide +kernel
theorem dX2_clockAt_47 : decode cX2_clockAt 47 = .ok (.iload_n 3, 1) := by decide +kernel
theorem dX2_clockAt_48 : decode cX2_clockAt 48 = .ok (.iaload, 1) := by decide +kernel
theorem dX2_clockAt_49 : decode cX2_clockAt 49 = .ok (.ireturn, 1) := by decide +kernel
theorem dX2_findClash_0 : decode cX2_findClash 0 = .ok (.iconst 0, 1) := by decide +kernel
theorem dX2_findClash_1 : decode cX2_findClash 1 = .ok (.istore_n 2, 1) := by decide +kernel
theorem dX2_findClash_2 : decode cX2_findClash 2 = .ok (.iload_n 2, 1) := by decide +kernel
theorem dX2_findClash_3 : decode cX2_findClash 3 = .ok (.bipush 8, 2) := by decide +kernel
theorem dX2_findClash_5 : decode cX2_findClash 5 = .ok (.if_icmp .ge 23, 3) := by decide +kernel
theorem dX2_findClash_8 : decode cX2_findClash 8 = .ok (.aload_n 0, 1) := by decide +kernel
theorem dX2_findClash_9 : decode cX2_findClash 9 = .ok (.getfield 24, 3) := by decide +kernel
theorem dX2_findClash_12 : decode cX2_findClash 12 = .ok (.iload_n 2, 1) := by decide +kernel
theorem dX2_findClash_13 : decode cX2_findClash 13 = .ok (.iload_n 2, 1) := by decide +kernel
theorem dX2_findClash_14 : decode cX2_findClash 14 = .ok (.iastore, 1) := by decide +kernel
theorem dX2_findClash_15 : decode cX2_findClash 15 = .ok (.aload_n 0, 1) := by decide +kernel
theorem dX2_findClash_16 : decode cX2_findClash 16 = .ok (.getfield 28, 3) := by decide +kernel
theorem dX2_findClash_19 : decode cX2_findClash 19 = .ok (.iload_n 2, 1) := by decide +kernel
theorem dX2_findClash_20 : decode cX2_findClash 20 = .ok (.iconst (-1), 1) := by decide +kernel
theorem dX2_findClash_21 : decode cX2_findClash 21 = .ok (.iastore, 1) := by decide +kernel
theorem dX2_findClash_22 : decode cX2_findClash 22 = .ok (.iinc 2 1, 3) := by decide +kernel
theorem dX2_findClash_25 : decode cX2_findClash 25 = .ok (.goto (-23), 3) := by decide +kernel
theorem dX2_findClash_28 : decode cX2_findClash 28 = .ok (.iconst 0, 1) := by decide +kernel
theorem dX2_findClash_29 : decode cX2_findClash 29 = .ok (.istore_n 2, 1) := by decide +kernel
theorem dX2_findClash_30 : decode cX2_findClash 30 = .ok (.iload_n 2, 1) := by decide +kernel
theorem dX2_findClash_31 : decode cX2_findClash 31 = .ok (.aload_n 0, 1) := by decide +kernel
theorem dX2_findClash_32 : decode cX2_findClash 32 = .ok (.getfield 21, 3) := by decide +kernel
theorem dX2_findClash_35 : decode cX2_findClash 35 = .ok (.if_icmp .ge 27, 3) := by decide +kernel
theorem dX2_findClash_38 : decode cX2_findClash 38 = .ok (.aload_n 0, 1) := by decide +kernel
theorem dX2_findClash_39 : decode cX2_findClash 39 = .ok (.aload_n 1, 1) := by decide +kernel
theorem dX2_findClash_40 : decode cX2_findClash 40 = .ok (.iload_n 2, 1) := by decide +kernel
theorem dX2_findClash_41 : decode cX2_findClash 41 = .ok (.invokevirtual 76, 3) := by decide +kernel
theorem dX2_findClash_44 : decode cX2_findClash 44 = .ok (.ifCond .eq 10, 3) := by decide +kernel
theorem dX2_findClash_47 : decode cX2_findClash 47 = .ok (.aload_n 0, 1) := by decide +kernel
theorem dX2_findClash_48 : decode cX2_findClash 48 = .ok (.invokevirtual 80, 3) := by decide +kernel
theorem dX2_findClash_51 : decode cX2_findClash 51 = .ok (.ifCond .ne 5, 3) := by decide +kernel
theorem dX2_findClash_54 : decode cX2_findClash 54 = .ok (.iload_n 2, 1) := by decide +kernel
theorem dX2_findClash_55 : decode cX2_findClash 55 = .ok (.ireturn, 1) := by decide +kernel
theorem dX2_findClash_56 : decode cX2_findClash 56 = .ok (.iinc 2 1, 3) := by decide +kernel
theorem dX2_findClash_59 : decode cX2_findClash 59 = .ok (.goto (-29), 3) := by decide +kernel
theorem dX2_findClash_62 : decode cX2_findClash 62 = .ok (.bipush (-9), 2) := by decide +kernel
theorem dX2_findClash_64 : decode cX2_findClash 64 = .ok (.ireturn, 1) := by decide +kernel
theorem dX2_meet_0 : decode cX2_meet 0 = .ok (.aload_n 1, 1) := by decide +kernel
theorem dX2_meet_1 : decode cX2_meet 1 = .ok (.iload_n 2, 1) := by decide +kernel
theorem dX2_meet_2 : decode cX2_meet 2 = .ok (.iconst 0, 1) := by decide +kernel
theorem dX2_meet_3 : decode cX2_meet 3 = .ok (.invokevirtual 84, 3) := by decide +kernel
theorem dX2_meet_6 : decode cX2_meet 6 = .ok (.istore_n 3, 1) := by decide +kernel
theorem dX2_meet_7 : decode cX2_meet 7 = .ok (.aload_n 1, 1) := by decide +kernel
theorem dX2_meet_8 : decode cX2_meet 8 = .ok (.iload_n 2, 1) := by decide +kernel
theorem dX2_meet_9 : decode cX2_meet 9 = .ok (.iconst 1, 1) := by decide +kernel
theorem dX2_meet_10 : decode cX2_meet 10 = .ok (.invokevirtual 84, 3) := by decide +kernel
theorem dX2_meet_13 : decode cX2_meet 13 = .ok (.istore 4, 2) := by decide +kernel
theorem dX2_meet_15 : decode cX2_meet 15 = .ok (.aload_n 1, 1) := by decide +kernel
theorem dX2_meet_16 : decode cX2_meet 16 = .ok (.iload_n 2, 1) := by decide +kernel
theorem dX2_meet_17 : decode cX2_meet 17 = .ok (.invokevirtual 87, 3) := by decide +kernel
theorem dX2_meet_20 : decode cX2_meet 20 = .ok (.lookupswitch 159 #[(0, 44), (9, 52), (10, 83), (11, 112)], 44) := by decide +kernel
theorem dX2_meet_64 : decode cX2_meet 64 = .ok (.aload_n 0, 1) := by decide +kernel
theorem dX2_meet_65 : decode cX2_meet 65 = .ok (.iload_n 2, 1) := by decide +kernel
theorem dX2_meet_66 : decode cX2_meet 66 = .ok (.bipush (-2), 2) := by decide +kernel
theorem dX2_meet_68 : decode cX2_meet 68 = .ok (.invokevirtual 90, 3) := by decide +kernel
theorem dX2_meet_71 : decode cX2_meet 71 = .ok (.ireturn, 1) := by decide +kernel
theorem dX2_meet_72 : decode cX2_meet 72 = .ok (.aload_n 0, 1) := by decide +kernel
theorem dX2_meet_73 : decode cX2_meet 73 = .ok (.iload_n 3, 1) := by decide +kernel
theorem dX2_meet_74 : decode cX2_meet 74 = .ok (.iload 4, 2) := by decide +kernel
theorem dX2_meet_76 : decode cX2_meet 76 = .ok (.invokevirtual 94, 3) := by decide +kernel
theorem dX2_meet_79 : decode cX2_meet 79 = .ok (.ifCond .eq 22, 3) := by decide +kernel
theorem dX2_meet_82 : decode cX2_meet 82 = .ok (.aload_n 0, 1) := by decide +kernel
theorem dX2_meet_83 : decode cX2_meet 83 = .ok (.iload_n 2, 1) := by decide +kernel
theorem dX2_meet_84 : decode cX2_meet 84 = .ok (.bipush 10, 2) := by decide +kernel
theorem dX2_meet_86 : decode cX2_meet 86 = .ok (.iload 4, 2) := by decide +kernel
theorem dX2_meet_88 : decode cX2_meet 88 = .ok (.imul, 1) := by decide +kernel
theorem dX2_meet_89 : decode cX2_meet 89 = .ok (.iconst 1, 1) := by decide +kernel
theorem dX2_meet_90 : decode cX2_meet 90 = .ok (.iadd, 1) := by decide +kernel
theorem dX2_meet_91 : decode cX2_meet 91 = .ok (.invokevirtual 90, 3) := by decide +kernel
theorem dX2_meet_94 : decode cX2_meet 94 = .ok (.ifCond .eq 7, 3) := by decide +kernel
theorem dX2_meet_97 : decode cX2_meet 97 = .ok (.iconst 1, 1) := by decide +kernel
theorem dX2_meet_98 : decode cX2_meet 98 = .ok (.goto 4, 3) := by decide +kernel
theorem dX2_meet_101 : decode cX2_meet 101 = .ok (.iconst 0, 1) := by decide +kernel
theorem dX2_meet_102 : decode cX2_meet 102 = .ok (.ireturn, 1) := by decide +kernel
theorem dX2_meet_103 : decode cX2_meet 103 = .ok (.aload_n 0, 1) := by decide +kernel
theorem dX2_meet_104 : decode cX2_meet 104 = .ok (.iload_n 3, 1) := by decide +kernel
theorem dX2_meet_105 : decode cX2_meet 105 = .ok (.iload 4, 2) := by decide +kernel
theorem dX2_meet_107 : decode cX2_meet 107 = .ok (.invokevirtual 94, 3) := by decide +kernel
theorem dX2_meet_110 : decode cX2_meet 110 = .ok (.ifCond .eq 20, 3) := by decide +kernel
theorem dX2_meet_113 : decode cX2_meet 113 = .ok (.aload_n 0, 1) := by decide +kernel
theorem dX2_meet_114 : decode cX2_meet 114 = .ok (.iload_n 2, 1) := by decide +kernel
theorem dX2_meet_115 : decode cX2_meet 115 = .ok (.bipush 10, 2) := by decide +kernel
theorem dX2_meet_117 : decode cX2_meet 117 = .ok (.iload 4, 2) := by decide +kernel
theorem dX2_meet_119 : decode cX2_meet 119 = .ok (.imul, 1) := by decide +kernel
theorem dX2_meet_120 : decode cX2_meet 120 = .ok (.invokevirtual 90, 3) := by decide +kernel
theorem dX2_meet_123 : decode cX2_meet 123 = .ok (.ifCond .eq 7, 3) := by decide +kernel
theorem dX2_meet_126 : decode cX2_meet 126 = .ok (.iconst 1, 1) := by decide +kernel
theorem dX2_meet_127 : decode cX2_meet 127 = .ok (.goto 4, 3) := by decide +kernel
theorem dX2_meet_130 : decode cX2_meet 130 = .ok (.iconst 0, 1) := by decide +kernel
theorem dX2_meet_131 : decode cX2_meet 131 = .ok (.ireturn, 1) := by decide +kernel
theorem dX2_meet_132 : decode cX2_meet 132 = .ok (.aload_n 0, 1) := by decide +kernel
theorem dX2_meet_133 : decode cX2_meet 133 = .ok (.iload_n 2, 1) := by decide +kernel
theorem dX2_meet_134 : decode cX2_meet 134 = .ok (.iload_n 3, 1) := by decide +kernel
theorem dX2_meet_135 : decode cX2_meet 135 = .ok (.invokevirtual 94, 3) := by decide +kernel
theorem dX2_meet_138 : decode cX2_meet 138 = .ok (.ifCond .eq 39, 3) := by decide +kernel
theorem dX2_meet_141 : decode cX2_meet 141 = .ok (.aload_n 0, 1) := by decide +kernel
theorem dX2_meet_142 : decode cX2_meet 142 = .ok (.iload 4, 2) := by decide +kernel
theorem dX2_meet_144 : decode cX2_meet 144 = .ok (.bipush 10, 2) := by decide +kernel
theorem dX2_meet_146 : decode cX2_meet 146 = .ok (.iload_n 3, 1) := by decide +kernel
theorem dX2_meet_147 : decode cX2_meet 147 = .ok (.imul, 1) := by decide +kernel
theorem dX2_meet_148 : decode cX2_meet 148 = .ok (.iconst 1, 1) := by decide +kernel
theorem dX2_meet_149 : decode cX2_meet 149 = .ok (.iadd, 1) := by decide +kernel
theorem dX2_meet_150 : decode cX2_meet 150 = .ok (.invokevirtual 90, 3) := by decide +kernel
theorem dX2_meet_153 : decode cX2_meet 153 = .ok (.ifCond .eq 24, 3) := by decide +kernel
theorem dX2_meet_156 : decode cX2_meet 156 = .ok (.aload_n 0, 1) := by decide +kernel
theorem dX2_meet_157 : decode cX2_meet 157 = .ok (.aload_n 1, 1) := by decide +kernel
theorem dX2_meet_158 : decode cX2_meet 158 = .ok (.iload_n 2, 1) := by decide +kernel
theorem dX2_meet_159 : decode cX2_meet 159 = .ok (.iconst 2, 1) := by decide +kernel
theorem dX2_meet_160 : decode cX2_meet 160 = .ok (.invokevirtual 84, 3) := by decide +kernel
theorem dX2_meet_163 : decode cX2_meet 163 = .ok (.bipush 10, 2) := by decide +kernel
theorem dX2_meet_165 : decode cX2_meet 165 = .ok (.iload_n 3, 1) := by decide +kernel
theorem dX2_meet_166 : decode cX2_meet 166 = .ok (.imul, 1) := by decide +kernel
theorem dX2_meet_167 : decode cX2_meet 167 = .ok (.invokevirtual 90, 3) := by decide +kernel
theorem dX2_meet_170 : decode cX2_meet 170 = .ok (.ifCond .eq 7, 3) := by decide +kernel
theorem dX2_meet_173 : decode cX2_meet 173 = .ok (.iconst 1, 1) := by decide +kernel
theorem dX2_meet_174 : decode cX2_meet 174 = .ok (.goto 4, 3) := by decide +kernel
theorem dX2_meet_177 : decode cX2_meet 177 = .ok (.iconst 0, 1) := by decide +kernel
theorem dX2_meet_178 : decode cX2_meet 178 = .ok (.ireturn, 1) := by decide +kernel
theorem dX2_meet_179 : decode cX2_meet 179 = .ok (.aload_n 0, 1) := by decide +kernel
theorem dX2_meet_180 : decode cX2_meet 180 = .ok (.aload_n 1, 1) := by decide +kernel
theorem dX2_meet_181 : decode cX2_meet 181 = .ok (.iload_n 2, 1) := by decide +kernel
theorem dX2_meet_182 : decode cX2_meet 182 = .ok (.invokevirtual 97, 3) := by decide +kernel
theorem dX2_meet_185 : decode cX2_meet 185 = .ok (.ireturn, 1) := by decide +kernel
theorem dX2_likenAll_0 : decode cX2_likenAll 0 = .ok (.iconst 0, 1) := by decide +kernel
theorem dX2_likenAll_1 : decode cX2_likenAll 1 = .ok (.istore_n 3, 1) := by decide +kernel
theorem dX2_likenAll_2 : decode cX2_likenAll 2 = .ok (.iload_n 3, 1) := by decide +kernel
theorem dX2_likenAll_3 : decode cX2_likenAll 3 = .ok (.iconst 3, 1) := by decide +kernel
theorem dX2_likenAll_4 : decode cX2_likenAll 4 = .ok (.if_icmp .ge 37, 3) := by decide +kernel
theorem dX2_likenAll_7 : decode cX2_likenAll 7 = .ok (.aload_n 1, 1) := by decide +kernel
theorem dX2_likenAll_8 : decode cX2_likenAll 8 = .ok (.iload_n 2, 1) := by decide +kernel
theorem dX2_likenAll_9 : decode cX2_likenAll 9 = .ok (.invokevirtual 87, 3) := by decide +kernel
theorem dX2_likenAll_12 : decode cX2_likenAll 12 = .ok (.iload_n 3, 1) := by decide +kernel
theorem dX2_likenAll_13 : decode cX2_likenAll 13 = .ok (.invokestatic 100, 3) := by decide +kernel
theorem dX2_likenAll_16 : decode cX2_likenAll 16 = .ok (.ifCond .eq 19, 3) := by decide +kernel
theorem dX2_likenAll_19 : decode cX2_likenAll 19 = .ok (.aload_n 0, 1) := by decide +kernel
theorem dX2_likenAll_20 : decode cX2_likenAll 20 = .ok (.iload_n 2, 1) := by decide +kernel
theorem dX2_likenAll_21 : decode cX2_likenAll 21 = .ok (.aload_n 1, 1) := by decide +kernel
theorem dX2_likenAll_22 : decode cX2_likenAll 22 = .ok (.iload_n 2, 1) := by decide +kernel
theorem dX2_likenAll_23 : decode cX2_likenAll 23 = .ok (.iload_n 3, 1) := by decide +kernel
theorem dX2_likenAll_24 : decode cX2_likenAll 24 = .ok (.invokevirtual 84, 3) := by decide +kernel
theorem dX2_likenAll_27 : decode cX2_likenAll 27 = .ok (.invokevirtual 94, 3) := by decide +kernel
theorem dX2_likenAll_30 : decode cX2_likenAll 30 = .ok (.ifCond .ne 5, 3) := by decide +kernel
theorem dX2_likenAll_33 : decode cX2_likenAll 33 = .ok (.iconst 0, 1) := by decide +kernel
theorem dX2_likenAll_34 : decode cX2_likenAll 34 = .ok (.ireturn, 1) := by decide +kernel
theorem dX2_likenAll_35 : decode cX2_likenAll 35 = .ok (.iinc 3 1, 3) := by decide +kernel
theorem dX2_likenAll_38 : decode cX2_likenAll 38 = .ok (.goto (-36), 3) := by decide +kernel
theorem dX2_likenAll_41 : decode cX2_likenAll 41 = .ok (.iconst 1, 1) := by decide +kernel
theorem dX2_likenAll_42 : decode cX2_likenAll 42 = .ok (.ireturn, 1) := by decide +kernel
theorem dX2_liken_0 : decode cX2_liken 0 = .ok (.aload_n 0, 1) := by decide +kernel
theorem dX2_liken_1 : decode cX2_liken 1 = .ok (.getfield 24, 3) := by decide +kernel
theorem dX2_liken_4 : decode cX2_liken 4 = .ok (.iload_n 1, 1) := by decide +kernel
theorem dX2_liken_5 : decode cX2_liken 5 = .ok (.iaload, 1) := by decide +kernel
theorem dX2_liken_6 : decode cX2_liken 6 = .ok (.istore_n 3, 1) := by decide +kernel
theorem dX2_liken_7 : decode cX2_liken 7 = .ok (.aload_n 0, 1) := by decide +kernel
theorem dX2_liken_8 : decode cX2_liken 8 = .ok (.getfield 24, 3) := by decide +kernel
theorem dX2_liken_11 : decode cX2_liken 11 = .ok (.iload_n 2, 1) := by decide +kernel
theorem dX2_liken_12 : decode cX2_liken 12 = .ok (.iaload, 1) := by decide +kernel
theorem dX2_liken_13 : decode cX2_liken 13 = .ok (.istore 4, 2) := by decide +kernel
theorem dX2_liken_15 : decode cX2_liken 15 = .ok (.iload_n 3, 1) := by decide +kernel
theorem dX2_liken_16 : decode cX2_liken 16 = .ok (.iload 4, 2) := by decide +kernel
theorem dX2_liken_18 : decode cX2_liken 18 = .ok (.if_icmp .ne 5, 3) := by decide +kernel
theorem dX2_liken_21 : decode cX2_liken 21 = .ok (.iconst 1, 1) := by decide +kernel
theorem dX2_liken_22 : decode cX2_liken 22 = .ok (.ireturn, 1) := by decide +kernel
theorem dX2_liken_23 : decode cX2_liken 23 = .ok (.aload_n 0, 1) := by decide +kernel
theorem dX2_liken_24 : decode cX2_liken 24 = .ok (.getfield 28, 3) := by decide +kernel
theorem dX2_liken_27 : decode cX2_liken 27 = .ok (.iload 4, 2) := by decide +kernel
theorem dX2_liken_29 : decode cX2_liken 29 = .ok (.iaload, 1) := by decide +kernel
theorem dX2_liken_30 : decode cX2_liken 30 = .ok (.iconst (-1), 1) := by decide +kernel
theorem dX2_liken_31 : decode cX2_liken 31 = .ok (.if_icmp .eq 20, 3) := by decide +kernel
theorem dX2_liken_34 : decode cX2_liken 34 = .ok (.aload_n 0, 1) := by decide +kernel
theorem dX2_liken_35 : decode cX2_liken 35 = .ok (.iload_n 1, 1) := by decide +kernel
theorem dX2_liken_36 : decode cX2_liken 36 = .ok (.aload_n 0, 1) := by decide +kernel
theorem dX2_liken_37 : decode cX2_liken 37 = .ok (.getfield 28, 3) := by decide +kernel
theorem dX2_liken_40 : decode cX2_liken 40 = .ok (.iload 4, 2) := by decide +kernel
theorem dX2_liken_42 : decode cX2_liken 42 = .ok (.iaload, 1) := by decide +kernel
theorem dX2_liken_43 : decode cX2_liken 43 = .ok (.invokevirtual 90, 3) := by decide +kernel
theorem dX2_liken_46 : decode cX2_liken 46 = .ok (.ifCond .ne 5, 3) := by decide +kernel
theorem dX2_liken_49 : decode cX2_liken 49 = .ok (.iconst 0, 1) := by decide +kernel
theorem dX2_liken_50 : decode cX2_liken 50 = .ok (.ireturn, 1) := by decide +kernel
theorem dX2_liken_51 : decode cX2_liken 51 = .ok (.iconst 0, 1) := by decide +kernel
theorem dX2_liken_52 : decode cX2_liken 52 = .ok (.istore 5, 2) := by decide +kernel
theorem dX2_liken_54 : decode cX2_liken 54 = .ok (.iload 5, 2) := by decide +kernel
theorem dX2_liken_56 : decode cX2_liken 56 = .ok (.bipush 8, 2) := by decide +kernel
theorem dX2_liken_58 : decode cX2_liken 58 = .ok (.if_icmp .ge 29, 3) := by decide +kernel
theorem dX2_liken_61 : decode cX2_liken 61 = .ok (.aload_n 0, 1) := by decide +kernel
theorem dX2_liken_62 : decode cX2_liken 62 = .ok (.getfield 24, 3) := by decide +kernel
theorem dX2_liken_65 : decode cX2_liken 65 = .ok (.iload 5, 2) := by decide +kernel
theorem dX2_liken_67 : decode cX2_liken 67 = .ok (.iaload, 1) := by decide +kernel
theorem dX2_liken_68 : decode cX2_liken 68 = .ok (.iload 4, 2) := by decide +kernel
theorem dX2_liken_70 : decode cX2_liken 70 = .ok (.if_icmp .ne 11, 3) := by decide +kernel
theorem dX2_liken_73 : decode cX2_liken 73 = .ok (.aload_n 0, 1) := by decide +kernel
theorem dX2_liken_74 : decode cX2_liken 74 = .ok (.getfield 24, 3) := by decide +kernel
theorem dX2_liken_77 : decode cX2_liken 77 = .ok (.iload 5, 2) := by decide +kernel
theorem dX2_liken_79 : decode cX2_liken 79 = .ok (.iload_n 3, 1) := by decide +kernel
theorem dX2_liken_80 : decode cX2_liken 80 = .ok (.iastore, 1) := by decide +kernel
theorem dX2_liken_81 : decode cX2_liken 81 = .ok (.iinc 5 1, 3) := by decide +kernel
theorem dX2_liken_84 : decode cX2_liken 84 = .ok (.goto (-30), 3) := by decide +kernel
theorem dX2_liken_87 : decode cX2_liken 87 = .ok (.iconst 1, 1) := by decide +kernel
theorem dX2_liken_88 : decode cX2_liken 88 = .ok (.ireturn, 1) := by decide +kernel
theorem dX2_bind_0 : decode cX2_bind 0 = .ok (.aload_n 0, 1) := by decide +kernel
theorem dX2_bind_1 : decode cX2_bind 1 = .ok (.getfield 24, 3) := by decide +kernel
theorem dX2_bind_4 : decode cX2_bind 4 = .ok (.iload_n 1, 1) := by decide +kernel
theorem dX2_bind_5 : decode cX2_bind 5 = .ok (.iaload, 1) := by decide +kernel
theorem dX2_bind_6 : decode cX2_bind 6 = .ok (.istore_n 3, 1) := by decide +kernel
theorem dX2_bind_7 : decode cX2_bind 7 = .ok (.aload_n 0, 1) := by decide +kernel
theorem dX2_bind_8 : decode cX2_bind 8 = .ok (.getfield 28, 3) := by decide +kernel
theorem dX2_bind_11 : decode cX2_bind 11 = .ok (.iload_n 3, 1) := by decide +kernel
theorem dX2_bind_12 : decode cX2_bind 12 = .ok (.iaload, 1) := by decide +kernel
theorem dX2_bind_13 : decode cX2_bind 13 = .ok (.iconst (-1), 1) := by decide +kernel
theorem dX2_bind_14 : decode cX2_bind 14 = .ok (.if_icmp .ne 10, 3) := by decide +kernel
theorem dX2_bind_17 : decode cX2_bind 17 = .ok (.aload_n 0, 1) := by decide +kernel
theorem dX2_bind_18 : decode cX2_bind 18 = .ok (.getfield 28, 3) := by decide +kernel
theorem dX2_bind_21 : decode cX2_bind 21 = .ok (.iload_n 3, 1) := by decide +kernel
theorem dX2_bind_22 : decode cX2_bind 22 = .ok (.iload_n 2, 1) := by decide +kernel
theorem dX2_bind_23 : decode cX2_bind 23 = .ok (.iastore, 1) := by decide +kernel
theorem dX2_bind_24 : decode cX2_bind 24 = .ok (.aload_n 0, 1) := by decide +kernel
theorem dX2_bind_25 : decode cX2_bind 25 = .ok (.getfield 28, 3) := by decide +kernel
theorem dX2_bind_28 : decode cX2_bind 28 = .ok (.iload_n 3, 1) := by decide +kernel
theorem dX2_bind_29 : decode cX2_bind 29 = .ok (.iaload, 1) := by decide +kernel
theorem dX2_bind_30 : decode cX2_bind 30 = .ok (.iload_n 2, 1) := by decide +kernel
theorem dX2_bind_31 : decode cX2_bind 31 = .ok (.if_icmp .ne 7, 3) := by decide +kernel
theorem dX2_bind_34 : decode cX2_bind 34 = .ok (.iconst 1, 1) := by decide +kernel
theorem dX2_bind_35 : decode cX2_bind 35 = .ok (.goto 4, 3) := by decide +kernel
theorem dX2_bind_38 : decode cX2_bind 38 = .ok (.iconst 0, 1) := by decide +kernel
theorem dX2_bind_39 : decode cX2_bind 39 = .ok (.ireturn, 1) := by decide +kernel
theorem dX2_haveEnds_0 : decode cX2_haveEnds 0 = .ok (.iconst 0, 1) := by decide +kernel
theorem dX2_haveEnds_1 : decode cX2_haveEnds 1 = .ok (.istore_n 1, 1) := by decide +kernel
theorem dX2_haveEnds_2 : decode cX2_haveEnds 2 = .ok (.iload_n 1, 1) := by decide +kernel
theorem dX2_haveEnds_3 : decode cX2_haveEnds 3 = .ok (.aload_n 0, 1) := by decide +kernel
theorem dX2_haveEnds_4 : decode cX2_haveEnds 4 = .ok (.getfield 21, 3) := by decide +kernel
theorem dX2_haveEnds_7 : decode cX2_haveEnds 7 = .ok (.if_icmp .ge 65, 3) := by decide +kernel
theorem dX2_haveEnds_10 : decode cX2_haveEnds 10 = .ok (.aload_n 0, 1) := by decide +kernel
theorem dX2_haveEnds_11 : decode cX2_haveEnds 11 = .ok (.getfield 24, 3) := by decide +kernel
theorem dX2_haveEnds_14 : decode cX2_haveEnds 14 = .ok (.iload_n 1, 1) := by decide +kernel
theorem dX2_haveEnds_15 : decode cX2_haveEnds 15 = .ok (.iaload, 1) := by decide +kernel
theorem dX2_haveEnds_16 : decode cX2_haveEnds 16 = .ok (.istore_n 2, 1) := by decide +kernel
theorem dX2_haveEnds_17 : decode cX2_haveEnds 17 = .ok (.iconst 0, 1) := by decide +kernel
theorem dX2_haveEnds_18 : decode cX2_haveEnds 18 = .ok (.istore_n 3, 1) := by decide +kernel
theorem dX2_haveEnds_19 : decode cX2_haveEnds 19 = .ok (.iload_n 3, 1) := by decide +kernel
theorem dX2_haveEnds_20 : decode cX2_haveEnds 20 = .ok (.bipush 8, 2) := by decide +kernel
theorem dX2_haveEnds_22 : decode cX2_haveEnds 22 = .ok (.if_icmp .ge 33, 3) := by decide +kernel
theorem dX2_haveEnds_25 : decode cX2_haveEnds 25 = .ok (.aload_n 0, 1) := by decide +kernel
theorem dX2_haveEnds_26 : decode cX2_haveEnds 26 = .ok (.getfield 28, 3) := by decide +kernel
theorem dX2_haveEnds_29 : decode cX2_haveEnds 29 = .ok (.iload_n 2, 1) := by decide +kernel
theorem dX2_haveEnds_30 : decode cX2_haveEnds 30 = .ok (.iaload, 1) := by decide +kernel
theorem dX2_haveEnds_31 : decode cX2_haveEnds 31 = .ok (.ifCond .lt 24, 3) := by decide +kernel
theorem dX2_haveEnds_34 : decode cX2_haveEnds 34 = .ok (.aload_n 0, 1) := by decide +kernel
theorem dX2_haveEnds_35 : decode cX2_haveEnds 35 = .ok (.getfield 24, 3) := by decide +kernel
theorem dX2_haveEnds_38 : decode cX2_haveEnds 38 = .ok (.aload_n 0, 1) := by decide +kernel
theorem dX2_haveEnds_39 : decode cX2_haveEnds 39 = .ok (.getfield 28, 3) := by decide +kernel
theorem dX2_haveEnds_42 : decode cX2_haveEnds 42 = .ok (.iload_n 2, 1) := by decide +kernel
theorem dX2_haveEnds_43 : decode cX2_haveEnds 43 = .ok (.iaload, 1) := by decide +kernel
theorem dX2_haveEnds_44 : decode cX2_haveEnds 44 = .ok (.invokestatic 72, 3) := by decide +kernel
theorem dX2_haveEnds_47 : decode cX2_haveEnds 47 = .ok (.iaload, 1) := by decide +kernel
theorem dX2_haveEnds_48 : decode cX2_haveEnds 48 = .ok (.istore_n 2, 1) := by decide +kernel
theorem dX2_haveEnds_49 : decode cX2_haveEnds 49 = .ok (.iinc 3 1, 3) := by decide +kernel
theorem dX2_haveEnds_52 : decode cX2_haveEnds 52 = .ok (.goto (-33), 3) := by decide +kernel
theorem dX2_haveEnds_55 : decode cX2_haveEnds 55 = .ok (.aload_n 0, 1) := by decide +kernel
theorem dX2_haveEnds_56 : decode cX2_haveEnds 56 = .ok (.getfield 28, 3) := by decide +kernel
theorem dX2_haveEnds_59 : decode cX2_haveEnds 59 = .ok (.iload_n 2, 1) := by decide +kernel
theorem dX2_haveEnds_60 : decode cX2_haveEnds 60 = .ok (.iaload, 1) := by decide +kernel
theorem dX2_haveEnds_61 : decode cX2_haveEnds 61 = .ok (.ifCond .lt 5, 3) := by decide +kernel
theorem dX2_haveEnds_64 : decode cX2_haveEnds 64 = .ok (.iconst 0, 1) := by decide +kernel
theorem dX2_haveEnds_65 : decode cX2_haveEnds 65 = .ok (.ireturn, 1) := by decide +kernel
theorem dX2_haveEnds_66 : decode cX2_haveEnds 66 = .ok (.iinc 1 1, 3) := by decide +kernel
theorem dX2_haveEnds_69 : decode cX2_haveEnds 69 = .ok (.goto (-67), 3) := by decide +kernel
theorem dX2_haveEnds_72 : decode cX2_haveEnds 72 = .ok (.iconst 1, 1) := by decide +kernel
theorem dX2_haveEnds_73 : decode cX2_haveEnds 73 = .ok (.ireturn, 1) := by decide +kernel
theorem dX2_settle_0 : decode cX2_settle 0 = .ok (.iconst 0, 1) := by decide +kernel
theorem dX2_settle_1 : decode cX2_settle 1 = .ok (.istore_n 1, 1) := by decide +kernel
theorem dX2_settle_2 : decode cX2_settle 2 = .ok (.iload_n 1, 1) := by decide +kernel
theorem dX2_settle_3 : decode cX2_settle 3 = .ok (.aload_n 0, 1) := by decide +kernel
theorem dX2_settle_4 : decode cX2_settle 4 = .ok (.getfield 21, 3) := by decide +kernel
theorem dX2_settle_7 : decode cX2_settle 7 = .ok (.if_icmp .ge 46, 3) := by decide +kernel
theorem dX2_settle_10 : decode cX2_settle 10 = .ok (.aload_n 0, 1) := by decide +kernel
theorem dX2_settle_11 : decode cX2_settle 11 = .ok (.getfield 31, 3) := by decide +kernel
theorem dX2_settle_14 : decode cX2_settle 14 = .ok (.iload_n 1, 1) := by decide +kernel
theorem dX2_settle_15 : decode cX2_settle 15 = .ok (.aload_n 0, 1) := by decide +kernel
theorem dX2_settle_16 : decode cX2_settle 16 = .ok (.getfield 28, 3) := by decide +kernel
theorem dX2_settle_19 : decode cX2_settle 19 = .ok (.aload_n 0, 1) := by decide +kernel
theorem dX2_settle_20 : decode cX2_settle 20 = .ok (.getfield 24, 3) := by decide +kernel
theorem dX2_settle_23 : decode cX2_settle 23 = .ok (.iload_n 1, 1) := by decide +kernel
theorem dX2_settle_24 : decode cX2_settle 24 = .ok (.iaload, 1) := by decide +kernel
theorem dX2_settle_25 : decode cX2_settle 25 = .ok (.iaload, 1) := by decide +kernel
theorem dX2_settle_26 : decode cX2_settle 26 = .ok (.iconst (-1), 1) := by decide +kernel
theorem dX2_settle_27 : decode cX2_settle 27 = .ok (.if_icmp .ne 8, 3) := by decide +kernel
theorem dX2_settle_30 : decode cX2_settle 30 = .ok (.bipush (-2), 2) := by decide +kernel
theorem dX2_settle_32 : decode cX2_settle 32 = .ok (.goto 14, 3) := by decide +kernel
theorem dX2_settle_35 : decode cX2_settle 35 = .ok (.aload_n 0, 1) := by decide +kernel
theorem dX2_settle_36 : decode cX2_settle 36 = .ok (.getfield 28, 3) := by decide +kernel
theorem dX2_settle_39 : decode cX2_settle 39 = .ok (.aload_n 0, 1) := by decide +kernel
theorem dX2_settle_40 : decode cX2_settle 40 = .ok (.getfield 24, 3) := by decide +kernel
theorem dX2_settle_43 : decode cX2_settle 43 = .ok (.iload_n 1, 1) := by decide +kernel
theorem dX2_settle_44 : decode cX2_settle 44 = .ok (.iaload, 1) := by decide +kernel
theorem dX2_settle_45 : decode cX2_settle 45 = .ok (.iaload, 1) := by decide +kernel
theorem dX2_settle_46 : decode cX2_settle 46 = .ok (.iastore, 1) := by decide +kernel
theorem dX2_settle_47 : decode cX2_settle 47 = .ok (.iinc 1 1, 3) := by decide +kernel
theorem dX2_settle_50 : decode cX2_settle 50 = .ok (.goto (-48), 3) := by decide +kernel
theorem dX2_settle_53 : decode cX2_settle 53 = .ok (.iconst 0, 1) := by decide +kernel
theorem dX2_settle_54 : decode cX2_settle 54 = .ok (.istore_n 1, 1) := by decide +kernel
theorem dX2_settle_55 : decode cX2_settle 55 = .ok (.iload_n 1, 1) := by decide +kernel
theorem dX2_settle_56 : decode cX2_settle 56 = .ok (.aload_n 0, 1) := by decide +kernel
theorem dX2_settle_57 : decode cX2_settle 57 = .ok (.getfield 21, 3) := by decide +kernel
theorem dX2_settle_60 : decode cX2_settle 60 = .ok (.if_icmp .ge 51, 3) := by decide +kernel
theorem dX2_settle_63 : decode cX2_settle 63 = .ok (.iconst 0, 1) := by decide +kernel
theorem dX2_settle_64 : decode cX2_settle 64 = .ok (.istore_n 2, 1) := by decide +kernel
theorem dX2_settle_65 : decode cX2_settle 65 = .ok (.iload_n 1, 1) := by decide +kernel
theorem dX2_settle_66 : decode cX2_settle 66 = .ok (.istore_n 3, 1) := by decide +kernel
theorem dX2_settle_67 : decode cX2_settle 67 = .ok (.iload_n 2, 1) := by decide +kernel
theorem dX2_settle_68 : decode cX2_settle 68 = .ok (.bipush 8, 2) := by decide +kernel
theorem dX2_settle_70 : decode cX2_settle 70 = .ok (.if_icmp .ge 28, 3) := by decide +kernel
theorem dX2_settle_73 : decode cX2_settle 73 = .ok (.aload_n 0, 1) := by decide +kernel
theorem dX2_settle_74 : decode cX2_settle 74 = .ok (.getfield 31, 3) := by decide +kernel
theorem dX2_settle_77 : decode cX2_settle 77 = .ok (.iload_n 3, 1) := by decide +kernel
theorem dX2_settle_78 : decode cX2_settle 78 = .ok (.iaload, 1) := by decide +kernel
theorem dX2_settle_79 : decode cX2_settle 79 = .ok (.ifCond .lt 19, 3) := by decide +kernel
theorem dX2_settle_82 : decode cX2_settle 82 = .ok (.aload_n 0, 1) := by decide +kernel
theorem dX2_settle_83 : decode cX2_settle 83 = .ok (.getfield 31, 3) := by decide +kernel
theorem dX2_settle_86 : decode cX2_settle 86 = .ok (.iload_n 3, 1) := by decide +kernel
theorem dX2_settle_87 : decode cX2_settle 87 = .ok (.iaload, 1) := by decide +kernel
theorem dX2_settle_88 : decode cX2_settle 88 = .ok (.invokestatic 72, 3) := by decide +kernel
theorem dX2_settle_91 : decode cX2_settle 91 = .ok (.istore_n 3, 1) := by decide +kernel
theorem dX2_settle_92 : decode cX2_settle 92 = .ok (.iinc 2 1, 3) := by decide +kernel
theorem dX2_settle_95 : decode cX2_settle 95 = .ok (.goto (-28), 3) := by decide +kernel
theorem dX2_settle_98 : decode cX2_settle 98 = .ok (.aload_n 0, 1) := by decide +kernel
theorem dX2_settle_99 : decode cX2_settle 99 = .ok (.getfield 34, 3) := by decide +kernel
theorem dX2_settle_102 : decode cX2_settle 102 = .ok (.iload_n 1, 1) := by decide +kernel
theorem dX2_settle_103 : decode cX2_settle 103 = .ok (.iload_n 2, 1) := by decide +kernel
theorem dX2_settle_104 : decode cX2_settle 104 = .ok (.iastore, 1) := by decide +kernel
theorem dX2_settle_105 : decode cX2_settle 105 = .ok (.iinc 1 1, 3) := by decide +kernel
theorem dX2_settle_108 : decode cX2_settle 108 = .ok (.goto (-53), 3) := by decide +kernel
theorem dX2_settle_111 : decode cX2_settle 111 = .ok (.return_, 1) := by decide +kernel
theorem dX2_putInOrder_0 : decode cX2_putInOrder 0 = .ok (.aload_n 0, 1) := by decide +kernel
theorem dX2_putInOrder_1 : decode cX2_putInOrder 1 = .ok (.getfield 37, 3) := by decide +kernel
theorem dX2_putInOrder_4 : decode cX2_putInOrder 4 = .ok (.bipush (-9), 2) := by decide +kernel
theorem dX2_putInOrder_6 : decode cX2_putInOrder 6 = .ok (.invokestatic 103, 3) := by decide +kernel
theorem dX2_putInOrder_9 : decode cX2_putInOrder 9 = .ok (.aload_n 0, 1) := by decide +kernel
theorem dX2_putInOrder_10 : decode cX2_putInOrder 10 = .ok (.getfield 40, 3) := by decide +kernel
theorem dX2_putInOrder_13 : decode cX2_putInOrder 13 = .ok (.bipush (-9), 2) := by decide +kernel
theorem dX2_putInOrder_15 : decode cX2_putInOrder 15 = .ok (.invokestatic 103, 3) := by decide +kernel
theorem dX2_putInOrder_18 : decode cX2_putInOrder 18 = .ok (.iconst 0, 1) := by decide +kernel
theorem dX2_putInOrder_19 : decode cX2_putInOrder 19 = .ok (.istore_n 2, 1) := by decide +kernel
theorem dX2_putInOrder_20 : decode cX2_putInOrder 20 = .ok (.iconst 0, 1) := by decide +kernel
theorem dX2_putInOrder_21 : decode cX2_putInOrder 21 = .ok (.istore_n 3, 1) := by decide +kernel
theorem dX2_putInOrder_22 : decode cX2_putInOrder 22 = .ok (.iload_n 3, 1) := by decide +kernel
theorem dX2_putInOrder_23 : decode cX2_putInOrder 23 = .ok (.aload_n 0, 1) := by decide +kernel
theorem dX2_putInOrder_24 : decode cX2_putInOrder 24 = .ok (.getfield 21, 3) := by decide +kernel
theorem dX2_putInOrder_27 : decode cX2_putInOrder 27 = .ok (.if_icmp .ge 47, 3) := by decide +kernel
theorem dX2_putInOrder_30 : decode cX2_putInOrder 30 = .ok (.aload_n 0, 1) := by decide +kernel
theorem dX2_putInOrder_31 : decode cX2_putInOrder 31 = .ok (.aload_n 1, 1) := by decide +kernel
theorem dX2_putInOrder_32 : decode cX2_putInOrder 32 = .ok (.iload_n 2, 1) := by decide +kernel
theorem dX2_putInOrder_33 : decode cX2_putInOrder 33 = .ok (.invokevirtual 109, 3) := by decide +kernel
theorem dX2_putInOrder_36 : decode cX2_putInOrder 36 = .ok (.istore 4, 2) := by decide +kernel
theorem dX2_putInOrder_38 : decode cX2_putInOrder 38 = .ok (.iload 4, 2) := by decide +kernel
theorem dX2_putInOrder_40 : decode cX2_putInOrder 40 = .ok (.bipush (-9), 2) := by decide +kernel
theorem dX2_putInOrder_42 : decode cX2_putInOrder 42 = .ok (.if_icmp .eq 26, 3) := by decide +kernel
theorem dX2_putInOrder_45 : decode cX2_putInOrder 45 = .ok (.aload_n 0, 1) := by decide +kernel
theorem dX2_putInOrder_46 : decode cX2_putInOrder 46 = .ok (.getfield 37, 3) := by decide +kernel
theorem dX2_putInOrder_49 : decode cX2_putInOrder 49 = .ok (.iload 4, 2) := by decide +kernel
theorem dX2_putInOrder_51 : decode cX2_putInOrder 51 = .ok (.iload_n 3, 1) := by decide +kernel
theorem dX2_putInOrder_52 : decode cX2_putInOrder 52 = .ok (.iastore, 1) := by decide +kernel
theorem dX2_putInOrder_53 : decode cX2_putInOrder 53 = .ok (.aload_n 0, 1) := by decide +kernel
theorem dX2_putInOrder_54 : decode cX2_putInOrder 54 = .ok (.getfield 40, 3) := by decide +kernel
theorem dX2_putInOrder_57 : decode cX2_putInOrder 57 = .ok (.iload_n 3, 1) := by decide +kernel
theorem dX2_putInOrder_58 : decode cX2_putInOrder 58 = .ok (.iload 4, 2) := by decide +kernel
theorem dX2_putInOrder_60 : decode cX2_putInOrder 60 = .ok (.iastore, 1) := by decide +kernel
theorem dX2_putInOrder_61 : decode cX2_putInOrder 61 = .ok (.iload_n 2, 1) := by decide +kernel
theorem dX2_putInOrder_62 : decode cX2_putInOrder 62 = .ok (.iconst 1, 1) := by decide +kernel
theorem dX2_putInOrder_63 : decode cX2_putInOrder 63 = .ok (.iload 4, 2) := by decide +kernel
theorem dX2_putInOrder_65 : decode cX2_putInOrder 65 = .ok (.ishl, 1) := by decide +kernel
theorem dX2_putInOrder_66 : decode cX2_putInOrder 66 = .ok (.ior, 1) := by decide +kernel
theorem dX2_putInOrder_67 : decode cX2_putInOrder 67 = .ok (.istore_n 2, 1) := by decide +kernel
theorem dX2_putInOrder_68 : decode cX2_putInOrder 68 = .ok (.iinc 3 1, 3) := by decide +kernel
theorem dX2_putInOrder_71 : decode cX2_putInOrder 71 = .ok (.goto (-49), 3) := by decide +kernel
theorem dX2_putInOrder_74 : decode cX2_putInOrder 74 = .ok (.aload_n 0, 1) := by decide +kernel
theorem dX2_putInOrder_75 : decode cX2_putInOrder 75 = .ok (.iconst 1, 1) := by decide +kernel
theorem dX2_putInOrder_76 : decode cX2_putInOrder 76 = .ok (.aload_n 0, 1) := by decide +kernel
theorem dX2_putInOrder_77 : decode cX2_putInOrder 77 = .ok (.getfield 21, 3) := by decide +kernel
theorem dX2_putInOrder_80 : decode cX2_putInOrder 80 = .ok (.ishl, 1) := by decide +kernel
theorem dX2_putInOrder_81 : decode cX2_putInOrder 81 = .ok (.iconst 1, 1) := by decide +kernel
theorem dX2_putInOrder_82 : decode cX2_putInOrder 82 = .ok (.isub, 1) := by decide +kernel
theorem dX2_putInOrder_83 : decode cX2_putInOrder 83 = .ok (.iload_n 2, 1) := by decide +kernel
theorem dX2_putInOrder_84 : decode cX2_putInOrder 84 = .ok (.iconst (-1), 1) := by decide +kernel
theorem dX2_putInOrder_85 : decode cX2_putInOrder 85 = .ok (.ixor, 1) := by decide +kernel
theorem dX2_putInOrder_86 : decode cX2_putInOrder 86 = .ok (.iand, 1) := by decide +kernel
theorem dX2_putInOrder_87 : decode cX2_putInOrder 87 = .ok (.putfield 15, 3) := by decide +kernel
theorem dX2_putInOrder_90 : decode cX2_putInOrder 90 = .ok (.return_, 1) := by decide +kernel
theorem dX2_leastReady_0 : decode cX2_leastReady 0 = .ok (.iconst 0, 1) := by decide +kernel
theorem dX2_leastReady_1 : decode cX2_leastReady 1 = .ok (.istore_n 3, 1) := by decide +kernel
theorem dX2_leastReady_2 : decode cX2_leastReady 2 = .ok (.iload_n 3, 1) := by decide +kernel
theorem dX2_leastReady_3 : decode cX2_leastReady 3 = .ok (.aload_n 0, 1) := by decide +kernel
theorem dX2_leastReady_4 : decode cX2_leastReady 4 = .ok (.getfield 21, 3) := by decide +kernel
theorem dX2_leastReady_7 : decode cX2_leastReady 7 = .ok (.if_icmp .ge 32, 3) := by decide +kernel
theorem dX2_leastReady_10 : decode cX2_leastReady 10 = .ok (.iload_n 2, 1) := by decide +kernel
theorem dX2_leastReady_11 : decode cX2_leastReady 11 = .ok (.iload_n 3, 1) := by decide +kernel
theorem dX2_leastReady_12 : decode cX2_leastReady 12 = .ok (.ishr, 1) := by decide +kernel
theorem dX2_leastReady_13 : decode cX2_leastReady 13 = .ok (.iconst 1, 1) := by decide +kernel
theorem dX2_leastReady_14 : decode cX2_leastReady 14 = .ok (.iand, 1) := by decide +kernel
theorem dX2_leastReady_15 : decode cX2_leastReady 15 = .ok (.ifCond .ne 18, 3) := by decide +kernel
theorem dX2_leastReady_18 : decode cX2_leastReady 18 = .ok (.aload_n 0, 1) := by decide +kernel
theorem dX2_leastReady_19 : decode cX2_leastReady 19 = .ok (.aload_n 1, 1) := by decide +kernel
theorem dX2_leastReady_20 : decode cX2_leastReady 20 = .ok (.iload_n 3, 1) := by decide +kernel
theorem dX2_leastReady_21 : decode cX2_leastReady 21 = .ok (.invokevirtual 113, 3) := by decide +kernel
theorem dX2_leastReady_24 : decode cX2_leastReady 24 = .ok (.iload_n 2, 1) := by decide +kernel
theorem dX2_leastReady_25 : decode cX2_leastReady 25 = .ok (.iconst (-1), 1) := by decide +kernel
theorem dX2_leastReady_26 : decode cX2_leastReady 26 = .ok (.ixor, 1) := by decide +kernel
theorem dX2_leastReady_27 : decode cX2_leastReady 27 = .ok (.iand, 1) := by decide +kernel
theorem dX2_leastReady_28 : decode cX2_leastReady 28 = .ok (.ifCond .ne 5, 3) := by decide +kernel
theorem dX2_leastReady_31 : decode cX2_leastReady 31 = .ok (.iload_n 3, 1) := by decide +kernel
theorem dX2_leastReady_32 : decode cX2_leastReady 32 = .ok (.ireturn, 1) := by decide +kernel
theorem dX2_leastReady_33 : decode cX2_leastReady 33 = .ok (.iinc 3 1, 3) := by decide +kernel
theorem dX2_leastReady_36 : decode cX2_leastReady 36 = .ok (.goto (-34), 3) := by decide +kernel
theorem dX2_leastReady_39 : decode cX2_leastReady 39 = .ok (.bipush (-9), 2) := by decide +kernel
theorem dX2_leastReady_41 : decode cX2_leastReady 41 = .ok (.ireturn, 1) := by decide +kernel
theorem dX2_waits_0 : decode cX2_waits 0 = .ok (.aload_n 1, 1) := by decide +kernel
theorem dX2_waits_1 : decode cX2_waits 1 = .ok (.iload_n 2, 1) := by decide +kernel
theorem dX2_waits_2 : decode cX2_waits 2 = .ok (.invokevirtual 87, 3) := by decide +kernel
theorem dX2_waits_5 : decode cX2_waits 5 = .ok (.istore_n 3, 1) := by decide +kernel
theorem dX2_waits_6 : decode cX2_waits 6 = .ok (.aload_n 0, 1) := by decide +kernel
theorem dX2_waits_7 : decode cX2_waits 7 = .ok (.getfield 31, 3) := by decide +kernel
theorem dX2_waits_10 : decode cX2_waits 10 = .ok (.iload_n 2, 1) := by decide +kernel
theorem dX2_waits_11 : decode cX2_waits 11 = .ok (.iaload, 1) := by decide +kernel
theorem dX2_waits_12 : decode cX2_waits 12 = .ok (.ifCond .ge 7, 3) := by decide +kernel
theorem dX2_waits_15 : decode cX2_waits 15 = .ok (.iconst 0, 1) := by decide +kernel
theorem dX2_waits_16 : decode cX2_waits 16 = .ok (.goto 14, 3) := by decide +kernel
theorem dX2_waits_19 : decode cX2_waits 19 = .ok (.iconst 1, 1) := by decide +kernel
theorem dX2_waits_20 : decode cX2_waits 20 = .ok (.aload_n 0, 1) := by decide +kernel
theorem dX2_waits_21 : decode cX2_waits 21 = .ok (.getfield 31, 3) := by decide +kernel
theorem dX2_waits_24 : decode cX2_waits 24 = .ok (.iload_n 2, 1) := by decide +kernel
theorem dX2_waits_25 : decode cX2_waits 25 = .ok (.iaload, 1) := by decide +kernel
theorem dX2_waits_26 : decode cX2_waits 26 = .ok (.invokestatic 72, 3) := by decide +kernel
theorem dX2_waits_29 : decode cX2_waits 29 = .ok (.ishl, 1) := by decide +kernel
theorem dX2_waits_30 : decode cX2_waits 30 = .ok (.istore 4, 2) := by decide +kernel
theorem dX2_waits_32 : decode cX2_waits 32 = .ok (.iload_n 3, 1) := by decide +kernel
theorem dX2_waits_33 : decode cX2_waits 33 = .ok (.bipush 6, 2) := by decide +kernel
theorem dX2_waits_35 : decode cX2_waits 35 = .ok (.if_icmp .eq 9, 3) := by decide +kernel
theorem dX2_waits_38 : decode cX2_waits 38 = .ok (.iload_n 3, 1) := by decide +kernel
theorem dX2_waits_39 : decode cX2_waits 39 = .ok (.bipush 7, 2) := by decide +kernel
theorem dX2_waits_41 : decode cX2_waits 41 = .ok (.if_icmp .ne 6, 3) := by decide +kernel
theorem dX2_waits_44 : decode cX2_waits 44 = .ok (.iload 4, 2) := by decide +kernel
theorem dX2_waits_46 : decode cX2_waits 46 = .ok (.ireturn, 1) := by decide +kernel
theorem dX2_waits_47 : decode cX2_waits 47 = .ok (.iconst 0, 1) := by decide +kernel
theorem dX2_waits_48 : decode cX2_waits 48 = .ok (.istore 5, 2) := by decide +kernel
theorem dX2_waits_50 : decode cX2_waits 50 = .ok (.iload 5, 2) := by decide +kernel
theorem dX2_waits_52 : decode cX2_waits 52 = .ok (.iconst 3, 1) := by decide +kernel
theorem dX2_waits_53 : decode cX2_waits 53 = .ok (.if_icmp .ge 32, 3) := by decide +kernel
theorem dX2_waits_56 : decode cX2_waits 56 = .ok (.iload_n 3, 1) := by decide +kernel
theorem dX2_waits_57 : decode cX2_waits 57 = .ok (.iload 5, 2) := by decide +kernel
theorem dX2_waits_59 : decode cX2_waits 59 = .ok (.invokestatic 100, 3) := by decide +kernel
theorem dX2_waits_62 : decode cX2_waits 62 = .ok (.ifCond .eq 17, 3) := by decide +kernel
theorem dX2_waits_65 : decode cX2_waits 65 = .ok (.iload 4, 2) := by decide +kernel
theorem dX2_waits_67 : decode cX2_waits 67 = .ok (.iconst 1, 1) := by decide +kernel
theorem dX2_waits_68 : decode cX2_waits 68 = .ok (.aload_n 1, 1) := by decide +kernel
theorem dX2_waits_69 : decode cX2_waits 69 = .ok (.iload_n 2, 1) := by decide +kernel
theorem dX2_waits_70 : decode cX2_waits 70 = .ok (.iload 5, 2) := by decide +kernel
theorem dX2_waits_72 : decode cX2_waits 72 = .ok (.invokevirtual 84, 3) := by decide +kernel
theorem dX2_waits_75 : decode cX2_waits 75 = .ok (.ishl, 1) := by decide +kernel
theorem dX2_waits_76 : decode cX2_waits 76 = .ok (.ior, 1) := by decide +kernel
theorem dX2_waits_77 : decode cX2_waits 77 = .ok (.istore 4, 2) := by decide +kernel
theorem dX2_waits_79 : decode cX2_waits 79 = .ok (.iinc 5 1, 3) := by decide +kernel
theorem dX2_waits_82 : decode cX2_waits 82 = .ok (.goto (-32), 3) := by decide +kernel
theorem dX2_waits_85 : decode cX2_waits 85 = .ok (.iload 4, 2) := by decide +kernel
theorem dX2_waits_87 : decode cX2_waits 87 = .ok (.ireturn, 1) := by decide +kernel
theorem dX2_findLevels_0 : decode cX2_findLevels 0 = .ok (.aload_n 0, 1) := by decide +kernel
theorem dX2_findLevels_1 : decode cX2_findLevels 1 = .ok (.getfield 43, 3) := by decide +kernel
theorem dX2_findLevels_4 : decode cX2_findLevels 4 = .ok (.iconst 0, 1) := by decide +kernel
theorem dX2_findLevels_5 : decode cX2_findLevels 5 = .ok (.invokestatic 103, 3) := by decide +kernel
theorem dX2_findLevels_8 : decode cX2_findLevels 8 = .ok (.iconst 0, 1) := by decide +kernel
theorem dX2_findLevels_9 : decode cX2_findLevels 9 = .ok (.istore_n 2, 1) := by decide +kernel
theorem dX2_findLevels_10 : decode cX2_findLevels 10 = .ok (.iload_n 2, 1) := by decide +kernel
theorem dX2_findLevels_11 : decode cX2_findLevels 11 = .ok (.bipush 8, 2) := by decide +kernel
theorem dX2_findLevels_13 : decode cX2_findLevels 13 = .ok (.if_icmp .ge 37, 3) := by decide +kernel
theorem dX2_findLevels_16 : decode cX2_findLevels 16 = .ok (.iconst 0, 1) := by decide +kernel
theorem dX2_findLevels_17 : decode cX2_findLevels 17 = .ok (.istore_n 3, 1) := by decide +kernel
theorem dX2_findLevels_18 : decode cX2_findLevels 18 = .ok (.iload_n 3, 1) := by decide +kernel
theorem dX2_findLevels_19 : decode cX2_findLevels 19 = .ok (.aload_n 0, 1) := by decide +kernel
theorem dX2_findLevels_20 : decode cX2_findLevels 20 = .ok (.getfield 21, 3) := by decide +kernel
theorem dX2_findLevels_23 : decode cX2_findLevels 23 = .ok (.if_icmp .ge 21, 3) := by decide +kernel
theorem dX2_findLevels_26 : decode cX2_findLevels 26 = .ok (.aload_n 0, 1) := by decide +kernel
theorem dX2_findLevels_27 : decode cX2_findLevels 27 = .ok (.getfield 43, 3) := by decide +kernel
theorem dX2_findLevels_30 : decode cX2_findLevels 30 = .ok (.iload_n 3, 1) := by decide +kernel
theorem dX2_findLevels_31 : decode cX2_findLevels 31 = .ok (.aload_n 0, 1) := by decide +kernel
theorem dX2_findLevels_32 : decode cX2_findLevels 32 = .ok (.aload_n 1, 1) := by decide +kernel
theorem dX2_findLevels_33 : decode cX2_findLevels 33 = .ok (.iload_n 3, 1) := by decide +kernel
theorem dX2_findLevels_34 : decode cX2_findLevels 34 = .ok (.invokevirtual 116, 3) := by decide +kernel
theorem dX2_findLevels_37 : decode cX2_findLevels 37 = .ok (.iastore, 1) := by decide +kernel
theorem dX2_findLevels_38 : decode cX2_findLevels 38 = .ok (.iinc 3 1, 3) := by decide +kernel
theorem dX2_findLevels_41 : decode cX2_findLevels 41 = .ok (.goto (-23), 3) := by decide +kernel
theorem dX2_findLevels_44 : decode cX2_findLevels 44 = .ok (.iinc 2 1, 3) := by decide +kernel
theorem dX2_findLevels_47 : decode cX2_findLevels 47 = .ok (.goto (-37), 3) := by decide +kernel
theorem dX2_findLevels_50 : decode cX2_findLevels 50 = .ok (.return_, 1) := by decide +kernel
theorem dX2_levelByParts_0 : decode cX2_levelByParts 0 = .ok (.aload_n 1, 1) := by decide +kernel
theorem dX2_levelByParts_1 : decode cX2_levelByParts 1 = .ok (.iload_n 2, 1) := by decide +kernel
theorem dX2_levelByParts_2 : decode cX2_levelByParts 2 = .ok (.invokevirtual 87, 3) := by decide +kernel
theorem dX2_levelByParts_5 : decode cX2_levelByParts 5 = .ok (.tableswitch 72 2 10 #[53, 53, 53, 53, 72, 51, 72, 60, 60], 51) := by decide +kernel
theorem dX2_levelByParts_56 : decode cX2_levelByParts 56 = .ok (.iconst 1, 1) := by decide +kernel
theorem dX2_levelByParts_57 : decode cX2_levelByParts 57 = .ok (.ireturn, 1) := by decide +kernel
theorem dX2_levelByParts_58 : decode cX2_levelByParts 58 = .ok (.aload_n 0, 1) := by decide +kernel
theorem dX2_levelByParts_59 : decode cX2_levelByParts 59 = .ok (.aload_n 1, 1) := by decide +kernel
theorem dX2_levelByParts_60 : decode cX2_levelByParts 60 = .ok (.iload_n 2, 1) := by decide +kernel
theorem dX2_levelByParts_61 : decode cX2_levelByParts 61 = .ok (.invokevirtual 119, 3) := by decide +kernel
theorem dX2_levelByParts_64 : decode cX2_levelByParts 64 = .ok (.ireturn, 1) := by decide +kernel
theorem dX2_levelByParts_65 : decode cX2_levelByParts 65 = .ok (.aload_n 0, 1) := by decide +kernel
theorem dX2_levelByParts_66 : decode cX2_levelByParts 66 = .ok (.getfield 43, 3) := by decide +kernel
theorem dX2_levelByParts_69 : decode cX2_levelByParts 69 = .ok (.aload_n 1, 1) := by decide +kernel
theorem dX2_levelByParts_70 : decode cX2_levelByParts 70 = .ok (.iload_n 2, 1) := by decide +kernel
theorem dX2_levelByParts_71 : decode cX2_levelByParts 71 = .ok (.iconst 0, 1) := by decide +kernel
theorem dX2_levelByParts_72 : decode cX2_levelByParts 72 = .ok (.invokevirtual 84, 3) := by decide +kernel
theorem dX2_levelByParts_75 : decode cX2_levelByParts 75 = .ok (.iaload, 1) := by decide +kernel
theorem dX2_levelByParts_76 : decode cX2_levelByParts 76 = .ok (.ireturn, 1) := by decide +kernel
theorem dX2_levelByParts_77 : decode cX2_levelByParts 77 = .ok (.iconst 0, 1) := by decide +kernel
theorem dX2_levelByParts_78 : decode cX2_levelByParts 78 = .ok (.ireturn, 1) := by decide +kernel
theorem dX2_highest_0 : decode cX2_highest 0 = .ok (.iconst 0, 1) := by decide +kernel
theorem dX2_highest_1 : decode cX2_highest 1 = .ok (.istore_n 3, 1) := by decide +kernel
theorem dX2_highest_2 : decode cX2_highest 2 = .ok (.iconst 0, 1) := by decide +kernel
theorem dX2_highest_3 : decode cX2_highest 3 = .ok (.istore 4, 2) := by decide +kernel
theorem dX2_highest_5 : decode cX2_highest 5 = .ok (.iload 4, 2) := by decide +kernel
theorem dX2_highest_7 : decode cX2_highest 7 = .ok (.iconst 3, 1) := by decide +kernel
theorem dX2_highest_8 : decode cX2_highest 8 = .ok (.if_icmp .ge 39, 3) := by decide +kernel
theorem dX2_highest_11 : decode cX2_highest 11 = .ok (.aload_n 1, 1) := by decide +kernel
theorem dX2_highest_12 : decode cX2_highest 12 = .ok (.iload_n 2, 1) := by decide +kernel
theorem dX2_highest_13 : decode cX2_highest 13 = .ok (.invokevirtual 87, 3) := by decide +kernel
theorem dX2_highest_16 : decode cX2_highest 16 = .ok (.iload 4, 2) := by decide +kernel
theorem dX2_highest_18 : decode cX2_highest 18 = .ok (.invokestatic 100, 3) := by decide +kernel
theorem dX2_highest_21 : decode cX2_highest 21 = .ok (.ifCond .eq 20, 3) := by decide +kernel
theorem dX2_highest_24 : decode cX2_highest 24 = .ok (.iload_n 3, 1) := by decide +kernel
theorem dX2_highest_25 : decode cX2_highest 25 = .ok (.aload_n 0, 1) := by decide +kernel
theorem dX2_highest_26 : decode cX2_highest 26 = .ok (.getfield 43, 3) := by decide +kernel
theorem dX2_highest_29 : decode cX2_highest 29 = .ok (.aload_n 1, 1) := by decide +kernel
theorem dX2_highest_30 : decode cX2_highest 30 = .ok (.iload_n 2, 1) := by decide +kernel
theorem dX2_highest_31 : decode cX2_highest 31 = .ok (.iload 4, 2) := by decide +kernel
theorem dX2_highest_33 : decode cX2_highest 33 = .ok (.invokevirtual 84, 3) := by decide +kernel
theorem dX2_highest_36 : decode cX2_highest 36 = .ok (.iaload, 1) := by decide +kernel
theorem dX2_highest_37 : decode cX2_highest 37 = .ok (.invokestatic 122, 3) := by decide +kernel
theorem dX2_highest_40 : decode cX2_highest 40 = .ok (.istore_n 3, 1) := by decide +kernel
theorem dX2_highest_41 : decode cX2_highest 41 = .ok (.iinc 4 1, 3) := by decide +kernel
theorem dX2_highest_44 : decode cX2_highest 44 = .ok (.goto (-39), 3) := by decide +kernel
theorem dX2_highest_47 : decode cX2_highest 47 = .ok (.iload_n 3, 1) := by decide +kernel
theorem dX2_highest_48 : decode cX2_highest 48 = .ok (.ireturn, 1) := by decide +kernel
theorem dX2_findRaw_0 : decode cX2_findRaw 0 = .ok (.iconst 0, 1) := by decide +kernel
theorem dX2_findRaw_1 : decode cX2_findRaw 1 = .ok (.istore_n 2, 1) := by decide +kernel
theorem dX2_findRaw_2 : decode cX2_findRaw 2 = .ok (.iload_n 2, 1) := by decide +kernel
theorem dX2_findRaw_3 : decode cX2_findRaw 3 = .ok (.aload_n 0, 1) := by decide +kernel
theorem dX2_findRaw_4 : decode cX2_findRaw 4 = .ok (.getfield 21, 3) := by decide +kernel
theorem dX2_findRaw_7 : decode cX2_findRaw 7 = .ok (.if_icmp .ge 20, 3) := by decide +kernel
theorem dX2_findRaw_10 : decode cX2_findRaw 10 = .ok (.aload_n 0, 1) := by decide +kernel
theorem dX2_findRaw_11 : decode cX2_findRaw 11 = .ok (.aload_n 1, 1) := by decide +kernel
theorem dX2_findRaw_12 : decode cX2_findRaw 12 = .ok (.iload_n 2, 1) := by decide +kernel
theorem dX2_findRaw_13 : decode cX2_findRaw 13 = .ok (.invokevirtual 125, 3) := by decide +kernel
theorem dX2_findRaw_16 : decode cX2_findRaw 16 = .ok (.ifCond .eq 5, 3) := by decide +kernel
theorem dX2_findRaw_19 : decode cX2_findRaw 19 = .ok (.iload_n 2, 1) := by decide +kernel
theorem dX2_findRaw_20 : decode cX2_findRaw 20 = .ok (.ireturn, 1) := by decide +kernel
theorem dX2_findRaw_21 : decode cX2_findRaw 21 = .ok (.iinc 2 1, 3) := by decide +kernel
theorem dX2_findRaw_24 : decode cX2_findRaw 24 = .ok (.goto (-22), 3) := by decide +kernel
theorem dX2_findRaw_27 : decode cX2_findRaw 27 = .ok (.bipush (-9), 2) := by decide +kernel
theorem dX2_findRaw_29 : decode cX2_findRaw 29 = .ok (.ireturn, 1) := by decide +kernel
theorem dX2_isRaw_0 : decode cX2_isRaw 0 = .ok (.aload_n 1, 1) := by decide +kernel
theorem dX2_isRaw_1 : decode cX2_isRaw 1 = .ok (.iload_n 2, 1) := by decide +kernel
theorem dX2_isRaw_2 : decode cX2_isRaw 2 = .ok (.invokevirtual 87, 3) := by decide +kernel
theorem dX2_isRaw_5 : decode cX2_isRaw 5 = .ok (.tableswitch 97 6 11 #[60, 39, 39, 60, 60, 81], 39) := by decide +kernel
theorem dX2_isRaw_44 : decode cX2_isRaw 44 = .ok (.aload_n 0, 1) := by decide +kernel
theorem dX2_isRaw_45 : decode cX2_isRaw 45 = .ok (.getfield 43, 3) := by decide +kernel
theorem dX2_isRaw_48 : decode cX2_isRaw 48 = .ok (.aload_n 1, 1) := by decide +kernel
theorem dX2_isRaw_49 : decode cX2_isRaw 49 = .ok (.iload_n 2, 1) := by decide +kernel
theorem dX2_isRaw_50 : decode cX2_isRaw 50 = .ok (.iconst 0, 1) := by decide +kernel
theorem dX2_isRaw_51 : decode cX2_isRaw 51 = .ok (.invokevirtual 84, 3) := by decide +kernel
theorem dX2_isRaw_54 : decode cX2_isRaw 54 = .ok (.iaload, 1) := by decide +kernel
theorem dX2_isRaw_55 : decode cX2_isRaw 55 = .ok (.iconst 1, 1) := by decide +kernel
theorem dX2_isRaw_56 : decode cX2_isRaw 56 = .ok (.if_icmp .ne 7, 3) := by decide +kernel
theorem dX2_isRaw_59 : decode cX2_isRaw 59 = .ok (.iconst 1, 1) := by decide +kernel
theorem dX2_isRaw_60 : decode cX2_isRaw 60 = .ok (.goto 4, 3) := by decide +kernel
theorem dX2_isRaw_63 : decode cX2_isRaw 63 = .ok (.iconst 0, 1) := by decide +kernel
theorem dX2_isRaw_64 : decode cX2_isRaw 64 = .ok (.ireturn, 1) := by decide +kernel
theorem dX2_isRaw_65 : decode cX2_isRaw 65 = .ok (.aload_n 0, 1) := by decide +kernel
theorem dX2_isRaw_66 : decode cX2_isRaw 66 = .ok (.getfield 43, 3) := by decide +kernel
theorem dX2_isRaw_69 : decode cX2_isRaw 69 = .ok (.aload_n 1, 1) := by decide +kernel
theorem dX2_isRaw_70 : decode cX2_isRaw 70 = .ok (.iload_n 2, 1) := by decide +kernel
theorem dX2_isRaw_71 : decode cX2_isRaw 71 = .ok (.iconst 1, 1) := by decide +kernel
theorem dX2_isRaw_72 : decode cX2_isRaw 72 = .ok (.invokevirtual 84, 3) := by decide +kernel
theorem dX2_isRaw_75 : decode cX2_isRaw 75 = .ok (.iaload, 1) := by decide +kernel
theorem dX2_isRaw_76 : decode cX2_isRaw 76 = .ok (.iconst 1, 1) := by decide +kernel
theorem dX2_isRaw_77 : decode cX2_isRaw 77 = .ok (.if_icmp .ne 7, 3) := by decide +kernel
theorem dX2_isRaw_80 : decode cX2_isRaw 80 = .ok (.iconst 1, 1) := by decide +kernel
theorem dX2_isRaw_81 : decode cX2_isRaw 81 = .ok (.goto 4, 3) := by decide +kernel
theorem dX2_isRaw_84 : decode cX2_isRaw 84 = .ok (.iconst 0, 1) := by decide +kernel
theorem dX2_isRaw_85 : decode cX2_isRaw 85 = .ok (.ireturn, 1) := by decide +kernel
theorem dX2_isRaw_86 : decode cX2_isRaw 86 = .ok (.aload_n 0, 1) := by decide +kernel
theorem dX2_isRaw_87 : decode cX2_isRaw 87 = .ok (.aload_n 1, 1) := by decide +kernel
theorem dX2_isRaw_88 : decode cX2_isRaw 88 = .ok (.iload_n 2, 1) := by decide +kernel
theorem dX2_isRaw_89 : decode cX2_isRaw 89 = .ok (.invokevirtual 119, 3) := by decide +kernel
theorem dX2_isRaw_92 : decode cX2_isRaw 92 = .ok (.iconst 1, 1) := by decide +kernel
theorem dX2_isRaw_93 : decode cX2_isRaw 93 = .ok (.if_icmp .ne 7, 3) := by decide +kernel
theorem dX2_isRaw_96 : decode cX2_isRaw 96 = .ok (.iconst 1, 1) := by decide +kernel
theorem dX2_isRaw_97 : decode cX2_isRaw 97 = .ok (.goto 4, 3) := by decide +kernel
theorem dX2_isRaw_100 : decode cX2_isRaw 100 = .ok (.iconst 0, 1) := by decide +kernel
theorem dX2_isRaw_101 : decode cX2_isRaw 101 = .ok (.ireturn, 1) := by decide +kernel
theorem dX2_isRaw_102 : decode cX2_isRaw 102 = .ok (.iconst 0, 1) := by decide +kernel
theorem dX2_isRaw_103 : decode cX2_isRaw 103 = .ok (.ireturn, 1) := by decide +kernel
theorem dX5_init_0 : decode cX5_init 0 = .ok (.aload_n 0, 1) := by decide +kernel
theorem dX5_init_1 : decode cX5_init 1 = .ok (.invokespecial 1, 3) := by decide +kernel
theorem dX5_init_4 : decode cX5_init 4 = .ok (.aload_n 0, 1) := by decide +kernel
theorem dX5_init_5 : decode cX5_init 5 = .ok (.new 7, 3) := by decide +kernel
theorem dX5_init_8 : decode cX5_init 8 = .ok (.dup, 1) := by decide +kernel
theorem dX5_init_9 : decode cX5_init 9 = .ok (.invokespecial 9, 3) := by decide +kernel
theorem dX5_init_12 : decode cX5_init 12 = .ok (.putfield 10, 3) := by decide +kernel
theorem dX5_init_15 : decode cX5_init 15 = .ok (.aload_n 0, 1) := by decide +kernel
theorem dX5_init_16 : decode cX5_init 16 = .ok (.new 16, 3) := by decide +kernel
theorem dX5_init_19 : decode cX5_init 19 = .ok (.dup, 1) := by decide +kernel
theorem dX5_init_20 : decode cX5_init 20 = .ok (.invokespecial 18, 3) := by decide +kernel
theorem dX5_init_23 : decode cX5_init 23 = .ok (.putfield 19, 3) := by decide +kernel
theorem dX5_init_26 : decode cX5_init 26 = .ok (.aload_n 0, 1) := by decide +kernel
theorem dX5_init_27 : decode cX5_init 27 = .ok (.new 16, 3) := by decide +kernel
theorem dX5_init_30 : decode cX5_init 30 = .ok (.dup, 1) := by decide +kernel
theorem dX5_init_31 : decode cX5_init 31 = .ok (.invokespecial 18, 3) := by decide +kernel
theorem dX5_init_34 : decode cX5_init 34 = .ok (.putfield 23, 3) := by decide +kernel
theorem dX5_init_37 : decode cX5_init 37 = .ok (.aload_n 0, 1) := by decide +kernel
theorem dX5_init_38 : decode cX5_init 38 = .ok (.new 26, 3) := by decide +kernel
theorem dX5_init_41 : decode cX5_init 41 = .ok (.dup, 1) := by decide +kernel
theorem dX5_init_42 : decode cX5_init 42 = .ok (.invokespecial 28, 3) := by decide +kernel
theorem dX5_init_45 : decode cX5_init 45 = .ok (.putfield 29, 3) := by decide +kernel
theorem dX5_init_48 : decode cX5_init 48 = .ok (.aload_n 0, 1) := by decide +kernel
theorem dX5_init_49 : decode cX5_init 49 = .ok (.new 33, 3) := by decide +kernel
theorem dX5_init_52 : decode cX5_init 52 = .ok (.dup, 1) := by decide +kernel
theorem dX5_init_53 : decode cX5_init 53 = .ok (.invokespecial 35, 3) := by decide +kernel
theorem dX5_init_56 : decode cX5_init 56 = .ok (.putfield 36, 3) := by decide +kernel
theorem dX5_init_59 : decode cX5_init 59 = .ok (.aload_n 0, 1) := by decide +kernel
theorem dX5_init_60 : decode cX5_init 60 = .ok (.new 40, 3) := by decide +kernel
theorem dX5_init_63 : decode cX5_init 63 = .ok (.dup, 1) := by decide +kernel
theorem dX5_init_64 : decode cX5_init 64 = .ok (.invokespecial 42, 3) := by decide +kernel
theorem dX5_init_67 : decode cX5_init 67 = .ok (.putfield 43, 3) := by decide +kernel
theorem dX5_init_70 : decode cX5_init 70 = .ok (.aload_n 0, 1) := by decide +kernel
theorem dX5_init_71 : decode cX5_init 71 = .ok (.iconst 2, 1) := by decide +kernel
theorem dX5_init_72 : decode cX5_init 72 = .ok (.anewarray 16, 3) := by decide +kernel
theorem dX5_init_75 : decode cX5_init 75 = .ok (.putfield 47, 3) := by decide +kernel
theorem dX5_init_78 : decode cX5_init 78 = .ok (.aload_n 0, 1) := by decide +kernel
theorem dX5_init_79 : decode cX5_init 79 = .ok (.iconst 2, 1) := by decide +kernel
theorem dX5_init_80 : decode cX5_init 80 = .ok (.newarray .boolean, 2) := by decide +kernel
theorem dX5_init_82 : decode cX5_init 82 = .ok (.putfield 51, 3) := by decide +kernel
theorem dX5_init_85 : decode cX5_init 85 = .ok (.aload_n 0, 1) := by decide +kernel
theorem dX5_init_86 : decode cX5_init 86 = .ok (.sipush 328, 3) := by decide +kernel
theorem dX5_init_89 : decode cX5_init 89 = .ok (.newarray .int, 2) := by decide +kernel
theorem dX5_init_91 : decode cX5_init 91 = .ok (.putfield 55, 3) := by decide +kernel
theorem dX5_init_94 : decode cX5_init 94 = .ok (.aload_n 0, 1) := by decide +kernel
theorem dX5_init_95 : decode cX5_init 95 = .ok (.lconst 0, 1) := by decide +kernel
theorem dX5_init_96 : decode cX5_init 96 = .ok (.putfield 59, 3) := by decide +kernel
theorem dX5_init_99 : decode cX5_init 99 = .ok (.iconst 0, 1) := by decide +kernel
theorem dX5_init_100 : decode cX5_init 100 = .ok (.istore_n 1, 1) := by decide +kernel
theorem dX5_init_101 : decode cX5_init 101 = .ok (.iload_n 1, 1) := by decide +kernel
theorem dX5_init_102 : decode cX5_init 102 = .ok (.iconst 2, 1) := by decide +kernel
theorem dX5_init_103 : decode cX5_init 103 = .ok (.if_icmp .ge 22, 3) := by decide +kernel
theorem dX5_init_106 : decode cX5_init 106 = .ok (.aload_n 0, 1) := by decide +kernel
theorem dX5_init_107 : decode cX5_init 107 = .ok (.getfield 47, 3) := by decide +kernel
theorem dX5_init_110 : decode cX5_init 110 = .ok (.iload_n 1, 1) := by decide +kernel
theorem dX5_init_111 : decode cX5_init 111 = .ok (.new 16, 3) := by decide +kernel
theorem dX5_init_114 : decode cX5_init 114 = .ok (.dup, 1) := by decide +kernel
theorem dX5_init_115 : decode cX5_init 115 = .ok (.invokespecial 18, 3) := by decide +kernel
theorem dX5_init_118 : decode cX5_init 118 = .ok (.aastore, 1) := by decide +kernel
theorem dX5_init_119 : decode cX5_init 119 = .ok (.iinc 1 1, 3) := by decide +kernel
theorem dX5_init_122 : decode cX5_init 122 = .ok (.goto (-21), 3) := by decide +kernel
theorem dX5_init_125 : decode cX5_init 125 = .ok (.return_, 1) := by decide +kernel
theorem dX5_write_0 : decode cX5_write 0 = .ok (.iload_n 1, 1) := by decide +kernel
theorem dX5_write_1 : decode cX5_write 1 = .ok (.ifCond .lt 10, 3) := by decide +kernel
theorem dX5_write_4 : decode cX5_write 4 = .ok (.iload_n 1, 1) := by decide +kernel
theorem dX5_write_5 : decode cX5_write 5 = .ok (.sipush 255, 3) := by decide +kernel
theorem dX5_write_8 : decode cX5_write 8 = .ok (.if_icmp .le 6, 3) := by decide +kernel
theorem dX5_write_11 : decode cX5_write 11 = .ok (.bipush (-2), 2) := by decide +kernel
theorem dX5_write_13 : decode cX5_write 13 = .ok (.ireturn, 1) := by decide +kernel
theorem dX5_write_14 : decode cX5_write 14 = .ok (.aload_n 0, 1) := by decide +kernel
theorem dX5_write_15 : decode cX5_write 15 = .ok (.getfield 10, 3) := by decide +kernel
theorem dX5_write_18 : decode cX5_write 18 = .ok (.iload_n 1, 1) := by decide +kernel
theorem dX5_write_19 : decode cX5_write 19 = .ok (.invokevirtual 63, 3) := by decide +kernel
theorem dX5_write_22 : decode cX5_write 22 = .ok (.ifCond .eq 13, 3) := by decide +kernel
theorem dX5_write_25 : decode cX5_write 25 = .ok (.aload_n 0, 1) := by decide +kernel
theorem dX5_write_26 : decode cX5_write 26 = .ok (.getfield 10, 3) := by decide +kernel
theorem dX5_write_29 : decode cX5_write 29 = .ok (.getfield 67, 3) := by decide +kernel
theorem dX5_write_32 : decode cX5_write 32 = .ok (.goto 5, 3) := by decide +kernel
theorem dX5_write_35 : decode cX5_write 35 = .ok (.bipush (-4), 2) := by decide +kernel
theorem dX5_write_37 : decode cX5_write 37 = .ok (.ireturn, 1) := by decide +kernel
theorem dX5_wipe_0 : decode cX5_wipe 0 = .ok (.aload_n 0, 1) := by decide +kernel
theorem dX5_wipe_1 : decode cX5_wipe 1 = .ok (.getfield 10, 3) := by decide +kernel
theorem dX5_wipe_4 : decode cX5_wipe 4 = .ok (.getfield 67, 3) := by decide +kernel
theorem dX5_wipe_7 : decode cX5_wipe 7 = .ok (.istore_n 1, 1) := by decide +kernel
theorem dX5_wipe_8 : decode cX5_wipe 8 = .ok (.aload_n 0, 1) := by decide +kernel
theorem dX5_wipe_9 : decode cX5_wipe 9 = .ok (.getfield 10, 3) := by decide +kernel
theorem dX5_wipe_12 : decode cX5_wipe 12 = .ok (.iconst 0, 1) := by decide +kernel
theorem dX5_wipe_13 : decode cX5_wipe 13 = .ok (.putfield 67, 3) := by decide +kernel
theorem dX5_wipe_16 : decode cX5_wipe 16 = .ok (.iload_n 1, 1) := by decide +kernel
theorem dX5_wipe_17 : decode cX5_wipe 17 = .ok (.ireturn, 1) := by decide +kernel
theorem dX5_fault_0 : decode cX5_fault 0 = .ok (.aload_n 0, 1) := by decide +kernel
theorem dX5_fault_1 : decode cX5_fault 1 = .ok (.getfield 10, 3) := by decide +kernel
theorem dX5_fault_4 : decode cX5_fault 4 = .ok (.aload_n 0, 1) := by decide +kernel
theorem dX5_fault_5 : decode cX5_fault 5 = .ok (.getfield 23, 3) := by decide +kernel
theorem dX5_fault_8 : decode cX5_fault 8 = .ok (.invokevirtual 71, 3) := by decide +kernel
theorem dX5_fault_11 : decode cX5_fault 11 = .ok (.ireturn, 1) := by decide +kernel
theorem dX5_program_0 : decode cX5_program 0 = .ok (.aload_n 0, 1) := by decide +kernel
theorem dX5_program_1 : decode cX5_program 1 = .ok (.getfield 10, 3) := by decide +kernel
theorem dX5_program_4 : decode cX5_program 4 = .ok (.aload_n 0, 1) := by decide +kernel
theorem dX5_program_5 : decode cX5_program 5 = .ok (.getfield 23, 3) := by decide +kernel
theorem dX5_program_8 : decode cX5_program 8 = .ok (.invokevirtual 71, 3) := by decide +kernel
theorem dX5_program_11 : decode cX5_program 11 = .ok (.bipush (-9), 2) := by decide +kernel
theorem dX5_program_13 : decode cX5_program 13 = .ok (.if_icmp .eq 6, 3) := by decide +kernel
theorem dX5_program_16 : decode cX5_program 16 = .ok (.bipush (-3), 2) := by decide +kernel
theorem dX5_program_18 : decode cX5_program 18 = .ok (.ireturn, 1) := by decide +kernel
theorem dX5_program_19 : decode cX5_program 19 = .ok (.aload_n 0, 1) := by decide +kernel
theorem dX5_program_20 : decode cX5_program 20 = .ok (.getfield 19, 3) := by decide +kernel
theorem dX5_program_23 : decode cX5_program 23 = .ok (.aload_n 0, 1) := by decide +kernel
theorem dX5_program_24 : decode cX5_program 24 = .ok (.getfield 23, 3) := by decide +kernel
theorem dX5_program_27 : decode cX5_program 27 = .ok (.invokevirtual 75, 3) := by decide +kernel
theorem dX5_program_30 : decode cX5_program 30 = .ok (.aload_n 0, 1) := by decide +kernel
theorem dX5_program_31 : decode cX5_program 31 = .ok (.getfield 19, 3) := by decide +kernel
theorem dX5_program_34 : decode cX5_program 34 = .ok (.invokevirtual 79, 3) := by decide +kernel
theorem dX5_program_37 : decode cX5_program 37 = .ok (.aload_n 0, 1) := by decide +kernel
theorem dX5_program_38 : decode cX5_program 38 = .ok (.getfield 36, 3) := by decide +kernel
theorem dX5_program_41 : decode cX5_program 41 = .ok (.invokevirtual 82, 3) := by decide +kernel
theorem dX5_program_44 : decode cX5_program 44 = .ok (.iconst 0, 1) := by decide +kernel
theorem dX5_program_45 : decode cX5_program 45 = .ok (.istore_n 1, 1) := by decide +kernel
theorem dX5_program_46 : decode cX5_program 46 = .ok (.iload_n 1, 1) := by decide +kernel
theorem dX5_program_47 : decode cX5_program 47 = .ok (.iconst 2, 1) := by decide +kernel
theorem dX5_program_48 : decode cX5_program 48 = .ok (.if_icmp .ge 16, 3) := by decide +kernel
theorem dX5_program_51 : decode cX5_program 51 = .ok (.aload_n 0, 1) := by decide +kernel
theorem dX5_program_52 : decode cX5_program 52 = .ok (.getfield 51, 3) := by decide +kernel
theorem dX5_program_55 : decode cX5_program 55 = .ok (.iload_n 1, 1) := by decide +kernel
theorem dX5_program_56 : decode cX5_program 56 = .ok (.iconst 0, 1) := by decide +kernel
theorem dX5_program_57 : decode cX5_program 57 = .ok (.bastore, 1) := by decide +kernel
theorem dX5_program_58 : decode cX5_program 58 = .ok (.iinc 1 1, 3) := by decide +kernel
theorem dX5_program_61 : decode cX5_program 61 = .ok (.goto (-15), 3) := by decide +kernel
theorem dX5_program_64 : decode cX5_program 64 = .ok (.aload_n 0, 1) := by decide +kernel
theorem dX5_program_65 : decode cX5_program 65 = .ok (.getfield 29, 3) := by decide +kernel
theorem dX5_program_68 : decode cX5_program 68 = .ok (.aload_n 0, 1) := by decide +kernel
theorem dX5_program_69 : decode cX5_program 69 = .ok (.getfield 19, 3) := by decide +kernel
theorem dX5_program_72 : decode cX5_program 72 = .ok (.invokevirtual 85, 3) := by decide +kernel
theorem dX5_program_75 : decode cX5_program 75 = .ok (.aload_n 0, 1) := by decide +kernel
theorem dX5_program_76 : decode cX5_program 76 = .ok (.invokevirtual 88, 3) := by decide +kernel
theorem dX5_program_79 : decode cX5_program 79 = .ok (.ireturn, 1) := by decide +kernel
theorem dX5_about_0 : decode cX5_about 0 = .ok (.iload_n 1, 1) := by decide +kernel
theorem dX5_about_1 : decode cX5_about 1 = .ok (.tableswitch 132 0 9 #[55, 63, 71, 79, 87, 92, 100, 108, 116, 124], 55) := by decide +kernel
theorem dX5_about_56 : decode cX5_about 56 = .ok (.aload_n 0, 1) := by decide +kernel
theorem dX5_about_57 : decode cX5_about 57 = .ok (.getfield 19, 3) := by decide +kernel
theorem dX5_about_60 : decode cX5_about 60 = .ok (.getfield 92, 3) := by decide +kernel
theorem dX5_about_63 : decode cX5_about 63 = .ok (.ireturn, 1) := by decide +kernel
theorem dX5_about_64 : decode cX5_about 64 = .ok (.aload_n 0, 1) := by decide +kernel
theorem dX5_about_65 : decode cX5_about 65 = .ok (.getfield 29, 3) := by decide +kernel
theorem dX5_about_68 : decode cX5_about 68 = .ok (.getfield 95, 3) := by decide +kernel
theorem dX5_about_71 : decode cX5_about 71 = .ok (.ireturn, 1) := by decide +kernel
theorem dX5_about_72 : decode cX5_about 72 = .ok (.aload_n 0, 1) := by decide +kernel
theorem dX5_about_73 : decode cX5_about 73 = .ok (.getfield 29, 3) := by decide +kernel
theorem dX5_about_76 : decode cX5_about 76 = .ok (.getfield 98, 3) := by decide +kernel
theorem dX5_about_79 : decode cX5_about 79 = .ok (.ireturn, 1) := by decide +kernel
theorem dX5_about_80 : decode cX5_about 80 = .ok (.aload_n 0, 1) := by decide +kernel
theorem dX5_about_81 : decode cX5_about 81 = .ok (.getfield 29, 3) := by decide +kernel
theorem dX5_about_84 : decode cX5_about 84 = .ok (.getfield 101, 3) := by decide +kernel
theorem dX5_about_87 : decode cX5_about 87 = .ok (.ireturn, 1) := by decide +kernel
theorem dX5_about_88 : decode cX5_about 88 = .ok (.aload_n 0, 1) := by decide +kernel
theorem dX5_about_89 : decode cX5_about 89 = .ok (.invokevirtual 88, 3) := by decide +kernel
theorem dX5_about_92 : decode cX5_about 92 = .ok (.ireturn, 1) := by decide +kernel
theorem dX5_about_93 : decode cX5_about 93 = .ok (.aload_n 0, 1) := by decide +kernel
theorem dX5_about_94 : decode cX5_about 94 = .ok (.getfield 19, 3) := by decide +kernel
theorem dX5_about_97 : decode cX5_about 97 = .ok (.getfield 104, 3) := by decide +kernel
theorem dX5_about_100 : decode cX5_about 100 = .ok (.ireturn, 1) := by decide +kernel
theorem dX5_about_101 : decode cX5_about 101 = .ok (.aload_n 0, 1) := by decide +kernel
theorem dX5_about_102 : decode cX5_about 102 = .ok (.getfield 19, 3) := by decide +kernel
theorem dX5_about_105 : decode cX5_about 105 = .ok (.invokevirtual 107, 3) := by decide +kernel
theorem dX5_about_108 : decode cX5_about 108 = .ok (.ireturn, 1) := by decide +kernel
theorem dX5_about_109 : decode cX5_about 109 = .ok (.aload_n 0, 1) := by decide +kernel
theorem dX5_about_110 : decode cX5_about 110 = .ok (.getfield 36, 3) := by decide +kernel
theorem dX5_about_113 : decode cX5_about 113 = .ok (.getfield 110, 3) := by decide +kernel
theorem dX5_about_116 : decode cX5_about 116 = .ok (.ireturn, 1) := by decide +kernel
theorem dX5_about_117 : decode cX5_about 117 = .ok (.aload_n 0, 1) := by decide +kernel
theorem dX5_about_118 : decode cX5_about 118 = .ok (.getfield 43, 3) := by decide +kernel
theorem dX5_about_121 : decode cX5_about 121 = .ok (.getfield 111, 3) := by decide +kernel
theorem dX5_about_124 : decode cX5_about 124 = .ok (.ireturn, 1) := by decide +kernel
theorem dX5_about_125 : decode cX5_about 125 = .ok (.aload_n 0, 1) := by decide +kernel
theorem dX5_about_126 : decode cX5_about 126 = .ok (.getfield 10, 3) := by decide +kernel
theorem dX5_about_129 : decode cX5_about 129 = .ok (.getfield 67, 3) := by decide +kernel
theorem dX5_about_132 : decode cX5_about 132 = .ok (.ireturn, 1) := by decide +kernel
theorem dX5_about_133 : decode cX5_about 133 = .ok (.bipush (-2), 2) := by decide +kernel
theorem dX5_about_135 : decode cX5_about 135 = .ok (.ireturn, 1) := by decide +kernel
theorem dX5_stream_0 : decode cX5_stream 0 = .ok (.aload_n 0, 1) := by decide +kernel
theorem dX5_stream_1 : decode cX5_stream 1 = .ok (.iload_n 1, 1) := by decide +kernel
theorem dX5_stream_2 : decode cX5_stream 2 = .ok (.invokevirtual 112, 3) := by decide +kernel
theorem dX5_stream_5 : decode cX5_stream 5 = .ok (.ifCond .ne 5, 3) := by decide +kernel
theorem dX5_stream_8 : decode cX5_stream 8 = .ok (.iconst (-1), 1) := by decide +kernel
theorem dX5_stream_9 : decode cX5_stream 9 = .ok (.ireturn, 1) := by decide +kernel
theorem dX5_stream_10 : decode cX5_stream 10 = .ok (.iload_n 2, 1) := by decide +kernel
theorem dX5_stream_11 : decode cX5_stream 11 = .ok (.tableswitch 132 0 4 #[33, 42, 69, 96, 123], 33) := by decide +kernel
theorem dX5_stream_44 : decode cX5_stream 44 = .ok (.aload_n 0, 1) := by decide +kernel
theorem dX5_stream_45 : decode cX5_stream 45 = .ok (.getfield 19, 3) := by decide +kernel
theorem dX5_stream_48 : decode cX5_stream 48 = .ok (.iload_n 1, 1) := by decide +kernel
theorem dX5_stream_49 : decode cX5_stream 49 = .ok (.invokevirtual 115, 3) := by decide +kernel
theorem dX5_stream_52 : decode cX5_stream 52 = .ok (.ireturn, 1) := by decide +kernel
theorem dX5_stream_53 : decode cX5_stream 53 = .ok (.aload_n 0, 1) := by decide +kernel
theorem dX5_stream_54 : decode cX5_stream 54 = .ok (.getfield 29, 3) := by decide +kernel
theorem dX5_stream_57 : decode cX5_stream 57 = .ok (.getfield 95, 3) := by decide +kernel
theorem dX5_stream_60 : decode cX5_stream 60 = .ok (.bipush (-9), 2) := by decide +kernel
theorem dX5_stream_62 : decode cX5_stream 62 = .ok (.if_icmp .ne 15, 3) := by decide +kernel
theorem dX5_stream_65 : decode cX5_stream 65 = .ok (.aload_n 0, 1) := by decide +kernel
theorem dX5_stream_66 : decode cX5_stream 66 = .ok (.getfield 29, 3) := by decide +kernel
theorem dX5_stream_69 : decode cX5_stream 69 = .ok (.getfield 119, 3) := by decide +kernel
theorem dX5_stream_72 : decode cX5_stream 72 = .ok (.iload_n 1, 1) := by decide +kernel
theorem dX5_stream_73 : decode cX5_stream 73 = .ok (.iaload, 1) := by decide +kernel
theorem dX5_stream_74 : decode cX5_stream 74 = .ok (.goto 5, 3) := by decide +kernel
theorem dX5_stream_77 : decode cX5_stream 77 = .ok (.bipush (-9), 2) := by decide +kernel
theorem dX5_stream_79 : decode cX5_stream 79 = .ok (.ireturn, 1) := by decide +kernel
theorem dX5_stream_80 : decode cX5_stream 80 = .ok (.aload_n 0, 1) := by decide +kernel
theorem dX5_stream_81 : decode cX5_stream 81 = .ok (.getfield 29, 3) := by decide +kernel
theorem dX5_stream_84 : decode cX5_stream 84 = .ok (.getfield 95, 3) := by decide +kernel
theorem dX5_stream_87 : decode cX5_stream 87 = .ok (.bipush (-9), 2) := by decide +kernel
theorem dX5_stream_89 : decode cX5_stream 89 = .ok (.if_icmp .ne 15, 3) := by decide +kernel
theorem dX5_stream_92 : decode cX5_stream 92 = .ok (.aload_n 0, 1) := by decide +kernel
theorem dX5_stream_93 : decode cX5_stream 93 = .ok (.getfield 29, 3) := by decide +kernel
theorem dX5_stream_96 : decode cX5_stream 96 = .ok (.getfield 122, 3) := by decide +kernel
theorem dX5_stream_99 : decode cX5_stream 99 = .ok (.iload_n 1, 1) := by decide +kernel
theorem dX5_stream_100 : decode cX5_stream 100 = .ok (.iaload, 1) := by decide +kernel
theorem dX5_stream_101 : decode cX5_stream 101 = .ok (.goto 5, 3) := by decide +kernel
theorem dX5_stream_104 : decode cX5_stream 104 = .ok (.bipush (-9), 2) := by decide +kernel
theorem dX5_stream_106 : decode cX5_stream 106 = .ok (.ireturn, 1) := by decide +kernel
theorem dX5_stream_107 : decode cX5_stream 107 = .ok (.aload_n 0, 1) := by decide +kernel
theorem dX5_stream_108 : decode cX5_stream 108 = .ok (.getfield 29, 3) := by decide +kernel
theorem dX5_stream_111 : decode cX5_stream 111 = .ok (.getfield 95, 3) := by decide +kernel
theorem dX5_stream_114 : decode cX5_stream 114 = .ok (.bipush (-9), 2) := by decide +kernel
theorem dX5_stream_116 : decode cX5_stream 116 = .ok (.if_icmp .ne 15, 3) := by decide +kernel
theorem dX5_stream_119 : decode cX5_stream 119 = .ok (.aload_n 0, 1) := by decide +kernel
theorem dX5_stream_120 : decode cX5_stream 120 = .ok (.getfield 29, 3) := by decide +kernel
theorem dX5_stream_123 : decode cX5_stream 123 = .ok (.getfield 125, 3) := by decide +kernel
theorem dX5_stream_126 : decode cX5_stream 126 = .ok (.iload_n 1, 1) := by decide +kernel
theorem dX5_stream_127 : decode cX5_stream 127 = .ok (.iaload, 1) := by decide +kernel
theorem dX5_stream_128 : decode cX5_stream 128 = .ok (.goto 5, 3) := by decide +kernel
theorem dX5_stream_131 : decode cX5_stream 131 = .ok (.bipush (-9), 2) := by decide +kernel
theorem dX5_stream_133 : decode cX5_stream 133 = .ok (.ireturn, 1) := by decide +kernel
theorem dX5_stream_134 : decode cX5_stream 134 = .ok (.aload_n 0, 1) := by decide +kernel
theorem dX5_stream_135 : decode cX5_stream 135 = .ok (.getfield 19, 3) := by decide +kernel
theorem dX5_stream_138 : decode cX5_stream 138 = .ok (.iload_n 1, 1) := by decide +kernel
theorem dX5_stream_139 : decode cX5_stream 139 = .ok (.invokevirtual 128, 3) := by decide +kernel
theorem dX5_stream_142 : decode cX5_stream 142 = .ok (.ireturn, 1) := by decide +kernel
theorem dX5_stream_143 : decode cX5_stream 143 = .ok (.bipush (-2), 2) := by decide +kernel
theorem dX5_stream_145 : decode cX5_stream 145 = .ok (.ireturn, 1) := by decide +kernel
theorem dX5_figure_0 : decode cX5_figure 0 = .ok (.aload_n 0, 1) := by decide +kernel
theorem dX5_figure_1 : decode cX5_figure 1 = .ok (.iload_n 1, 1) := by decide +kernel
theorem dX5_figure_2 : decode cX5_figure 2 = .ok (.invokevirtual 112, 3) := by decide +kernel
theorem dX5_figure_5 : decode cX5_figure 5 = .ok (.ifCond .eq 22, 3) := by decide +kernel
theorem dX5_figure_8 : decode cX5_figure 8 = .ok (.iload_n 2, 1) := by decide +kernel
theorem dX5_figure_9 : decode cX5_figure 9 = .ok (.ifCond .lt 18, 3) := by decide +kernel
theorem dX5_figure_12 : decode cX5_figure 12 = .ok (.iload_n 2, 1) := by decide +kernel
theorem dX5_figure_13 : decode cX5_figure 13 = .ok (.aload_n 0, 1) := by decide +kernel
theorem dX5_figure_14 : decode cX5_figure 14 = .ok (.getfield 19, 3) := by decide +kernel
theorem dX5_figure_17 : decode cX5_figure 17 = .ok (.iload_n 1, 1) := by decide +kernel
theorem dX5_figure_18 : decode cX5_figure 18 = .ok (.invokevirtual 115, 3) := by decide +kernel
theorem dX5_figure_21 : decode cX5_figure 21 = .ok (.invokestatic 131, 3) := by decide +kernel
theorem dX5_figure_24 : decode cX5_figure 24 = .ok (.if_icmp .lt 5, 3) := by decide +kernel
theorem dX5_figure_27 : decode cX5_figure 27 = .ok (.iconst (-1), 1) := by decide +kernel
theorem dX5_figure_28 : decode cX5_figure 28 = .ok (.ireturn, 1) := by decide +kernel
theorem dX5_figure_29 : decode cX5_figure 29 = .ok (.aload_n 0, 1) := by decide +kernel
theorem dX5_figure_30 : decode cX5_figure 30 = .ok (.getfield 19, 3) := by decide +kernel
theorem dX5_figure_33 : decode cX5_figure 33 = .ok (.iload_n 1, 1) := by decide +kernel
theorem dX5_figure_34 : decode cX5_figure 34 = .ok (.iload_n 2, 1) := by decide +kernel
theorem dX5_figure_35 : decode cX5_figure 35 = .ok (.invokevirtual 134, 3) := by decide +kernel
theorem dX5_figure_38 : decode cX5_figure 38 = .ok (.ireturn, 1) := by decide +kernel
theorem dX5_clock_0 : decode cX5_clock 0 = .ok (.aload_n 0, 1) := by decide +kernel
theorem dX5_clock_1 : decode cX5_clock 1 = .ok (.iload_n 1, 1) := by decide +kernel
theorem dX5_clock_2 : decode cX5_clock 2 = .ok (.invokevirtual 112, 3) := by decide +kernel
theorem dX5_clock_5 : decode cX5_clock 5 = .ok (.ifCond .eq 32, 3) := by decide +kernel
theorem dX5_clock_8 : decode cX5_clock 8 = .ok (.aload_n 0, 1) := by decide +kernel
theorem dX5_clock_9 : decode cX5_clock 9 = .ok (.getfield 29, 3) := by decide +kernel
theorem dX5_clock_12 : decode cX5_clock 12 = .ok (.getfield 95, 3) := by decide +kernel
theorem dX5_clock_15 : decode cX5_clock 15 = .ok (.bipush (-9), 2) := by decide +kernel
theorem dX5_clock_17 : decode cX5_clock 17 = .ok (.if_icmp .ne 20, 3) := by decide +kernel
theorem dX5_clock_20 : decode cX5_clock 20 = .ok (.iload_n 2, 1) := by decide +kernel
theorem dX5_clock_21 : decode cX5_clock 21 = .ok (.ifCond .lt 16, 3) := by decide +kernel
theorem dX5_clock_24 : decode cX5_clock 24 = .ok (.iload_n 2, 1) := by decide +kernel
theorem dX5_clock_25 : decode cX5_clock 25 = .ok (.aload_n 0, 1) := by decide +kernel
theorem dX5_clock_26 : decode cX5_clock 26 = .ok (.getfield 29, 3) := by decide +kernel
theorem dX5_clock_29 : decode cX5_clock 29 = .ok (.getfield 119, 3) := by decide +kernel
theorem dX5_clock_32 : decode cX5_clock 32 = .ok (.iload_n 1, 1) := by decide +kernel
theorem dX5_clock_33 : decode cX5_clock 33 = .ok (.iaload, 1) := by decide +kernel
theorem dX5_clock_34 : decode cX5_clock 34 = .ok (.if_icmp .lt 5, 3) := by decide +kernel
theorem dX5_clock_37 : decode cX5_clock 37 = .ok (.iconst (-1), 1) := by decide +kernel
theorem dX5_clock_38 : decode cX5_clock 38 = .ok (.ireturn, 1) := by decide +kernel
theorem dX5_clock_39 : decode cX5_clock 39 = .ok (.aload_n 0, 1) := by decide +kernel
theorem dX5_clock_40 : decode cX5_clock 40 = .ok (.getfield 29, 3) := by decide +kernel
theorem dX5_clock_43 : decode cX5_clock 43 = .ok (.iload_n 1, 1) := by decide +kernel
theorem dX5_clock_44 : decode cX5_clock 44 = .ok (.iload_n 2, 1) := by decide +kernel
theorem dX5_clock_45 : decode cX5_clock 45 = .ok (.invokevirtual 138, 3) := by decide +kernel
theorem dX5_clock_48 : decode cX5_clock 48 = .ok (.ireturn, 1) := by decide +kernel
theorem dX5_tick_0 : decode cX5_tick 0 = .ok (.iload_n 1, 1) := by decide +kernel
theorem dX5_tick_1 : decode cX5_tick 1 = .ok (.invokestatic 141, 3) := by decide +kernel
theorem dX5_tick_4 : decode cX5_tick 4 = .ok (.ifCond .eq 10, 3) := by decide +kernel
theorem dX5_tick_7 : decode cX5_tick 7 = .ok (.iload_n 2, 1) := by decide +kernel
theorem dX5_tick_8 : decode cX5_tick 8 = .ok (.invokestatic 141, 3) := by decide +kernel
theorem dX5_tick_11 : decode cX5_tick 11 = .ok (.ifCond .ne 6, 3) := by decide +kernel
theorem dX5_tick_14 : decode cX5_tick 14 = .ok (.bipush (-2), 2) := by decide +kernel
theorem dX5_tick_16 : decode cX5_tick 16 = .ok (.ireturn, 1) := by decide +kernel
theorem dX5_tick_17 : decode cX5_tick 17 = .ok (.aload_n 0, 1) := by decide +kernel
theorem dX5_tick_18 : decode cX5_tick 18 = .ok (.getfield 29, 3) := by decide +kernel
theorem dX5_tick_21 : decode cX5_tick 21 = .ok (.invokevirtual 144, 3) := by decide +kernel
theorem dX5_tick_24 : decode cX5_tick 24 = .ok (.ifCond .ne 6, 3) := by decide +kernel
theorem dX5_tick_27 : decode cX5_tick 27 = .ok (.bipush (-3), 2) := by decide +kernel
theorem dX5_tick_29 : decode cX5_tick 29 = .ok (.ireturn, 1) := by decide +kernel
theorem dX5_tick_30 : decode cX5_tick 30 = .ok (.aload_n 0, 1) := by decide +kernel
theorem dX5_tick_31 : decode cX5_tick 31 = .ok (.getfield 36, 3) := by decide +kernel
theorem dX5_tick_34 : decode cX5_tick 34 = .ok (.aload_n 0, 1) := by decide +kernel
theorem dX5_tick_35 : decode cX5_tick 35 = .ok (.getfield 19, 3) := by decide +kernel
theorem dX5_tick_38 : decode cX5_tick 38 = .ok (.invokevirtual 148, 3) := by decide +kernel
theorem dX5_tick_41 : decode cX5_tick 41 = .ok (.aload_n 0, 1) := by decide +kernel
theorem dX5_tick_42 : decode cX5_tick 42 = .ok (.getfield 19, 3) := by decide +kernel
theorem dX5_tick_45 : decode cX5_tick 45 = .ok (.aload_n 0, 1) := by decide +kernel
theorem dX5_tick_46 : decode cX5_tick 46 = .ok (.getfield 29, 3) := by decide +kernel
theorem dX5_tick_49 : decode cX5_tick 49 = .ok (.iload_n 1, 1) := by decide +kernel
theorem dX5_tick_50 : decode cX5_tick 50 = .ok (.iload_n 2, 1) := by decide +kernel
theorem dX5_tick_51 : decode cX5_tick 51 = .ok (.invokevirtual 151, 3) := by decide +kernel
theorem dX5_tick_54 : decode cX5_tick 54 = .ok (.aload_n 0, 1) := by decide +kernel
theorem dX5_tick_55 : decode cX5_tick 55 = .ok (.getfield 19, 3) := by decide +kernel
theorem dX5_tick_58 : decode cX5_tick 58 = .ok (.invokevirtual 107, 3) := by decide +kernel
theorem dX5_tick_61 : decode cX5_tick 61 = .ok (.invokestatic 155, 3) := by decide +kernel
theorem dX5_tick_64 : decode cX5_tick 64 = .ok (.ireturn, 1) := by decide +kernel
theorem dX5_afresh_0 : decode cX5_afresh 0 = .ok (.aload_n 0, 1) := by decide +kernel
theorem dX5_afresh_1 : decode cX5_afresh 1 = .ok (.getfield 19, 3) := by decide +kernel
theorem dX5_afresh_4 : decode cX5_afresh 4 = .ok (.getfield 104, 3) := by decide +kernel
theorem dX5_afresh_7 : decode cX5_afresh 7 = .ok (.istore_n 1, 1) := by decide +kernel
theorem dX5_afresh_8 : decode cX5_afresh 8 = .ok (.aload_n 0, 1) := by decide +kernel
theorem dX5_afresh_9 : decode cX5_afresh 9 = .ok (.getfield 36, 3) := by decide +kernel
theorem dX5_afresh_12 : decode cX5_afresh 12 = .ok (.aload_n 0, 1) := by decide +kernel
theorem dX5_afresh_13 : decode cX5_afresh 13 = .ok (.getfield 19, 3) := by decide +kernel
theorem dX5_afresh_16 : decode cX5_afresh 16 = .ok (.invokevirtual 148, 3) := by decide +kernel
theorem dX5_afresh_19 : decode cX5_afresh 19 = .ok (.aload_n 0, 1) := by decide +kernel
theorem dX5_afresh_20 : decode cX5_afresh 20 = .ok (.getfield 19, 3) := by decide +kernel
theorem dX5_afresh_23 : decode cX5_afresh 23 = .ok (.invokevirtual 79, 3) := by decide +kernel
theorem dX5_afresh_26 : decode cX5_afresh 26 = .ok (.iload_n 1, 1) := by decide +kernel
theorem dX5_afresh_27 : decode cX5_afresh 27 = .ok (.ireturn, 1) := by decide +kernel
theorem dX5_tell_0 : decode cX5_tell 0 = .ok (.aload_n 0, 1) := by decide +kernel
theorem dX5_tell_1 : decode cX5_tell 1 = .ok (.iload_n 1, 1) := by decide +kernel
theorem dX5_tell_2 : decode cX5_tell 2 = .ok (.invokevirtual 112, 3) := by decide +kernel
theorem dX5_tell_5 : decode cX5_tell 5 = .ok (.ifCond .ne 5, 3) := by decide +kernel
theorem dX5_tell_8 : decode cX5_tell 8 = .ok (.iconst (-1), 1) := by decide +kernel
theorem dX5_tell_9 : decode cX5_tell 9 = .ok (.ireturn, 1) := by decide +kernel
theorem dX5_tell_10 : decode cX5_tell 10 = .ok (.aload_n 0, 1) := by decide +kernel
theorem dX5_tell_11 : decode cX5_tell 11 = .ok (.iload_n 2, 1) := by decide +kernel
theorem dX5_tell_12 : decode cX5_tell 12 = .ok (.iload_n 3, 1) := by decide +kernel
theorem dX5_tell_13 : decode cX5_tell 13 = .ok (.iload 4, 2) := by decide +kernel
theorem dX5_tell_15 : decode cX5_tell 15 = .ok (.iload 5, 2) := by decide +kernel
theorem dX5_tell_17 : decode cX5_tell 17 = .ok (.invokevirtual 160, 3) := by decide +kernel
theorem dX5_tell_20 : decode cX5_tell 20 = .ok (.ifCond .ne 6, 3) := by decide +kernel
theorem dX5_tell_23 : decode cX5_tell 23 = .ok (.bipush (-2), 2) := by decide +kernel
theorem dX5_tell_25 : decode cX5_tell 25 = .ok (.ireturn, 1) := by decide +kernel
theorem dX5_tell_26 : decode cX5_tell 26 = .ok (.aload_n 0, 1) := by decide +kernel
theorem dX5_tell_27 : decode cX5_tell 27 = .ok (.getfield 36, 3) := by decide +kernel
theorem dX5_tell_30 : decode cX5_tell 30 = .ok (.aload_n 0, 1) := by decide +kernel
theorem dX5_tell_31 : decode cX5_tell 31 = .ok (.getfield 19, 3) := by decide +kernel
theorem dX5_tell_34 : decode cX5_tell 34 = .ok (.invokevirtual 148, 3) := by decide +kernel
theorem dX5_tell_37 : decode cX5_tell 37 = .ok (.aload_n 0, 1) := by decide +kernel
theorem dX5_tell_38 : decode cX5_tell 38 = .ok (.getfield 19, 3) := by decide +kernel
theorem dX5_tell_41 : decode cX5_tell 41 = .ok (.iload_n 1, 1) := by decide +kernel
theorem dX5_tell_42 : decode cX5_tell 42 = .ok (.iload_n 2, 1) := by decide +kernel
theorem dX5_tell_43 : decode cX5_tell 43 = .ok (.iload_n 3, 1) := by decide +kernel
theorem dX5_tell_44 : decode cX5_tell 44 = .ok (.iload 4, 2) := by decide +kernel
theorem dX5_tell_46 : decode cX5_tell 46 = .ok (.iload 5, 2) := by decide +kernel
theorem dX5_tell_48 : decode cX5_tell 48 = .ok (.invokevirtual 164, 3) := by decide +kernel
theorem dX5_tell_51 : decode cX5_tell 51 = .ok (.aload_n 0, 1) := by decide +kernel
theorem dX5_tell_52 : decode cX5_tell 52 = .ok (.getfield 19, 3) := by decide +kernel
theorem dX5_tell_55 : decode cX5_tell 55 = .ok (.invokevirtual 79, 3) := by decide +kernel
theorem dX5_tell_58 : decode cX5_tell 58 = .ok (.aload_n 0, 1) := by decide +kernel
theorem dX5_tell_59 : decode cX5_tell 59 = .ok (.getfield 29, 3) := by decide +kernel
theorem dX5_tell_62 : decode cX5_tell 62 = .ok (.aload_n 0, 1) := by decide +kernel
theorem dX5_tell_63 : decode cX5_tell 63 = .ok (.getfield 19, 3) := by decide +kernel
theorem dX5_tell_66 : decode cX5_tell 66 = .ok (.invokevirtual 85, 3) := by decide +kernel
theorem dX5_tell_69 : decode cX5_tell 69 = .ok (.aload_n 0, 1) := by decide +kernel
theorem dX5_tell_70 : decode cX5_tell 70 = .ok (.invokevirtual 88, 3) := by decide +kernel
theorem dX5_tell_73 : decode cX5_tell 73 = .ok (.ireturn, 1) := by decide +kernel
theorem dX5_undo_0 : decode cX5_undo 0 = .ok (.aload_n 0, 1) := by decide +kernel
theorem dX5_undo_1 : decode cX5_undo 1 = .ok (.getfield 36, 3) := by decide +kernel
theorem dX5_undo_4 : decode cX5_undo 4 = .ok (.getfield 110, 3) := by decide +kernel
theorem dX5_undo_7 : decode cX5_undo 7 = .ok (.ifCond .ne 6, 3) := by decide +kernel
theorem dX5_undo_10 : decode cX5_undo 10 = .ok (.bipush (-3), 2) := by decide +kernel
theorem dX5_undo_12 : decode cX5_undo 12 = .ok (.ireturn, 1) := by decide +kernel
theorem dX5_undo_13 : decode cX5_undo 13 = .ok (.aload_n 0, 1) := by decide +kernel
theorem dX5_undo_14 : decode cX5_undo 14 = .ok (.getfield 36, 3) := by decide +kernel
theorem dX5_undo_17 : decode cX5_undo 17 = .ok (.aload_n 0, 1) := by decide +kernel
theorem dX5_undo_18 : decode cX5_undo 18 = .ok (.getfield 19, 3) := by decide +kernel
theorem dX5_undo_21 : decode cX5_undo 21 = .ok (.invokevirtual 168, 3) := by decide +kernel
theorem dX5_undo_24 : decode cX5_undo 24 = .ok (.aload_n 0, 1) := by decide +kernel
theorem dX5_undo_25 : decode cX5_undo 25 = .ok (.getfield 29, 3) := by decide +kernel
theorem dX5_undo_28 : decode cX5_undo 28 = .ok (.aload_n 0, 1) := by decide +kernel
theorem dX5_undo_29 : decode cX5_undo 29 = .ok (.getfield 19, 3) := by decide +kernel
theorem dX5_undo_32 : decode cX5_undo 32 = .ok (.invokevirtual 85, 3) := by decide +kernel
theorem dX5_undo_35 : decode cX5_undo 35 = .ok (.aload_n 0, 1) := by decide +kernel
theorem dX5_undo_36 : decode cX5_undo 36 = .ok (.getfield 36, 3) := by decide +kernel
theorem dX5_undo_39 : decode cX5_undo 39 = .ok (.getfield 110, 3) := by decide +kernel
theorem dX5_undo_42 : decode cX5_undo 42 = .ok (.ireturn, 1) := by decide +kernel
theorem dX5_later_0 : decode cX5_later 0 = .ok (.aload_n 0, 1) := by decide +kernel
theorem dX5_later_1 : decode cX5_later 1 = .ok (.iload_n 1, 1) := by decide +kernel
theorem dX5_later_2 : decode cX5_later 2 = .ok (.invokevirtual 112, 3) := by decide +kernel
theorem dX5_later_5 : decode cX5_later 5 = .ok (.ifCond .ne 5, 3) := by decide +kernel
theorem dX5_later_8 : decode cX5_later 8 = .ok (.iconst (-1), 1) := by decide +kernel
theorem dX5_later_9 : decode cX5_later 9 = .ok (.ireturn, 1) := by decide +kernel
theorem dX5_later_10 : decode cX5_later 10 = .ok (.iload_n 2, 1) := by decide +kernel
theorem dX5_later_11 : decode cX5_later 11 = .ok (.iconst 1, 1) := by decide +kernel
theorem dX5_later_12 : decode cX5_later 12 = .ok (.if_icmp .lt 24, 3) := by decide +kernel
theorem dX5_later_15 : decode cX5_later 15 = .ok (.iload_n 2, 1) := by decide +kernel
theorem dX5_later_16 : decode cX5_later 16 = .ok (.bipush 40, 2) := by decide +kernel
theorem dX5_later_18 : decode cX5_later 18 = .ok (.if_icmp .gt 18, 3) := by decide +kernel
theorem dX5_later_21 : decode cX5_later 21 = .ok (.iload_n 3, 1) := by decide +kernel
theorem dX5_later_22 : decode cX5_later 22 = .ok (.invokestatic 141, 3) := by decide +kernel
theorem dX5_later_25 : decode cX5_later 25 = .ok (.ifCond .eq 11, 3) := by decide +kernel
theorem dX5_later_28 : decode cX5_later 28 = .ok (.iload 4, 2) := by decide +kernel
theorem dX5_later_30 : decode cX5_later 30 = .ok (.invokestatic 141, 3) := by decide +kernel
theorem dX5_later_33 : decode cX5_later 33 = .ok (.ifCond .ne 6, 3) := by decide +kernel
theorem dX5_later_36 : decode cX5_later 36 = .ok (.bipush (-2), 2) := by decide +kernel
theorem dX5_later_38 : decode cX5_later 38 = .ok (.ireturn, 1) := by decide +kernel
theorem dX5_later_39 : decode cX5_later 39 = .ok (.aload_n 0, 1) := by decide +kernel
theorem dX5_later_40 : decode cX5_later 40 = .ok (.getfield 29, 3) := by decide +kernel
theorem dX5_later_43 : decode cX5_later 43 = .ok (.invokevirtual 144, 3) := by decide +kernel
theorem dX5_later_46 : decode cX5_later 46 = .ok (.ifCond .ne 6, 3) := by decide +kernel
theorem dX5_later_49 : decode cX5_later 49 = .ok (.bipush (-3), 2) := by decide +kernel
theorem dX5_later_51 : decode cX5_later 51 = .ok (.ireturn, 1) := by decide +kernel
theorem dX5_later_52 : decode cX5_later 52 = .ok (.aload_n 0, 1) := by decide +kernel
theorem dX5_later_53 : decode cX5_later 53 = .ok (.getfield 23, 3) := by decide +kernel
theorem dX5_later_56 : decode cX5_later 56 = .ok (.aload_n 0, 1) := by decide +kernel
theorem dX5_later_57 : decode cX5_later 57 = .ok (.getfield 19, 3) := by decide +kernel
theorem dX5_later_60 : decode cX5_later 60 = .ok (.invokevirtual 75, 3) := by decide +kernel
theorem dX5_later_63 : decode cX5_later 63 = .ok (.iconst 0, 1) := by decide +kernel
theorem dX5_later_64 : decode cX5_later 64 = .ok (.istore 5, 2) := by decide +kernel
theorem dX5_later_66 : decode cX5_later 66 = .ok (.iload 5, 2) := by decide +kernel
theorem dX5_later_68 : decode cX5_later 68 = .ok (.iload_n 2, 1) := by decide +kernel
theorem dX5_later_69 : decode cX5_later 69 = .ok (.if_icmp .ge 23, 3) := by decide +kernel
theorem dX5_later_72 : decode cX5_later 72 = .ok (.aload_n 0, 1) := by decide +kernel
theorem dX5_later_73 : decode cX5_later 73 = .ok (.getfield 23, 3) := by decide +kernel
theorem dX5_later_76 : decode cX5_later 76 = .ok (.aload_n 0, 1) := by decide +kernel
theorem dX5_later_77 : decode cX5_later 77 = .ok (.getfield 29, 3) := by decide +kernel
theorem dX5_later_80 : decode cX5_later 80 = .ok (.iload_n 3, 1) := by decide +kernel
theorem dX5_later_81 : decode cX5_later 81 = .ok (.iload 4, 2) := by decide +kernel
theorem dX5_later_83 : decode cX5_later 83 = .ok (.invokevirtual 151, 3) := by decide +kernel
theorem dX5_later_86 : decode cX5_later 86 = .ok (.iinc 5 1, 3) := by decide +kernel
theorem dX5_later_89 : decode cX5_later 89 = .ok (.goto (-23), 3) := by decide +kernel
theorem dX5_later_92 : decode cX5_later 92 = .ok (.aload_n 0, 1) := by decide +kernel
theorem dX5_later_93 : decode cX5_later 93 = .ok (.getfield 23, 3) := by decide +kernel
theorem dX5_later_96 : decode cX5_later 96 = .ok (.iload_n 1, 1) := by decide +kernel
theorem dX5_later_97 : decode cX5_later 97 = .ok (.invokevirtual 128, 3) := by decide +kernel
theorem dX5_later_100 : decode cX5_later 100 = .ok (.ireturn, 1) := by decide +kernel
theorem dX5_first_0 : decode cX5_first 0 = .ok (.aload_n 0, 1) := by decide +kernel
theorem dX5_first_1 : decode cX5_first 1 = .ok (.iload_n 1, 1) := by decide +kernel
theorem dX5_first_2 : decode cX5_first 2 = .ok (.invokevirtual 112, 3) := by decide +kernel
theorem dX5_first_5 : decode cX5_first 5 = .ok (.ifCond .ne 5, 3) := by decide +kernel
theorem dX5_first_8 : decode cX5_first 8 = .ok (.iconst (-1), 1) := by decide +kernel
theorem dX5_first_9 : decode cX5_first 9 = .ok (.ireturn, 1) := by decide +kernel
theorem dX5_first_10 : decode cX5_first 10 = .ok (.iload_n 2, 1) := by decide +kernel
theorem dX5_first_11 : decode cX5_first 11 = .ok (.invokestatic 141, 3) := by decide +kernel
theorem dX5_first_14 : decode cX5_first 14 = .ok (.ifCond .eq 18, 3) := by decide +kernel
theorem dX5_first_17 : decode cX5_first 17 = .ok (.iload_n 3, 1) := by decide +kernel
theorem dX5_first_18 : decode cX5_first 18 = .ok (.invokestatic 141, 3) := by decide +kernel
theorem dX5_first_21 : decode cX5_first 21 = .ok (.ifCond .eq 11, 3) := by decide +kernel
theorem dX5_first_24 : decode cX5_first 24 = .ok (.iload 4, 2) := by decide +kernel
theorem dX5_first_26 : decode cX5_first 26 = .ok (.invokestatic 141, 3) := by decide +kernel
theorem dX5_first_29 : decode cX5_first 29 = .ok (.ifCond .ne 6, 3) := by decide +kernel
theorem dX5_first_32 : decode cX5_first 32 = .ok (.bipush (-2), 2) := by decide +kernel
theorem dX5_first_34 : decode cX5_first 34 = .ok (.ireturn, 1) := by decide +kernel
theorem dX5_first_35 : decode cX5_first 35 = .ok (.aload_n 0, 1) := by decide +kernel
theorem dX5_first_36 : decode cX5_first 36 = .ok (.getfield 29, 3) := by decide +kernel
theorem dX5_first_39 : decode cX5_first 39 = .ok (.invokevirtual 144, 3) := by decide +kernel
theorem dX5_first_42 : decode cX5_first 42 = .ok (.ifCond .ne 6, 3) := by decide +kernel
theorem dX5_first_45 : decode cX5_first 45 = .ok (.bipush (-3), 2) := by decide +kernel
theorem dX5_first_47 : decode cX5_first 47 = .ok (.ireturn, 1) := by decide +kernel
theorem dX5_first_48 : decode cX5_first 48 = .ok (.aload_n 0, 1) := by decide +kernel
theorem dX5_first_49 : decode cX5_first 49 = .ok (.getfield 23, 3) := by decide +kernel
theorem dX5_first_52 : decode cX5_first 52 = .ok (.aload_n 0, 1) := by decide +kernel
theorem dX5_first_53 : decode cX5_first 53 = .ok (.getfield 19, 3) := by decide +kernel
theorem dX5_first_56 : decode cX5_first 56 = .ok (.invokevirtual 75, 3) := by decide +kernel
theorem dX5_first_59 : decode cX5_first 59 = .ok (.iconst 1, 1) := by decide +kernel
theorem dX5_first_60 : decode cX5_first 60 = .ok (.istore 5, 2) := by decide +kernel
theorem dX5_first_62 : decode cX5_first 62 = .ok (.iload 5, 2) := by decide +kernel
theorem dX5_first_64 : decode cX5_first 64 = .ok (.bipush 40, 2) := by decide +kernel
theorem dX5_first_66 : decode cX5_first 66 = .ok (.if_icmp .gt 38, 3) := by decide +kernel
theorem dX5_first_69 : decode cX5_first 69 = .ok (.aload_n 0, 1) := by decide +kernel
theorem dX5_first_70 : decode cX5_first 70 = .ok (.getfield 23, 3) := by decide +kernel
theorem dX5_first_73 : decode cX5_first 73 = .ok (.aload_n 0, 1) := by decide +kernel
theorem dX5_first_74 : decode cX5_first 74 = .ok (.getfield 29, 3) := by decide +kernel
theorem dX5_first_77 : decode cX5_first 77 = .ok (.iload_n 3, 1) := by decide +kernel
theorem dX5_first_78 : decode cX5_first 78 = .ok (.iload 4, 2) := by decide +kernel
theorem dX5_first_80 : decode cX5_first 80 = .ok (.invokevirtual 151, 3) := by decide +kernel
theorem dX5_first_83 : decode cX5_first 83 = .ok (.aload_n 0, 1) := by decide +kernel
theorem dX5_first_84 : decode cX5_first 84 = .ok (.getfield 23, 3) := by decide +kernel
theorem dX5_first_87 : decode cX5_first 87 = .ok (.iload_n 1, 1) := by decide +kernel
theorem dX5_first_88 : decode cX5_first 88 = .ok (.invokevirtual 128, 3) := by decide +kernel
theorem dX5_first_91 : decode cX5_first 91 = .ok (.iload_n 2, 1) := by decide +kernel
theorem dX5_first_92 : decode cX5_first 92 = .ok (.if_icmp .ne 6, 3) := by decide +kernel
theorem dX5_first_95 : decode cX5_first 95 = .ok (.iload 5, 2) := by decide +kernel
theorem dX5_first_97 : decode cX5_first 97 = .ok (.ireturn, 1) := by decide +kernel
theorem dX5_first_98 : decode cX5_first 98 = .ok (.iinc 5 1, 3) := by decide +kernel
theorem dX5_first_101 : decode cX5_first 101 = .ok (.goto (-39), 3) := by decide +kernel
theorem dX5_first_104 : decode cX5_first 104 = .ok (.bipush (-9), 2) := by decide +kernel
theorem dX5_first_106 : decode cX5_first 106 = .ok (.ireturn, 1) := by decide +kernel
theorem dX5_round_0 : decode cX5_round 0 = .ok (.iload_n 1, 1) := by decide +kernel
theorem dX5_round_1 : decode cX5_round 1 = .ok (.invokestatic 141, 3) := by decide +kernel
theorem dX5_round_4 : decode cX5_round 4 = .ok (.ifCond .eq 19, 3) := by decide +kernel
theorem dX5_round_7 : decode cX5_round 7 = .ok (.iload_n 2, 1) := by decide +kernel
theorem dX5_round_8 : decode cX5_round 8 = .ok (.invokestatic 141, 3) := by decide +kernel
theorem dX5_round_11 : decode cX5_round 11 = .ok (.ifCond .eq 12, 3) := by decide +kernel
theorem dX5_round_14 : decode cX5_round 14 = .ok (.iload_n 3, 1) := by decide +kernel
theorem dX5_round_15 : decode cX5_round 15 = .ok (.ifCond .lt 8, 3) := by decide +kernel
theorem dX5_round_18 : decode cX5_round 18 = .ok (.iload_n 3, 1) := by decide +kernel
theorem dX5_round_19 : decode cX5_round 19 = .ok (.iconst 1, 1) := by decide +kernel
theorem dX5_round_20 : decode cX5_round 20 = .ok (.if_icmp .le 6, 3) := by decide +kernel
theorem dX5_round_23 : decode cX5_round 23 = .ok (.bipush (-2), 2) := by decide +kernel
theorem dX5_round_25 : decode cX5_round 25 = .ok (.ireturn, 1) := by decide +kernel
theorem dX5_round_26 : decode cX5_round 26 = .ok (.aload_n 0, 1) := by decide +kernel
theorem dX5_round_27 : decode cX5_round 27 = .ok (.getfield 29, 3) := by decide +kernel
theorem dX5_round_30 : decode cX5_round 30 = .ok (.invokevirtual 144, 3) := by decide +kernel
theorem dX5_round_33 : decode cX5_round 33 = .ok (.ifCond .ne 6, 3) := by decide +kernel
theorem dX5_round_36 : decode cX5_round 36 = .ok (.bipush (-3), 2) := by decide +kernel
theorem dX5_round_38 : decode cX5_round 38 = .ok (.ireturn, 1) := by decide +kernel
theorem dX5_round_39 : decode cX5_round 39 = .ok (.aload_n 0, 1) := by decide +kernel
theorem dX5_round_40 : decode cX5_round 40 = .ok (.iload_n 1, 1) := by decide +kernel
theorem dX5_round_41 : decode cX5_round 41 = .ok (.iload_n 2, 1) := by decide +kernel
theorem dX5_round_42 : decode cX5_round 42 = .ok (.invokevirtual 171, 3) := by decide +kernel
theorem dX5_round_45 : decode cX5_round 45 = .ok (.iconst 1, 1) := by decide +kernel
theorem dX5_round_46 : decode cX5_round 46 = .ok (.istore 4, 2) := by decide +kernel
theorem dX5_round_48 : decode cX5_round 48 = .ok (.iload 4, 2) := by decide +kernel
theorem dX5_round_50 : decode cX5_round 50 = .ok (.bipush 40, 2) := by decide +kernel
theorem dX5_round_52 : decode cX5_round 52 = .ok (.if_icmp .gt 54, 3) := by decide +kernel
theorem dX5_round_55 : decode cX5_round 55 = .ok (.iconst 0, 1) := by decide +kernel
theorem dX5_round_56 : decode cX5_round 56 = .ok (.istore 5, 2) := by decide +kernel
theorem dX5_round_58 : decode cX5_round 58 = .ok (.iload 5, 2) := by decide +kernel
theorem dX5_round_60 : decode cX5_round 60 = .ok (.iload 4, 2) := by decide +kernel
theorem dX5_round_62 : decode cX5_round 62 = .ok (.iadd, 1) := by decide +kernel
theorem dX5_round_63 : decode cX5_round 63 = .ok (.bipush 40, 2) := by decide +kernel
theorem dX5_round_65 : decode cX5_round 65 = .ok (.if_icmp .gt 35, 3) := by decide +kernel
theorem dX5_round_68 : decode cX5_round 68 = .ok (.aload_n 0, 1) := by decide +kernel
theorem dX5_round_69 : decode cX5_round 69 = .ok (.iload 5, 2) := by decide +kernel
theorem dX5_round_71 : decode cX5_round 71 = .ok (.iload 5, 2) := by decide +kernel
theorem dX5_round_73 : decode cX5_round 73 = .ok (.iload 4, 2) := by decide +kernel
theorem dX5_round_75 : decode cX5_round 75 = .ok (.iadd, 1) := by decide +kernel
theorem dX5_round_76 : decode cX5_round 76 = .ok (.invokevirtual 175, 3) := by decide +kernel
theorem dX5_round_79 : decode cX5_round 79 = .ok (.ifCond .eq 15, 3) := by decide +kernel
theorem dX5_round_82 : decode cX5_round 82 = .ok (.iload_n 3, 1) := by decide +kernel
theorem dX5_round_83 : decode cX5_round 83 = .ok (.ifCond .ne 8, 3) := by decide +kernel
theorem dX5_round_86 : decode cX5_round 86 = .ok (.iload 4, 2) := by decide +kernel
theorem dX5_round_88 : decode cX5_round 88 = .ok (.goto 5, 3) := by decide +kernel
theorem dX5_round_91 : decode cX5_round 91 = .ok (.iload 5, 2) := by decide +kernel
theorem dX5_round_93 : decode cX5_round 93 = .ok (.ireturn, 1) := by decide +kernel
theorem dX5_round_94 : decode cX5_round 94 = .ok (.iinc 5 1, 3) := by decide +kernel
theorem dX5_round_97 : decode cX5_round 97 = .ok (.goto (-39), 3) := by decide +kernel
theorem dX5_round_100 : decode cX5_round 100 = .ok (.iinc 4 1, 3) := by decide +kernel
theorem dX5_round_103 : decode cX5_round 103 = .ok (.goto (-55), 3) := by decide +kernel
theorem dX5_round_106 : decode cX5_round 106 = .ok (.bipush (-9), 2) := by decide +kernel
theorem dX5_round_108 : decode cX5_round 108 = .ok (.ireturn, 1) := by decide +kernel
theorem dX5_judge_0 : decode cX5_judge 0 = .ok (.iload_n 1, 1) := by decide +kernel
theorem dX5_judge_1 : decode cX5_judge 1 = .ok (.iconst 1, 1) := by decide +kernel
theorem dX5_judge_2 : decode cX5_judge 2 = .ok (.if_icmp .lt 26, 3) := by decide +kernel
theorem dX5_judge_5 : decode cX5_judge 5 = .ok (.iload_n 1, 1) := by decide +kernel
theorem dX5_judge_6 : decode cX5_judge 6 = .ok (.iconst 3, 1) := by decide +kernel
theorem dX5_judge_7 : decode cX5_judge 7 = .ok (.if_icmp .gt 21, 3) := by decide +kernel
theorem dX5_judge_10 : decode cX5_judge 10 = .ok (.lload_n 2, 1) := by decide +kernel
theorem dX5_judge_11 : decode cX5_judge 11 = .ok (.lconst 0, 1) := by decide +kernel
theorem dX5_judge_12 : decode cX5_judge 12 = .ok (.lcmp, 1) := by decide +kernel
theorem dX5_judge_13 : decode cX5_judge 13 = .ok (.ifCond .lt 15, 3) := by decide +kernel
theorem dX5_judge_16 : decode cX5_judge 16 = .ok (.lload_n 2, 1) := by decide +kernel
theorem dX5_judge_17 : decode cX5_judge 17 = .ok (.ldc2_w 179, 3) := by decide +kernel
theorem dX5_judge_20 : decode cX5_judge 20 = .ok (.iload_n 1, 1) := by decide +kernel
theorem dX5_judge_21 : decode cX5_judge 21 = .ok (.invokestatic 181, 3) := by decide +kernel
theorem dX5_judge_24 : decode cX5_judge 24 = .ok (.lcmp, 1) := by decide +kernel
theorem dX5_judge_25 : decode cX5_judge 25 = .ok (.ifCond .lt 6, 3) := by decide +kernel
theorem dX5_judge_28 : decode cX5_judge 28 = .ok (.bipush (-2), 2) := by decide +kernel
theorem dX5_judge_30 : decode cX5_judge 30 = .ok (.ireturn, 1) := by decide +kernel
theorem dX5_judge_31 : decode cX5_judge 31 = .ok (.aload_n 0, 1) := by decide +kernel
theorem dX5_judge_32 : decode cX5_judge 32 = .ok (.getfield 29, 3) := by decide +kernel
theorem dX5_judge_35 : decode cX5_judge 35 = .ok (.invokevirtual 144, 3) := by decide +kernel
theorem dX5_judge_38 : decode cX5_judge 38 = .ok (.ifCond .ne 6, 3) := by decide +kernel
theorem dX5_judge_41 : decode cX5_judge 41 = .ok (.bipush (-3), 2) := by decide +kernel
theorem dX5_judge_43 : decode cX5_judge 43 = .ok (.ireturn, 1) := by decide +kernel
theorem dX5_judge_44 : decode cX5_judge 44 = .ok (.aload_n 0, 1) := by decide +kernel
theorem dX5_judge_45 : decode cX5_judge 45 = .ok (.getfield 23, 3) := by decide +kernel
theorem dX5_judge_48 : decode cX5_judge 48 = .ok (.aload_n 0, 1) := by decide +kernel
theorem dX5_judge_49 : decode cX5_judge 49 = .ok (.getfield 19, 3) := by decide +kernel
theorem dX5_judge_52 : decode cX5_judge 52 = .ok (.invokevirtual 75, 3) := by decide +kernel
theorem dX5_judge_55 : decode cX5_judge 55 = .ok (.iconst 0, 1) := by decide +kernel
theorem dX5_judge_56 : decode cX5_judge 56 = .ok (.istore 4, 2) := by decide +kernel
theorem dX5_judge_58 : decode cX5_judge 58 = .ok (.iload 4, 2) := by decide +kernel
theorem dX5_judge_60 : decode cX5_judge 60 = .ok (.iload_n 1, 1) := by decide +kernel
theorem dX5_judge_61 : decode cX5_judge 61 = .ok (.if_icmp .ge 55, 3) := by decide +kernel
theorem dX5_judge_64 : decode cX5_judge 64 = .ok (.lload_n 2, 1) := by decide +kernel
theorem dX5_judge_65 : decode cX5_judge 65 = .ok (.lstore 5, 2) := by decide +kernel
theorem dX5_judge_67 : decode cX5_judge 67 = .ok (.iload 4, 2) := by decide +kernel
theorem dX5_judge_69 : decode cX5_judge 69 = .ok (.iconst 1, 1) := by decide +kernel
theorem dX5_judge_70 : decode cX5_judge 70 = .ok (.iadd, 1) := by decide +kernel
theorem dX5_judge_71 : decode cX5_judge 71 = .ok (.istore 7, 2) := by decide +kernel
theorem dX5_judge_73 : decode cX5_judge 73 = .ok (.iload 7, 2) := by decide +kernel
theorem dX5_judge_75 : decode cX5_judge 75 = .ok (.iload_n 1, 1) := by decide +kernel
theorem dX5_judge_76 : decode cX5_judge 76 = .ok (.if_icmp .ge 17, 3) := by decide +kernel
theorem dX5_judge_79 : decode cX5_judge 79 = .ok (.lload 5, 2) := by decide +kernel
theorem dX5_judge_81 : decode cX5_judge 81 = .ok (.ldc2_w 179, 3) := by decide +kernel
theorem dX5_judge_84 : decode cX5_judge 84 = .ok (.ldiv, 1) := by decide +kernel
theorem dX5_judge_85 : decode cX5_judge 85 = .ok (.lstore 5, 2) := by decide +kernel
theorem dX5_judge_87 : decode cX5_judge 87 = .ok (.iinc 7 1, 3) := by decide +kernel
theorem dX5_judge_90 : decode cX5_judge 90 = .ok (.goto (-17), 3) := by decide +kernel
theorem dX5_judge_93 : decode cX5_judge 93 = .ok (.aload_n 0, 1) := by decide +kernel
theorem dX5_judge_94 : decode cX5_judge 94 = .ok (.lload 5, 2) := by decide +kernel
theorem dX5_judge_96 : decode cX5_judge 96 = .ok (.ldc2_w 179, 3) := by decide +kernel
theorem dX5_judge_99 : decode cX5_judge 99 = .ok (.lrem, 1) := by decide +kernel
theorem dX5_judge_100 : decode cX5_judge 100 = .ok (.l2i, 1) := by decide +kernel
theorem dX5_judge_101 : decode cX5_judge 101 = .ok (.invokevirtual 185, 3) := by decide +kernel
theorem dX5_judge_104 : decode cX5_judge 104 = .ok (.ifCond .ne 6, 3) := by decide +kernel
theorem dX5_judge_107 : decode cX5_judge 107 = .ok (.iload 4, 2) := by decide +kernel
theorem dX5_judge_109 : decode cX5_judge 109 = .ok (.ireturn, 1) := by decide +kernel
theorem dX5_judge_110 : decode cX5_judge 110 = .ok (.iinc 4 1, 3) := by decide +kernel
theorem dX5_judge_113 : decode cX5_judge 113 = .ok (.goto (-55), 3) := by decide +kernel
theorem dX5_judge_116 : decode cX5_judge 116 = .ok (.bipush (-9), 2) := by decide +kernel
theorem dX5_judge_118 : decode cX5_judge 118 = .ok (.ireturn, 1) := by decide +kernel
theorem dX5_see_0 : decode cX5_see 0 = .ok (.iload_n 1, 1) := by decide +kernel
theorem dX5_see_1 : decode cX5_see 1 = .ok (.iconst 1, 1) := by decide +kernel
theorem dX5_see_2 : decode cX5_see 2 = .ok (.if_icmp .lt 19, 3) := by decide +kernel
theorem dX5_see_5 : decode cX5_see 5 = .ok (.iload_n 1, 1) := by decide +kernel
theorem dX5_see_6 : decode cX5_see 6 = .ok (.bipush 12, 2) := by decide +kernel
theorem dX5_see_8 : decode cX5_see 8 = .ok (.if_icmp .gt 13, 3) := by decide +kernel
theorem dX5_see_11 : decode cX5_see 11 = .ok (.iload_n 2, 1) := by decide +kernel
theorem dX5_see_12 : decode cX5_see 12 = .ok (.ifCond .lt 9, 3) := by decide +kernel
theorem dX5_see_15 : decode cX5_see 15 = .ok (.iload_n 2, 1) := by decide +kernel
theorem dX5_see_16 : decode cX5_see 16 = .ok (.bipush 8, 2) := by decide +kernel
theorem dX5_see_18 : decode cX5_see 18 = .ok (.if_icmp .lt 6, 3) := by decide +kernel
theorem dX5_see_21 : decode cX5_see 21 = .ok (.bipush (-2), 2) := by decide +kernel
theorem dX5_see_23 : decode cX5_see 23 = .ok (.ireturn, 1) := by decide +kernel
theorem dX5_see_24 : decode cX5_see 24 = .ok (.iload_n 3, 1) := by decide +kernel
theorem dX5_see_25 : decode cX5_see 25 = .ok (.invokestatic 141, 3) := by decide +kernel
theorem dX5_see_28 : decode cX5_see 28 = .ok (.ifCond .eq 14, 3) := by decide +kernel
theorem dX5_see_31 : decode cX5_see 31 = .ok (.iload 4, 2) := by decide +kernel
theorem dX5_see_33 : decode cX5_see 33 = .ok (.ifCond .lt 9, 3) := by decide +kernel
theorem dX5_see_36 : decode cX5_see 36 = .ok (.iload 4, 2) := by decide +kernel
theorem dX5_see_38 : decode cX5_see 38 = .ok (.iconst 1, 1) := by decide +kernel
theorem dX5_see_39 : decode cX5_see 39 = .ok (.if_icmp .le 6, 3) := by decide +kernel
theorem dX5_see_42 : decode cX5_see 42 = .ok (.bipush (-2), 2) := by decide +kernel
theorem dX5_see_44 : decode cX5_see 44 = .ok (.ireturn, 1) := by decide +kernel
theorem dX5_see_45 : decode cX5_see 45 = .ok (.aload_n 0, 1) := by decide +kernel
theorem dX5_see_46 : decode cX5_see 46 = .ok (.getfield 43, 3) := by decide +kernel
theorem dX5_see_49 : decode cX5_see 49 = .ok (.iload_n 1, 1) := by decide +kernel
theorem dX5_see_50 : decode cX5_see 50 = .ok (.iload_n 2, 1) := by decide +kernel
theorem dX5_see_51 : decode cX5_see 51 = .ok (.iload_n 3, 1) := by decide +kernel
theorem dX5_see_52 : decode cX5_see 52 = .ok (.iload 4, 2) := by decide +kernel
theorem dX5_see_54 : decode cX5_see 54 = .ok (.invokevirtual 188, 3) := by decide +kernel
theorem dX5_see_57 : decode cX5_see 57 = .ok (.ifCond .eq 13, 3) := by decide +kernel
theorem dX5_see_60 : decode cX5_see 60 = .ok (.aload_n 0, 1) := by decide +kernel
theorem dX5_see_61 : decode cX5_see 61 = .ok (.getfield 43, 3) := by decide +kernel
theorem dX5_see_64 : decode cX5_see 64 = .ok (.getfield 111, 3) := by decide +kernel
theorem dX5_see_67 : decode cX5_see 67 = .ok (.goto 5, 3) := by decide +kernel
theorem dX5_see_70 : decode cX5_see 70 = .ok (.bipush (-4), 2) := by decide +kernel
theorem dX5_see_72 : decode cX5_see 72 = .ok (.ireturn, 1) := by decide +kernel
theorem dX5_unsee_0 : decode cX5_unsee 0 = .ok (.aload_n 0, 1) := by decide +kernel
theorem dX5_unsee_1 : decode cX5_unsee 1 = .ok (.getfield 43, 3) := by decide +kernel
theorem dX5_unsee_4 : decode cX5_unsee 4 = .ok (.getfield 111, 3) := by decide +kernel
theorem dX5_unsee_7 : decode cX5_unsee 7 = .ok (.istore_n 1, 1) := by decide +kernel
theorem dX5_unsee_8 : decode cX5_unsee 8 = .ok (.aload_n 0, 1) := by decide +kernel
theorem dX5_unsee_9 : decode cX5_unsee 9 = .ok (.getfield 43, 3) := by decide +kernel
theorem dX5_unsee_12 : decode cX5_unsee 12 = .ok (.iconst 0, 1) := by decide +kernel
theorem dX5_unsee_13 : decode cX5_unsee 13 = .ok (.putfield 111, 3) := by decide +kernel
theorem dX5_unsee_16 : decode cX5_unsee 16 = .ok (.iload_n 1, 1) := by decide +kernel
theorem dX5_unsee_17 : decode cX5_unsee 17 = .ok (.ireturn, 1) := by decide +kernel
theorem dX5_inputs_0 : decode cX5_inputs 0 = .ok (.iload_n 1, 1) := by decide +kernel
theorem dX5_inputs_1 : decode cX5_inputs 1 = .ok (.ifCond .lt 8, 3) := by decide +kernel
theorem dX5_inputs_4 : decode cX5_inputs 4 = .ok (.iload_n 1, 1) := by decide +kernel
theorem dX5_inputs_5 : decode cX5_inputs 5 = .ok (.iconst 1, 1) := by decide +kernel
theorem dX5_inputs_6 : decode cX5_inputs 6 = .ok (.if_icmp .le 6, 3) := by decide +kernel
theorem dX5_inputs_9 : decode cX5_inputs 9 = .ok (.bipush (-2), 2) := by decide +kernel
theorem dX5_inputs_11 : decode cX5_inputs 11 = .ok (.ireturn, 1) := by decide +kernel
theorem dX5_inputs_12 : decode cX5_inputs 12 = .ok (.aload_n 0, 1) := by decide +kernel
theorem dX5_inputs_13 : decode cX5_inputs 13 = .ok (.getfield 29, 3) := by decide +kernel
theorem dX5_inputs_16 : decode cX5_inputs 16 = .ok (.invokevirtual 144, 3) := by decide +kernel
theorem dX5_inputs_19 : decode cX5_inputs 19 = .ok (.ifCond .ne 6, 3) := by decide +kernel
theorem dX5_inputs_22 : decode cX5_inputs 22 = .ok (.bipush (-3), 2) := by decide +kernel
theorem dX5_inputs_24 : decode cX5_inputs 24 = .ok (.ireturn, 1) := by decide +kernel
theorem dX5_inputs_25 : decode cX5_inputs 25 = .ok (.iconst 0, 1) := by decide +kernel
theorem dX5_inputs_26 : decode cX5_inputs 26 = .ok (.istore_n 2, 1) := by decide +kernel
theorem dX5_inputs_27 : decode cX5_inputs 27 = .ok (.bipush (-9), 2) := by decide +kernel
theorem dX5_inputs_29 : decode cX5_inputs 29 = .ok (.istore_n 3, 1) := by decide +kernel
theorem dX5_inputs_30 : decode cX5_inputs 30 = .ok (.iconst 0, 1) := by decide +kernel
theorem dX5_inputs_31 : decode cX5_inputs 31 = .ok (.istore 4, 2) := by decide +kernel
theorem dX5_inputs_33 : decode cX5_inputs 33 = .ok (.iload 4, 2) := by decide +kernel
theorem dX5_inputs_35 : decode cX5_inputs 35 = .ok (.bipush 100, 2) := by decide +kernel
theorem dX5_inputs_37 : decode cX5_inputs 37 = .ok (.if_icmp .ge 40, 3) := by decide +kernel
theorem dX5_inputs_40 : decode cX5_inputs 40 = .ok (.aload_n 0, 1) := by decide +kernel
theorem dX5_inputs_41 : decode cX5_inputs 41 = .ok (.iload 4, 2) := by decide +kernel
theorem dX5_inputs_43 : decode cX5_inputs 43 = .ok (.bipush 10, 2) := by decide +kernel
theorem dX5_inputs_45 : decode cX5_inputs 45 = .ok (.idiv, 1) := by decide +kernel
theorem dX5_inputs_46 : decode cX5_inputs 46 = .ok (.iload 4, 2) := by decide +kernel
theorem dX5_inputs_48 : decode cX5_inputs 48 = .ok (.bipush 10, 2) := by decide +kernel
theorem dX5_inputs_50 : decode cX5_inputs 50 = .ok (.irem, 1) := by decide +kernel
theorem dX5_inputs_51 : decode cX5_inputs 51 = .ok (.invokevirtual 191, 3) := by decide +kernel
theorem dX5_inputs_54 : decode cX5_inputs 54 = .ok (.ifCond .eq 17, 3) := by decide +kernel
theorem dX5_inputs_57 : decode cX5_inputs 57 = .ok (.iload_n 2, 1) := by decide +kernel
theorem dX5_inputs_58 : decode cX5_inputs 58 = .ok (.ifCond .ne 8, 3) := by decide +kernel
theorem dX5_inputs_61 : decode cX5_inputs 61 = .ok (.iload 4, 2) := by decide +kernel
theorem dX5_inputs_63 : decode cX5_inputs 63 = .ok (.goto 4, 3) := by decide +kernel
theorem dX5_inputs_66 : decode cX5_inputs 66 = .ok (.iload_n 3, 1) := by decide +kernel
theorem dX5_inputs_67 : decode cX5_inputs 67 = .ok (.istore_n 3, 1) := by decide +kernel
theorem dX5_inputs_68 : decode cX5_inputs 68 = .ok (.iinc 2 1, 3) := by decide +kernel
theorem dX5_inputs_71 : decode cX5_inputs 71 = .ok (.iinc 4 1, 3) := by decide +kernel
theorem dX5_inputs_74 : decode cX5_inputs 74 = .ok (.goto (-41), 3) := by decide +kernel
theorem dX5_inputs_77 : decode cX5_inputs 77 = .ok (.iload_n 1, 1) := by decide +kernel
theorem dX5_inputs_78 : decode cX5_inputs 78 = .ok (.ifCond .ne 7, 3) := by decide +kernel
theorem dX5_inputs_81 : decode cX5_inputs 81 = .ok (.iload_n 2, 1) := by decide +kernel
theorem dX5_inputs_82 : decode cX5_inputs 82 = .ok (.goto 4, 3) := by decide +kernel
theorem dX5_inputs_85 : decode cX5_inputs 85 = .ok (.iload_n 3, 1) := by decide +kernel
theorem dX5_inputs_86 : decode cX5_inputs 86 = .ok (.ireturn, 1) := by decide +kernel
theorem dX5_odds_0 : decode cX5_odds 0 = .ok (.aload_n 0, 1) := by decide +kernel
theorem dX5_odds_1 : decode cX5_odds 1 = .ok (.iload_n 1, 1) := by decide +kernel
theorem dX5_odds_2 : decode cX5_odds 2 = .ok (.invokevirtual 112, 3) := by decide +kernel
theorem dX5_odds_5 : decode cX5_odds 5 = .ok (.ifCond .ne 5, 3) := by decide +kernel
theorem dX5_odds_8 : decode cX5_odds 8 = .ok (.iconst (-1), 1) := by decide +kernel
theorem dX5_odds_9 : decode cX5_odds 9 = .ok (.ireturn, 1) := by decide +kernel
theorem dX5_odds_10 : decode cX5_odds 10 = .ok (.iload_n 2, 1) := by decide +kernel
theorem dX5_odds_11 : decode cX5_odds 11 = .ok (.ifCond .lt 32, 3) := by decide +kernel
theorem dX5_odds_14 : decode cX5_odds 14 = .ok (.iload_n 2, 1) := by decide +kernel
theorem dX5_odds_15 : decode cX5_odds 15 = .ok (.bipush 6, 2) := by decide +kernel
theorem dX5_odds_17 : decode cX5_odds 17 = .ok (.if_icmp .gt 26, 3) := by decide +kernel
theorem dX5_odds_20 : decode cX5_odds 20 = .ok (.iload_n 3, 1) := by decide +kernel
theorem dX5_odds_21 : decode cX5_odds 21 = .ok (.iconst 1, 1) := by decide +kernel
theorem dX5_odds_22 : decode cX5_odds 22 = .ok (.if_icmp .lt 21, 3) := by decide +kernel
theorem dX5_odds_25 : decode cX5_odds 25 = .ok (.iload_n 3, 1) := by decide +kernel
theorem dX5_odds_26 : decode cX5_odds 26 = .ok (.bipush 6, 2) := by decide +kernel
theorem dX5_odds_28 : decode cX5_odds 28 = .ok (.if_icmp .gt 15, 3) := by decide +kernel
theorem dX5_odds_31 : decode cX5_odds 31 = .ok (.iload 4, 2) := by decide +kernel
theorem dX5_odds_33 : decode cX5_odds 33 = .ok (.ifCond .lt 10, 3) := by decide +kernel
theorem dX5_odds_36 : decode cX5_odds 36 = .ok (.iload 4, 2) := by decide +kernel
theorem dX5_odds_38 : decode cX5_odds 38 = .ok (.bipush 10, 2) := by decide +kernel
theorem dX5_odds_40 : decode cX5_odds 40 = .ok (.if_icmp .le 6, 3) := by decide +kernel
theorem dX5_odds_43 : decode cX5_odds 43 = .ok (.bipush (-2), 2) := by decide +kernel
theorem dX5_odds_45 : decode cX5_odds 45 = .ok (.ireturn, 1) := by decide +kernel
theorem dX5_odds_46 : decode cX5_odds 46 = .ok (.aload_n 0, 1) := by decide +kernel
theorem dX5_odds_47 : decode cX5_odds 47 = .ok (.getfield 29, 3) := by decide +kernel
theorem dX5_odds_50 : decode cX5_odds 50 = .ok (.invokevirtual 144, 3) := by decide +kernel
theorem dX5_odds_53 : decode cX5_odds 53 = .ok (.ifCond .ne 6, 3) := by decide +kernel
theorem dX5_odds_56 : decode cX5_odds 56 = .ok (.bipush (-3), 2) := by decide +kernel
theorem dX5_odds_58 : decode cX5_odds 58 = .ok (.ireturn, 1) := by decide +kernel
theorem dX5_odds_59 : decode cX5_odds 59 = .ok (.iconst 0, 1) := by decide +kernel
theorem dX5_odds_60 : decode cX5_odds 60 = .ok (.istore 6, 2) := by decide +kernel
theorem dX5_odds_62 : decode cX5_odds 62 = .ok (.iconst 0, 1) := by decide +kernel
theorem dX5_odds_63 : decode cX5_odds 63 = .ok (.istore 7, 2) := by decide +kernel
theorem dX5_odds_65 : decode cX5_odds 65 = .ok (.iload 7, 2) := by decide +kernel
theorem dX5_odds_67 : decode cX5_odds 67 = .ok (.iconst 1, 1) := by decide +kernel
theorem dX5_odds_68 : decode cX5_odds 68 = .ok (.iload_n 3, 1) := by decide +kernel
theorem dX5_odds_69 : decode cX5_odds 69 = .ok (.ishl, 1) := by decide +kernel
theorem dX5_odds_70 : decode cX5_odds 70 = .ok (.if_icmp .ge 34, 3) := by decide +kernel
theorem dX5_odds_73 : decode cX5_odds 73 = .ok (.aload_n 0, 1) := by decide +kernel
theorem dX5_odds_74 : decode cX5_odds 74 = .ok (.iload_n 1, 1) := by decide +kernel
theorem dX5_odds_75 : decode cX5_odds 75 = .ok (.iload_n 3, 1) := by decide +kernel
theorem dX5_odds_76 : decode cX5_odds 76 = .ok (.iload 7, 2) := by decide +kernel
theorem dX5_odds_78 : decode cX5_odds 78 = .ok (.invokevirtual 194, 3) := by decide +kernel
theorem dX5_odds_81 : decode cX5_odds 81 = .ok (.iload_n 2, 1) := by decide +kernel
theorem dX5_odds_82 : decode cX5_odds 82 = .ok (.if_icmp .lt 16, 3) := by decide +kernel
theorem dX5_odds_85 : decode cX5_odds 85 = .ok (.iload 6, 2) := by decide +kernel
theorem dX5_odds_87 : decode cX5_odds 87 = .ok (.iload_n 3, 1) := by decide +kernel
theorem dX5_odds_88 : decode cX5_odds 88 = .ok (.iload 7, 2) := by decide +kernel
theorem dX5_odds_90 : decode cX5_odds 90 = .ok (.iload 4, 2) := by decide +kernel
theorem dX5_odds_92 : decode cX5_odds 92 = .ok (.invokestatic 198, 3) := by decide +kernel
theorem dX5_odds_95 : decode cX5_odds 95 = .ok (.iadd, 1) := by decide +kernel
theorem dX5_odds_96 : decode cX5_odds 96 = .ok (.istore 6, 2) := by decide +kernel
theorem dX5_odds_98 : decode cX5_odds 98 = .ok (.iinc 7 1, 3) := by decide +kernel
theorem dX5_odds_101 : decode cX5_odds 101 = .ok (.goto (-36), 3) := by decide +kernel
theorem dX5_odds_104 : decode cX5_odds 104 = .ok (.ldc2_w 201, 3) := by decide +kernel
theorem dX5_odds_107 : decode cX5_odds 107 = .ok (.iload_n 3, 1) := by decide +kernel
theorem dX5_odds_108 : decode cX5_odds 108 = .ok (.invokestatic 181, 3) := by decide +kernel
theorem dX5_odds_111 : decode cX5_odds 111 = .ok (.l2i, 1) := by decide +kernel
theorem dX5_odds_112 : decode cX5_odds 112 = .ok (.istore 7, 2) := by decide +kernel
theorem dX5_odds_114 : decode cX5_odds 114 = .ok (.iload 6, 2) := by decide +kernel
theorem dX5_odds_116 : decode cX5_odds 116 = .ok (.iload 7, 2) := by decide +kernel
theorem dX5_odds_118 : decode cX5_odds 118 = .ok (.invokestatic 203, 3) := by decide +kernel
theorem dX5_odds_121 : decode cX5_odds 121 = .ok (.istore 8, 2) := by decide +kernel
theorem dX5_odds_123 : decode cX5_odds 123 = .ok (.iload 8, 2) := by decide +kernel
