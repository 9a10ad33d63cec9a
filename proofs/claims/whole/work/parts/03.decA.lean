theorem dX0_init_0 : decode cX0_init 0 = .ok (.aload_n 0, 1) := by decide +kernel
theorem dX0_init_1 : decode cX0_init 1 = .ok (.invokespecial 1, 3) := by decide +kernel
theorem dX0_init_4 : decode cX0_init 4 = .ok (.aload_n 0, 1) := by decide +kernel
theorem dX0_init_5 : decode cX0_init 5 = .ok (.iload_n 1, 1) := by decide +kernel
theorem dX0_init_6 : decode cX0_init 6 = .ok (.putfield 7, 3) := by decide +kernel
theorem dX0_init_9 : decode cX0_init 9 = .ok (.aload_n 0, 1) := by decide +kernel
theorem dX0_init_10 : decode cX0_init 10 = .ok (.iload_n 2, 1) := by decide +kernel
theorem dX0_init_11 : decode cX0_init 11 = .ok (.putfield 13, 3) := by decide +kernel
theorem dX0_init_14 : decode cX0_init 14 = .ok (.aload_n 0, 1) := by decide +kernel
theorem dX0_init_15 : decode cX0_init 15 = .ok (.iload_n 3, 1) := by decide +kernel
theorem dX0_init_16 : decode cX0_init 16 = .ok (.putfield 16, 3) := by decide +kernel
theorem dX0_init_19 : decode cX0_init 19 = .ok (.aload_n 0, 1) := by decide +kernel
theorem dX0_init_20 : decode cX0_init 20 = .ok (.iload 4, 2) := by decide +kernel
theorem dX0_init_22 : decode cX0_init 22 = .ok (.putfield 19, 3) := by decide +kernel
theorem dX0_init_25 : decode cX0_init 25 = .ok (.aload_n 0, 1) := by decide +kernel
theorem dX0_init_26 : decode cX0_init 26 = .ok (.iload 5, 2) := by decide +kernel
theorem dX0_init_28 : decode cX0_init 28 = .ok (.putfield 22, 3) := by decide +kernel
theorem dX0_init_31 : decode cX0_init 31 = .ok (.return_, 1) := by decide +kernel
theorem dX1_init_0 : decode cX1_init 0 = .ok (.aload_n 0, 1) := by decide +kernel
theorem dX1_init_1 : decode cX1_init 1 = .ok (.invokespecial 5, 3) := by decide +kernel
theorem dX1_init_4 : decode cX1_init 4 = .ok (.aload_n 0, 1) := by decide +kernel
theorem dX1_init_5 : decode cX1_init 5 = .ok (.bipush 10, 2) := by decide +kernel
theorem dX1_init_7 : decode cX1_init 7 = .ok (.bipush 13, 2) := by decide +kernel
theorem dX1_init_9 : decode cX1_init 9 = .ok (.multianewarray 11 2, 4) := by decide +kernel
theorem dX1_init_13 : decode cX1_init 13 = .ok (.putfield 13, 3) := by decide +kernel
theorem dX1_init_16 : decode cX1_init 16 = .ok (.aload_n 0, 1) := by decide +kernel
theorem dX1_init_17 : decode cX1_init 17 = .ok (.bipush 10, 2) := by decide +kernel
theorem dX1_init_19 : decode cX1_init 19 = .ok (.newarray .int, 2) := by decide +kernel
theorem dX1_init_21 : decode cX1_init 21 = .ok (.putfield 16, 3) := by decide +kernel
theorem dX1_init_24 : decode cX1_init 24 = .ok (.aload_n 0, 1) := by decide +kernel
theorem dX1_init_25 : decode cX1_init 25 = .ok (.bipush 10, 2) := by decide +kernel
theorem dX1_init_27 : decode cX1_init 27 = .ok (.newarray .int, 2) := by decide +kernel
theorem dX1_init_29 : decode cX1_init 29 = .ok (.putfield 20, 3) := by decide +kernel
theorem dX1_init_32 : decode cX1_init 32 = .ok (.aload_n 0, 1) := by decide +kernel
theorem dX1_init_33 : decode cX1_init 33 = .ok (.bipush 10, 2) := by decide +kernel
theorem dX1_init_35 : decode cX1_init 35 = .ok (.newarray .long, 2) := by decide +kernel
theorem dX1_init_37 : decode cX1_init 37 = .ok (.putfield 23, 3) := by decide +kernel
theorem dX1_init_40 : decode cX1_init 40 = .ok (.aload_n 0, 1) := by decide +kernel
theorem dX1_init_41 : decode cX1_init 41 = .ok (.bipush 10, 2) := by decide +kernel
theorem dX1_init_43 : decode cX1_init 43 = .ok (.newarray .int, 2) := by decide +kernel
theorem dX1_init_45 : decode cX1_init 45 = .ok (.putfield 27, 3) := by decide +kernel
theorem dX1_init_48 : decode cX1_init 48 = .ok (.return_, 1) := by decide +kernel
theorem dX1_clear_0 : decode cX1_clear 0 = .ok (.iconst 0, 1) := by decide +kernel
theorem dX1_clear_1 : decode cX1_clear 1 = .ok (.istore_n 1, 1) := by decide +kernel
theorem dX1_clear_2 : decode cX1_clear 2 = .ok (.iload_n 1, 1) := by decide +kernel
theorem dX1_clear_3 : decode cX1_clear 3 = .ok (.bipush 10, 2) := by decide +kernel
theorem dX1_clear_5 : decode cX1_clear 5 = .ok (.if_icmp .ge 21, 3) := by decide +kernel
theorem dX1_clear_8 : decode cX1_clear 8 = .ok (.aload_n 0, 1) := by decide +kernel
theorem dX1_clear_9 : decode cX1_clear 9 = .ok (.getfield 13, 3) := by decide +kernel
theorem dX1_clear_12 : decode cX1_clear 12 = .ok (.iload_n 1, 1) := by decide +kernel
theorem dX1_clear_13 : decode cX1_clear 13 = .ok (.aaload, 1) := by decide +kernel
theorem dX1_clear_14 : decode cX1_clear 14 = .ok (.ldc2_w 30, 3) := by decide +kernel
theorem dX1_clear_17 : decode cX1_clear 17 = .ok (.invokestatic 32, 3) := by decide +kernel
theorem dX1_clear_20 : decode cX1_clear 20 = .ok (.iinc 1 1, 3) := by decide +kernel
theorem dX1_clear_23 : decode cX1_clear 23 = .ok (.goto (-21), 3) := by decide +kernel
theorem dX1_clear_26 : decode cX1_clear 26 = .ok (.aload_n 0, 1) := by decide +kernel
theorem dX1_clear_27 : decode cX1_clear 27 = .ok (.getfield 16, 3) := by decide +kernel
theorem dX1_clear_30 : decode cX1_clear 30 = .ok (.iconst 0, 1) := by decide +kernel
theorem dX1_clear_31 : decode cX1_clear 31 = .ok (.invokestatic 38, 3) := by decide +kernel
theorem dX1_clear_34 : decode cX1_clear 34 = .ok (.aload_n 0, 1) := by decide +kernel
theorem dX1_clear_35 : decode cX1_clear 35 = .ok (.getfield 20, 3) := by decide +kernel
theorem dX1_clear_38 : decode cX1_clear 38 = .ok (.bipush 12, 2) := by decide +kernel
theorem dX1_clear_40 : decode cX1_clear 40 = .ok (.invokestatic 38, 3) := by decide +kernel
theorem dX1_clear_43 : decode cX1_clear 43 = .ok (.aload_n 0, 1) := by decide +kernel
theorem dX1_clear_44 : decode cX1_clear 44 = .ok (.iconst 0, 1) := by decide +kernel
theorem dX1_clear_45 : decode cX1_clear 45 = .ok (.putfield 41, 3) := by decide +kernel
theorem dX1_clear_48 : decode cX1_clear 48 = .ok (.aload_n 0, 1) := by decide +kernel
theorem dX1_clear_49 : decode cX1_clear 49 = .ok (.iconst 0, 1) := by decide +kernel
theorem dX1_clear_50 : decode cX1_clear 50 = .ok (.putfield 45, 3) := by decide +kernel
theorem dX1_clear_53 : decode cX1_clear 53 = .ok (.return_, 1) := by decide +kernel
theorem dX1_open_0 : decode cX1_open 0 = .ok (.iload_n 1, 1) := by decide +kernel
theorem dX1_open_1 : decode cX1_open 1 = .ok (.invokestatic 48, 3) := by decide +kernel
theorem dX1_open_4 : decode cX1_open 4 = .ok (.ifCond .eq 34, 3) := by decide +kernel
theorem dX1_open_7 : decode cX1_open 7 = .ok (.aload_n 0, 1) := by decide +kernel
theorem dX1_open_8 : decode cX1_open 8 = .ok (.dup, 1) := by decide +kernel
theorem dX1_open_9 : decode cX1_open 9 = .ok (.getfield 41, 3) := by decide +kernel
theorem dX1_open_12 : decode cX1_open 12 = .ok (.iconst 1, 1) := by decide +kernel
theorem dX1_open_13 : decode cX1_open 13 = .ok (.iload_n 1, 1) := by decide +kernel
theorem dX1_open_14 : decode cX1_open 14 = .ok (.ishl, 1) := by decide +kernel
theorem dX1_open_15 : decode cX1_open 15 = .ok (.ior, 1) := by decide +kernel
theorem dX1_open_16 : decode cX1_open 16 = .ok (.putfield 41, 3) := by decide +kernel
theorem dX1_open_19 : decode cX1_open 19 = .ok (.aload_n 0, 1) := by decide +kernel
theorem dX1_open_20 : decode cX1_open 20 = .ok (.getfield 13, 3) := by decide +kernel
theorem dX1_open_23 : decode cX1_open 23 = .ok (.iload_n 1, 1) := by decide +kernel
theorem dX1_open_24 : decode cX1_open 24 = .ok (.aaload, 1) := by decide +kernel
theorem dX1_open_25 : decode cX1_open 25 = .ok (.bipush 12, 2) := by decide +kernel
theorem dX1_open_27 : decode cX1_open 27 = .ok (.ldc2_w 52, 3) := by decide +kernel
theorem dX1_open_30 : decode cX1_open 30 = .ok (.iload_n 1, 1) := by decide +kernel
theorem dX1_open_31 : decode cX1_open 31 = .ok (.bipush 12, 2) := by decide +kernel
theorem dX1_open_33 : decode cX1_open 33 = .ok (.invokestatic 54, 3) := by decide +kernel
theorem dX1_open_36 : decode cX1_open 36 = .ok (.ladd, 1) := by decide +kernel
theorem dX1_open_37 : decode cX1_open 37 = .ok (.lastore, 1) := by decide +kernel
theorem dX1_open_38 : decode cX1_open 38 = .ok (.return_, 1) := by decide +kernel
theorem dX1_offer_0 : decode cX1_offer 0 = .ok (.iload_n 1, 1) := by decide +kernel
theorem dX1_offer_1 : decode cX1_offer 1 = .ok (.invokestatic 48, 3) := by decide +kernel
theorem dX1_offer_4 : decode cX1_offer 4 = .ok (.ifCond .eq 44, 3) := by decide +kernel
theorem dX1_offer_7 : decode cX1_offer 7 = .ok (.iload_n 2, 1) := by decide +kernel
theorem dX1_offer_8 : decode cX1_offer 8 = .ok (.ifCond .lt 40, 3) := by decide +kernel
theorem dX1_offer_11 : decode cX1_offer 11 = .ok (.iload_n 2, 1) := by decide +kernel
theorem dX1_offer_12 : decode cX1_offer 12 = .ok (.bipush 12, 2) := by decide +kernel
theorem dX1_offer_14 : decode cX1_offer 14 = .ok (.if_icmp .ge 34, 3) := by decide +kernel
theorem dX1_offer_17 : decode cX1_offer 17 = .ok (.aload_n 0, 1) := by decide +kernel
theorem dX1_offer_18 : decode cX1_offer 18 = .ok (.getfield 13, 3) := by decide +kernel
theorem dX1_offer_21 : decode cX1_offer 21 = .ok (.iload_n 1, 1) := by decide +kernel
theorem dX1_offer_22 : decode cX1_offer 22 = .ok (.aaload, 1) := by decide +kernel
theorem dX1_offer_23 : decode cX1_offer 23 = .ok (.iload_n 2, 1) := by decide +kernel
theorem dX1_offer_24 : decode cX1_offer 24 = .ok (.iload_n 3, 1) := by decide +kernel
theorem dX1_offer_25 : decode cX1_offer 25 = .ok (.i2l, 1) := by decide +kernel
theorem dX1_offer_26 : decode cX1_offer 26 = .ok (.bipush 40, 2) := by decide +kernel
theorem dX1_offer_28 : decode cX1_offer 28 = .ok (.lshl, 1) := by decide +kernel
theorem dX1_offer_29 : decode cX1_offer 29 = .ok (.iload_n 1, 1) := by decide +kernel
theorem dX1_offer_30 : decode cX1_offer 30 = .ok (.iload_n 2, 1) := by decide +kernel
theorem dX1_offer_31 : decode cX1_offer 31 = .ok (.invokestatic 54, 3) := by decide +kernel
theorem dX1_offer_34 : decode cX1_offer 34 = .ok (.ladd, 1) := by decide +kernel
theorem dX1_offer_35 : decode cX1_offer 35 = .ok (.lastore, 1) := by decide +kernel
theorem dX1_offer_36 : decode cX1_offer 36 = .ok (.aload_n 0, 1) := by decide +kernel
theorem dX1_offer_37 : decode cX1_offer 37 = .ok (.getfield 16, 3) := by decide +kernel
theorem dX1_offer_40 : decode cX1_offer 40 = .ok (.iload_n 1, 1) := by decide +kernel
theorem dX1_offer_41 : decode cX1_offer 41 = .ok (.dup2, 1) := by decide +kernel
theorem dX1_offer_42 : decode cX1_offer 42 = .ok (.iaload, 1) := by decide +kernel
theorem dX1_offer_43 : decode cX1_offer 43 = .ok (.iconst 1, 1) := by decide +kernel
theorem dX1_offer_44 : decode cX1_offer 44 = .ok (.iload_n 2, 1) := by decide +kernel
theorem dX1_offer_45 : decode cX1_offer 45 = .ok (.ishl, 1) := by decide +kernel
theorem dX1_offer_46 : decode cX1_offer 46 = .ok (.ior, 1) := by decide +kernel
theorem dX1_offer_47 : decode cX1_offer 47 = .ok (.iastore, 1) := by decide +kernel
theorem dX1_offer_48 : decode cX1_offer 48 = .ok (.return_, 1) := by decide +kernel
theorem dX1_solve_0 : decode cX1_solve 0 = .ok (.iconst 0, 1) := by decide +kernel
theorem dX1_solve_1 : decode cX1_solve 1 = .ok (.istore_n 1, 1) := by decide +kernel
theorem dX1_solve_2 : decode cX1_solve 2 = .ok (.iload_n 1, 1) := by decide +kernel
theorem dX1_solve_3 : decode cX1_solve 3 = .ok (.bipush 10, 2) := by decide +kernel
theorem dX1_solve_5 : decode cX1_solve 5 = .ok (.if_icmp .ge 25, 3) := by decide +kernel
theorem dX1_solve_8 : decode cX1_solve 8 = .ok (.aload_n 0, 1) := by decide +kernel
theorem dX1_solve_9 : decode cX1_solve 9 = .ok (.getfield 41, 3) := by decide +kernel
theorem dX1_solve_12 : decode cX1_solve 12 = .ok (.iload_n 1, 1) := by decide +kernel
theorem dX1_solve_13 : decode cX1_solve 13 = .ok (.invokestatic 58, 3) := by decide +kernel
theorem dX1_solve_16 : decode cX1_solve 16 = .ok (.ifCond .eq 8, 3) := by decide +kernel
theorem dX1_solve_19 : decode cX1_solve 19 = .ok (.aload_n 0, 1) := by decide +kernel
theorem dX1_solve_20 : decode cX1_solve 20 = .ok (.iload_n 1, 1) := by decide +kernel
theorem dX1_solve_21 : decode cX1_solve 21 = .ok (.invokevirtual 62, 3) := by decide +kernel
theorem dX1_solve_24 : decode cX1_solve 24 = .ok (.iinc 1 1, 3) := by decide +kernel
theorem dX1_solve_27 : decode cX1_solve 27 = .ok (.goto (-25), 3) := by decide +kernel
theorem dX1_solve_30 : decode cX1_solve 30 = .ok (.return_, 1) := by decide +kernel
theorem dX1_teacherFor_0 : decode cX1_teacherFor 0 = .ok (.iload_n 1, 1) := by decide +kernel
theorem dX1_teacherFor_1 : decode cX1_teacherFor 1 = .ok (.invokestatic 48, 3) := by decide +kernel
theorem dX1_teacherFor_4 : decode cX1_teacherFor 4 = .ok (.ifCond .eq 23, 3) := by decide +kernel
theorem dX1_teacherFor_7 : decode cX1_teacherFor 7 = .ok (.aload_n 0, 1) := by decide +kernel
theorem dX1_teacherFor_8 : decode cX1_teacherFor 8 = .ok (.getfield 20, 3) := by decide +kernel
theorem dX1_teacherFor_11 : decode cX1_teacherFor 11 = .ok (.iload_n 1, 1) := by decide +kernel
theorem dX1_teacherFor_12 : decode cX1_teacherFor 12 = .ok (.iaload, 1) := by decide +kernel
theorem dX1_teacherFor_13 : decode cX1_teacherFor 13 = .ok (.bipush 12, 2) := by decide +kernel
theorem dX1_teacherFor_15 : decode cX1_teacherFor 15 = .ok (.if_icmp .eq 12, 3) := by decide +kernel
theorem dX1_teacherFor_18 : decode cX1_teacherFor 18 = .ok (.aload_n 0, 1) := by decide +kernel
theorem dX1_teacherFor_19 : decode cX1_teacherFor 19 = .ok (.getfield 20, 3) := by decide +kernel
theorem dX1_teacherFor_22 : decode cX1_teacherFor 22 = .ok (.iload_n 1, 1) := by decide +kernel
theorem dX1_teacherFor_23 : decode cX1_teacherFor 23 = .ok (.iaload, 1) := by decide +kernel
theorem dX1_teacherFor_24 : decode cX1_teacherFor 24 = .ok (.goto 4, 3) := by decide +kernel
theorem dX1_teacherFor_27 : decode cX1_teacherFor 27 = .ok (.iconst (-1), 1) := by decide +kernel
theorem dX1_teacherFor_28 : decode cX1_teacherFor 28 = .ok (.ireturn, 1) := by decide +kernel
theorem dX1_gapFor_0 : decode cX1_gapFor 0 = .ok (.iconst 0, 1) := by decide +kernel
theorem dX1_gapFor_1 : decode cX1_gapFor 1 = .ok (.istore_n 2, 1) := by decide +kernel
theorem dX1_gapFor_2 : decode cX1_gapFor 2 = .ok (.iload_n 2, 1) := by decide +kernel
theorem dX1_gapFor_3 : decode cX1_gapFor 3 = .ok (.bipush 10, 2) := by decide +kernel
theorem dX1_gapFor_5 : decode cX1_gapFor 5 = .ok (.if_icmp .ge 32, 3) := by decide +kernel
theorem dX1_gapFor_8 : decode cX1_gapFor 8 = .ok (.aload_n 0, 1) := by decide +kernel
theorem dX1_gapFor_9 : decode cX1_gapFor 9 = .ok (.getfield 20, 3) := by decide +kernel
theorem dX1_gapFor_12 : decode cX1_gapFor 12 = .ok (.iload_n 2, 1) := by decide +kernel
theorem dX1_gapFor_13 : decode cX1_gapFor 13 = .ok (.iaload, 1) := by decide +kernel
theorem dX1_gapFor_14 : decode cX1_gapFor 14 = .ok (.bipush 12, 2) := by decide +kernel
theorem dX1_gapFor_16 : decode cX1_gapFor 16 = .ok (.if_icmp .eq 15, 3) := by decide +kernel
theorem dX1_gapFor_19 : decode cX1_gapFor 19 = .ok (.aload_n 0, 1) := by decide +kernel
theorem dX1_gapFor_20 : decode cX1_gapFor 20 = .ok (.getfield 20, 3) := by decide +kernel
theorem dX1_gapFor_23 : decode cX1_gapFor 23 = .ok (.iload_n 2, 1) := by decide +kernel
theorem dX1_gapFor_24 : decode cX1_gapFor 24 = .ok (.iaload, 1) := by decide +kernel
theorem dX1_gapFor_25 : decode cX1_gapFor 25 = .ok (.iload_n 1, 1) := by decide +kernel
theorem dX1_gapFor_26 : decode cX1_gapFor 26 = .ok (.if_icmp .ne 5, 3) := by decide +kernel
theorem dX1_gapFor_29 : decode cX1_gapFor 29 = .ok (.iload_n 2, 1) := by decide +kernel
theorem dX1_gapFor_30 : decode cX1_gapFor 30 = .ok (.ireturn, 1) := by decide +kernel
theorem dX1_gapFor_31 : decode cX1_gapFor 31 = .ok (.iinc 2 1, 3) := by decide +kernel
theorem dX1_gapFor_34 : decode cX1_gapFor 34 = .ok (.goto (-32), 3) := by decide +kernel
theorem dX1_gapFor_37 : decode cX1_gapFor 37 = .ok (.iconst (-1), 1) := by decide +kernel
theorem dX1_gapFor_38 : decode cX1_gapFor 38 = .ok (.ireturn, 1) := by decide +kernel
theorem dX1_filled_0 : decode cX1_filled 0 = .ok (.iconst 0, 1) := by decide +kernel
theorem dX1_filled_1 : decode cX1_filled 1 = .ok (.istore_n 1, 1) := by decide +kernel
theorem dX1_filled_2 : decode cX1_filled 2 = .ok (.iconst 0, 1) := by decide +kernel
theorem dX1_filled_3 : decode cX1_filled 3 = .ok (.istore_n 2, 1) := by decide +kernel
theorem dX1_filled_4 : decode cX1_filled 4 = .ok (.iload_n 2, 1) := by decide +kernel
theorem dX1_filled_5 : decode cX1_filled 5 = .ok (.bipush 10, 2) := by decide +kernel
theorem dX1_filled_7 : decode cX1_filled 7 = .ok (.if_icmp .ge 23, 3) := by decide +kernel
theorem dX1_filled_10 : decode cX1_filled 10 = .ok (.aload_n 0, 1) := by decide +kernel
theorem dX1_filled_11 : decode cX1_filled 11 = .ok (.getfield 20, 3) := by decide +kernel
theorem dX1_filled_14 : decode cX1_filled 14 = .ok (.iload_n 2, 1) := by decide +kernel
theorem dX1_filled_15 : decode cX1_filled 15 = .ok (.iaload, 1) := by decide +kernel
theorem dX1_filled_16 : decode cX1_filled 16 = .ok (.bipush 12, 2) := by decide +kernel
theorem dX1_filled_18 : decode cX1_filled 18 = .ok (.if_icmp .eq 6, 3) := by decide +kernel
theorem dX1_filled_21 : decode cX1_filled 21 = .ok (.iinc 1 1, 3) := by decide +kernel
theorem dX1_filled_24 : decode cX1_filled 24 = .ok (.iinc 2 1, 3) := by decide +kernel
theorem dX1_filled_27 : decode cX1_filled 27 = .ok (.goto (-23), 3) := by decide +kernel
theorem dX1_filled_30 : decode cX1_filled 30 = .ok (.iload_n 1, 1) := by decide +kernel
theorem dX1_filled_31 : decode cX1_filled 31 = .ok (.ireturn, 1) := by decide +kernel
theorem dX1_costInAll_0 : decode cX1_costInAll 0 = .ok (.iconst 0, 1) := by decide +kernel
theorem dX1_costInAll_1 : decode cX1_costInAll 1 = .ok (.istore_n 1, 1) := by decide +kernel
theorem dX1_costInAll_2 : decode cX1_costInAll 2 = .ok (.iconst 0, 1) := by decide +kernel
theorem dX1_costInAll_3 : decode cX1_costInAll 3 = .ok (.istore_n 2, 1) := by decide +kernel
theorem dX1_costInAll_4 : decode cX1_costInAll 4 = .ok (.iload_n 2, 1) := by decide +kernel
theorem dX1_costInAll_5 : decode cX1_costInAll 5 = .ok (.bipush 10, 2) := by decide +kernel
theorem dX1_costInAll_7 : decode cX1_costInAll 7 = .ok (.if_icmp .ge 38, 3) := by decide +kernel
theorem dX1_costInAll_10 : decode cX1_costInAll 10 = .ok (.aload_n 0, 1) := by decide +kernel
theorem dX1_costInAll_11 : decode cX1_costInAll 11 = .ok (.getfield 20, 3) := by decide +kernel
theorem dX1_costInAll_14 : decode cX1_costInAll 14 = .ok (.iload_n 2, 1) := by decide +kernel
theorem dX1_costInAll_15 : decode cX1_costInAll 15 = .ok (.iaload, 1) := by decide +kernel
theorem dX1_costInAll_16 : decode cX1_costInAll 16 = .ok (.bipush 12, 2) := by decide +kernel
theorem dX1_costInAll_18 : decode cX1_costInAll 18 = .ok (.if_icmp .eq 21, 3) := by decide +kernel
theorem dX1_costInAll_21 : decode cX1_costInAll 21 = .ok (.iload_n 1, 1) := by decide +kernel
theorem dX1_costInAll_22 : decode cX1_costInAll 22 = .ok (.aload_n 0, 1) := by decide +kernel
theorem dX1_costInAll_23 : decode cX1_costInAll 23 = .ok (.iload_n 2, 1) := by decide +kernel
theorem dX1_costInAll_24 : decode cX1_costInAll 24 = .ok (.aload_n 0, 1) := by decide +kernel
theorem dX1_costInAll_25 : decode cX1_costInAll 25 = .ok (.getfield 20, 3) := by decide +kernel
theorem dX1_costInAll_28 : decode cX1_costInAll 28 = .ok (.iload_n 2, 1) := by decide +kernel
theorem dX1_costInAll_29 : decode cX1_costInAll 29 = .ok (.iaload, 1) := by decide +kernel
theorem dX1_costInAll_30 : decode cX1_costInAll 30 = .ok (.invokevirtual 66, 3) := by decide +kernel
theorem dX1_costInAll_33 : decode cX1_costInAll 33 = .ok (.bipush 40, 2) := by decide +kernel
theorem dX1_costInAll_35 : decode cX1_costInAll 35 = .ok (.lshr, 1) := by decide +kernel
theorem dX1_costInAll_36 : decode cX1_costInAll 36 = .ok (.l2i, 1) := by decide +kernel
theorem dX1_costInAll_37 : decode cX1_costInAll 37 = .ok (.iadd, 1) := by decide +kernel
theorem dX1_costInAll_38 : decode cX1_costInAll 38 = .ok (.istore_n 1, 1) := by decide +kernel
theorem dX1_costInAll_39 : decode cX1_costInAll 39 = .ok (.iinc 2 1, 3) := by decide +kernel
theorem dX1_costInAll_42 : decode cX1_costInAll 42 = .ok (.goto (-38), 3) := by decide +kernel
theorem dX1_costInAll_45 : decode cX1_costInAll 45 = .ok (.iload_n 1, 1) := by decide +kernel
theorem dX1_costInAll_46 : decode cX1_costInAll 46 = .ok (.ireturn, 1) := by decide +kernel
theorem dX1_fewestUnfillable_0 : decode cX1_fewestUnfillable 0 = .ok (.iconst 0, 1) := by decide +kernel
theorem dX1_fewestUnfillable_1 : decode cX1_fewestUnfillable 1 = .ok (.istore_n 1, 1) := by decide +kernel
theorem dX1_fewestUnfillable_2 : decode cX1_fewestUnfillable 2 = .ok (.bipush 11, 2) := by decide +kernel
theorem dX1_fewestUnfillable_4 : decode cX1_fewestUnfillable 4 = .ok (.istore_n 2, 1) := by decide +kernel
theorem dX1_fewestUnfillable_5 : decode cX1_fewestUnfillable 5 = .ok (.iconst 1, 1) := by decide +kernel
theorem dX1_fewestUnfillable_6 : decode cX1_fewestUnfillable 6 = .ok (.istore_n 3, 1) := by decide +kernel
theorem dX1_fewestUnfillable_7 : decode cX1_fewestUnfillable 7 = .ok (.iload_n 3, 1) := by decide +kernel
theorem dX1_fewestUnfillable_8 : decode cX1_fewestUnfillable 8 = .ok (.aload_n 0, 1) := by decide +kernel
theorem dX1_fewestUnfillable_9 : decode cX1_fewestUnfillable 9 = .ok (.getfield 41, 3) := by decide +kernel
theorem dX1_fewestUnfillable_12 : decode cX1_fewestUnfillable 12 = .ok (.if_icmp .gt 52, 3) := by decide +kernel
theorem dX1_fewestUnfillable_15 : decode cX1_fewestUnfillable 15 = .ok (.iload_n 3, 1) := by decide +kernel
theorem dX1_fewestUnfillable_16 : decode cX1_fewestUnfillable 16 = .ok (.aload_n 0, 1) := by decide +kernel
theorem dX1_fewestUnfillable_17 : decode cX1_fewestUnfillable 17 = .ok (.getfield 41, 3) := by decide +kernel
theorem dX1_fewestUnfillable_20 : decode cX1_fewestUnfillable 20 = .ok (.iand, 1) := by decide +kernel
theorem dX1_fewestUnfillable_21 : decode cX1_fewestUnfillable 21 = .ok (.iload_n 3, 1) := by decide +kernel
theorem dX1_fewestUnfillable_22 : decode cX1_fewestUnfillable 22 = .ok (.if_icmp .eq 6, 3) := by decide +kernel
theorem dX1_fewestUnfillable_25 : decode cX1_fewestUnfillable 25 = .ok (.goto 33, 3) := by decide +kernel
theorem dX1_fewestUnfillable_28 : decode cX1_fewestUnfillable 28 = .ok (.iload_n 3, 1) := by decide +kernel
theorem dX1_fewestUnfillable_29 : decode cX1_fewestUnfillable 29 = .ok (.invokestatic 69, 3) := by decide +kernel
theorem dX1_fewestUnfillable_32 : decode cX1_fewestUnfillable 32 = .ok (.istore 4, 2) := by decide +kernel
theorem dX1_fewestUnfillable_34 : decode cX1_fewestUnfillable 34 = .ok (.iload 4, 2) := by decide +kernel
theorem dX1_fewestUnfillable_36 : decode cX1_fewestUnfillable 36 = .ok (.iload_n 2, 1) := by decide +kernel
theorem dX1_fewestUnfillable_37 : decode cX1_fewestUnfillable 37 = .ok (.if_icmp .ge 21, 3) := by decide +kernel
theorem dX1_fewestUnfillable_40 : decode cX1_fewestUnfillable 40 = .ok (.aload_n 0, 1) := by decide +kernel
theorem dX1_fewestUnfillable_41 : decode cX1_fewestUnfillable 41 = .ok (.iload_n 3, 1) := by decide +kernel
theorem dX1_fewestUnfillable_42 : decode cX1_fewestUnfillable 42 = .ok (.invokevirtual 75, 3) := by decide +kernel
theorem dX1_fewestUnfillable_45 : decode cX1_fewestUnfillable 45 = .ok (.invokestatic 69, 3) := by decide +kernel
theorem dX1_fewestUnfillable_48 : decode cX1_fewestUnfillable 48 = .ok (.iload 4, 2) := by decide +kernel
theorem dX1_fewestUnfillable_50 : decode cX1_fewestUnfillable 50 = .ok (.if_icmp .ge 8, 3) := by decide +kernel
theorem dX1_fewestUnfillable_53 : decode cX1_fewestUnfillable 53 = .ok (.iload_n 3, 1) := by decide +kernel
theorem dX1_fewestUnfillable_54 : decode cX1_fewestUnfillable 54 = .ok (.istore_n 1, 1) := by decide +kernel
theorem dX1_fewestUnfillable_55 : decode cX1_fewestUnfillable 55 = .ok (.iload 4, 2) := by decide +kernel
theorem dX1_fewestUnfillable_57 : decode cX1_fewestUnfillable 57 = .ok (.istore_n 2, 1) := by decide +kernel
theorem dX1_fewestUnfillable_58 : decode cX1_fewestUnfillable 58 = .ok (.iinc 3 1, 3) := by decide +kernel
theorem dX1_fewestUnfillable_61 : decode cX1_fewestUnfillable 61 = .ok (.goto (-54), 3) := by decide +kernel
theorem dX1_fewestUnfillable_64 : decode cX1_fewestUnfillable 64 = .ok (.iload_n 1, 1) := by decide +kernel
theorem dX1_fewestUnfillable_65 : decode cX1_fewestUnfillable 65 = .ok (.ireturn, 1) := by decide +kernel
theorem dX1_takersOf_0 : decode cX1_takersOf 0 = .ok (.iconst 0, 1) := by decide +kernel
theorem dX1_takersOf_1 : decode cX1_takersOf 1 = .ok (.istore_n 2, 1) := by decide +kernel
theorem dX1_takersOf_2 : decode cX1_takersOf 2 = .ok (.iconst 0, 1) := by decide +kernel
theorem dX1_takersOf_3 : decode cX1_takersOf 3 = .ok (.istore_n 3, 1) := by decide +kernel
theorem dX1_takersOf_4 : decode cX1_takersOf 4 = .ok (.iload_n 3, 1) := by decide +kernel
theorem dX1_takersOf_5 : decode cX1_takersOf 5 = .ok (.bipush 10, 2) := by decide +kernel
theorem dX1_takersOf_7 : decode cX1_takersOf 7 = .ok (.if_icmp .ge 26, 3) := by decide +kernel
theorem dX1_takersOf_10 : decode cX1_takersOf 10 = .ok (.iload_n 1, 1) := by decide +kernel
theorem dX1_takersOf_11 : decode cX1_takersOf 11 = .ok (.iload_n 3, 1) := by decide +kernel
theorem dX1_takersOf_12 : decode cX1_takersOf 12 = .ok (.invokestatic 58, 3) := by decide +kernel
theorem dX1_takersOf_15 : decode cX1_takersOf 15 = .ok (.ifCond .eq 12, 3) := by decide +kernel
theorem dX1_takersOf_18 : decode cX1_takersOf 18 = .ok (.iload_n 2, 1) := by decide +kernel
theorem dX1_takersOf_19 : decode cX1_takersOf 19 = .ok (.aload_n 0, 1) := by decide +kernel
theorem dX1_takersOf_20 : decode cX1_takersOf 20 = .ok (.getfield 16, 3) := by decide +kernel
theorem dX1_takersOf_23 : decode cX1_takersOf 23 = .ok (.iload_n 3, 1) := by decide +kernel
theorem dX1_takersOf_24 : decode cX1_takersOf 24 = .ok (.iaload, 1) := by decide +kernel
theorem dX1_takersOf_25 : decode cX1_takersOf 25 = .ok (.ior, 1) := by decide +kernel
theorem dX1_takersOf_26 : decode cX1_takersOf 26 = .ok (.istore_n 2, 1) := by decide +kernel
theorem dX1_takersOf_27 : decode cX1_takersOf 27 = .ok (.iinc 3 1, 3) := by decide +kernel
theorem dX1_takersOf_30 : decode cX1_takersOf 30 = .ok (.goto (-26), 3) := by decide +kernel
theorem dX1_takersOf_33 : decode cX1_takersOf 33 = .ok (.iload_n 2, 1) := by decide +kernel
theorem dX1_takersOf_34 : decode cX1_takersOf 34 = .ok (.ireturn, 1) := by decide +kernel
theorem dX1_isGap_0 : decode cX1_isGap 0 = .ok (.iload_n 0, 1) := by decide +kernel
theorem dX1_isGap_1 : decode cX1_isGap 1 = .ok (.ifCond .lt 13, 3) := by decide +kernel
theorem dX1_isGap_4 : decode cX1_isGap 4 = .ok (.iload_n 0, 1) := by decide +kernel
theorem dX1_isGap_5 : decode cX1_isGap 5 = .ok (.bipush 10, 2) := by decide +kernel
theorem dX1_isGap_7 : decode cX1_isGap 7 = .ok (.if_icmp .ge 7, 3) := by decide +kernel
theorem dX1_isGap_10 : decode cX1_isGap 10 = .ok (.iconst 1, 1) := by decide +kernel
theorem dX1_isGap_11 : decode cX1_isGap 11 = .ok (.goto 4, 3) := by decide +kernel
theorem dX1_isGap_14 : decode cX1_isGap 14 = .ok (.iconst 0, 1) := by decide +kernel
theorem dX1_isGap_15 : decode cX1_isGap 15 = .ok (.ireturn, 1) := by decide +kernel
theorem dX1_digit_0 : decode cX1_digit 0 = .ok (.iload_n 1, 1) := by decide +kernel
theorem dX1_digit_1 : decode cX1_digit 1 = .ok (.i2l, 1) := by decide +kernel
theorem dX1_digit_2 : decode cX1_digit 2 = .ok (.iconst 4, 1) := by decide +kernel
theorem dX1_digit_3 : decode cX1_digit 3 = .ok (.bipush 9, 2) := by decide +kernel
theorem dX1_digit_5 : decode cX1_digit 5 = .ok (.iload_n 0, 1) := by decide +kernel
theorem dX1_digit_6 : decode cX1_digit 6 = .ok (.isub, 1) := by decide +kernel
theorem dX1_digit_7 : decode cX1_digit 7 = .ok (.imul, 1) := by decide +kernel
theorem dX1_digit_8 : decode cX1_digit 8 = .ok (.lshl, 1) := by decide +kernel
theorem dX1_digit_9 : decode cX1_digit 9 = .ok (.lreturn, 1) := by decide +kernel
theorem dX1_weightOf_0 : decode cX1_weightOf 0 = .ok (.iload_n 1, 1) := by decide +kernel
theorem dX1_weightOf_1 : decode cX1_weightOf 1 = .ok (.ifCond .lt 30, 3) := by decide +kernel
theorem dX1_weightOf_4 : decode cX1_weightOf 4 = .ok (.iload_n 1, 1) := by decide +kernel
theorem dX1_weightOf_5 : decode cX1_weightOf 5 = .ok (.bipush 10, 2) := by decide +kernel
theorem dX1_weightOf_7 : decode cX1_weightOf 7 = .ok (.if_icmp .ge 24, 3) := by decide +kernel
theorem dX1_weightOf_10 : decode cX1_weightOf 10 = .ok (.iload_n 2, 1) := by decide +kernel
theorem dX1_weightOf_11 : decode cX1_weightOf 11 = .ok (.ifCond .lt 20, 3) := by decide +kernel
theorem dX1_weightOf_14 : decode cX1_weightOf 14 = .ok (.iload_n 2, 1) := by decide +kernel
theorem dX1_weightOf_15 : decode cX1_weightOf 15 = .ok (.bipush 12, 2) := by decide +kernel
theorem dX1_weightOf_17 : decode cX1_weightOf 17 = .ok (.if_icmp .gt 14, 3) := by decide +kernel
theorem dX1_weightOf_20 : decode cX1_weightOf 20 = .ok (.aload_n 0, 1) := by decide +kernel
theorem dX1_weightOf_21 : decode cX1_weightOf 21 = .ok (.getfield 13, 3) := by decide +kernel
theorem dX1_weightOf_24 : decode cX1_weightOf 24 = .ok (.iload_n 1, 1) := by decide +kernel
theorem dX1_weightOf_25 : decode cX1_weightOf 25 = .ok (.aaload, 1) := by decide +kernel
theorem dX1_weightOf_26 : decode cX1_weightOf 26 = .ok (.iload_n 2, 1) := by decide +kernel
theorem dX1_weightOf_27 : decode cX1_weightOf 27 = .ok (.laload, 1) := by decide +kernel
theorem dX1_weightOf_28 : decode cX1_weightOf 28 = .ok (.goto 6, 3) := by decide +kernel
theorem dX1_weightOf_31 : decode cX1_weightOf 31 = .ok (.ldc2_w 30, 3) := by decide +kernel
theorem dX1_weightOf_34 : decode cX1_weightOf 34 = .ok (.lreturn, 1) := by decide +kernel
theorem dX1_bringIn_0 : decode cX1_bringIn 0 = .ok (.aload_n 0, 1) := by decide +kernel
theorem dX1_bringIn_1 : decode cX1_bringIn 1 = .ok (.iload_n 1, 1) := by decide +kernel
theorem dX1_bringIn_2 : decode cX1_bringIn 2 = .ok (.invokevirtual 78, 3) := by decide +kernel
theorem dX1_bringIn_5 : decode cX1_bringIn 5 = .ok (.iload_n 1, 1) := by decide +kernel
theorem dX1_bringIn_6 : decode cX1_bringIn 6 = .ok (.istore_n 2, 1) := by decide +kernel
theorem dX1_bringIn_7 : decode cX1_bringIn 7 = .ok (.bipush 12, 2) := by decide +kernel
theorem dX1_bringIn_9 : decode cX1_bringIn 9 = .ok (.istore_n 3, 1) := by decide +kernel
theorem dX1_bringIn_10 : decode cX1_bringIn 10 = .ok (.ldc2_w 81, 3) := by decide +kernel
theorem dX1_bringIn_13 : decode cX1_bringIn 13 = .ok (.lstore 4, 2) := by decide +kernel
theorem dX1_bringIn_15 : decode cX1_bringIn 15 = .ok (.iconst 0, 1) := by decide +kernel
theorem dX1_bringIn_16 : decode cX1_bringIn 16 = .ok (.istore 6, 2) := by decide +kernel
theorem dX1_bringIn_18 : decode cX1_bringIn 18 = .ok (.iload 6, 2) := by decide +kernel
theorem dX1_bringIn_20 : decode cX1_bringIn 20 = .ok (.iload_n 1, 1) := by decide +kernel
theorem dX1_bringIn_21 : decode cX1_bringIn 21 = .ok (.if_icmp .gt 87, 3) := by decide +kernel
theorem dX1_bringIn_24 : decode cX1_bringIn 24 = .ok (.iload 6, 2) := by decide +kernel
theorem dX1_bringIn_26 : decode cX1_bringIn 26 = .ok (.bipush 10, 2) := by decide +kernel
theorem dX1_bringIn_28 : decode cX1_bringIn 28 = .ok (.if_icmp .ge 80, 3) := by decide +kernel
theorem dX1_bringIn_31 : decode cX1_bringIn 31 = .ok (.aload_n 0, 1) := by decide +kernel
theorem dX1_bringIn_32 : decode cX1_bringIn 32 = .ok (.getfield 23, 3) := by decide +kernel
theorem dX1_bringIn_35 : decode cX1_bringIn 35 = .ok (.iload 6, 2) := by decide +kernel
theorem dX1_bringIn_37 : decode cX1_bringIn 37 = .ok (.laload, 1) := by decide +kernel
theorem dX1_bringIn_38 : decode cX1_bringIn 38 = .ok (.ldc2_w 81, 3) := by decide +kernel
theorem dX1_bringIn_41 : decode cX1_bringIn 41 = .ok (.lcmp, 1) := by decide +kernel
theorem dX1_bringIn_42 : decode cX1_bringIn 42 = .ok (.ifCond .ne 6, 3) := by decide +kernel
theorem dX1_bringIn_45 : decode cX1_bringIn 45 = .ok (.goto 57, 3) := by decide +kernel
theorem dX1_bringIn_48 : decode cX1_bringIn 48 = .ok (.aload_n 0, 1) := by decide +kernel
theorem dX1_bringIn_49 : decode cX1_bringIn 49 = .ok (.iload 6, 2) := by decide +kernel
theorem dX1_bringIn_51 : decode cX1_bringIn 51 = .ok (.invokevirtual 83, 3) := by decide +kernel
theorem dX1_bringIn_54 : decode cX1_bringIn 54 = .ok (.istore 7, 2) := by decide +kernel
theorem dX1_bringIn_56 : decode cX1_bringIn 56 = .ok (.aload_n 0, 1) := by decide +kernel
theorem dX1_bringIn_57 : decode cX1_bringIn 57 = .ok (.getfield 23, 3) := by decide +kernel
theorem dX1_bringIn_60 : decode cX1_bringIn 60 = .ok (.iload 6, 2) := by decide +kernel
theorem dX1_bringIn_62 : decode cX1_bringIn 62 = .ok (.laload, 1) := by decide +kernel
theorem dX1_bringIn_63 : decode cX1_bringIn 63 = .ok (.aload_n 0, 1) := by decide +kernel
theorem dX1_bringIn_64 : decode cX1_bringIn 64 = .ok (.iload 6, 2) := by decide +kernel
theorem dX1_bringIn_66 : decode cX1_bringIn 66 = .ok (.iload 7, 2) := by decide +kernel
theorem dX1_bringIn_68 : decode cX1_bringIn 68 = .ok (.invokevirtual 66, 3) := by decide +kernel
theorem dX1_bringIn_71 : decode cX1_bringIn 71 = .ok (.ladd, 1) := by decide +kernel
theorem dX1_bringIn_72 : decode cX1_bringIn 72 = .ok (.lload 4, 2) := by decide +kernel
theorem dX1_bringIn_74 : decode cX1_bringIn 74 = .ok (.lcmp, 1) := by decide +kernel
theorem dX1_bringIn_75 : decode cX1_bringIn 75 = .ok (.ifCond .ge 27, 3) := by decide +kernel
theorem dX1_bringIn_78 : decode cX1_bringIn 78 = .ok (.aload_n 0, 1) := by decide +kernel
theorem dX1_bringIn_79 : decode cX1_bringIn 79 = .ok (.getfield 23, 3) := by decide +kernel
theorem dX1_bringIn_82 : decode cX1_bringIn 82 = .ok (.iload 6, 2) := by decide +kernel
theorem dX1_bringIn_84 : decode cX1_bringIn 84 = .ok (.laload, 1) := by decide +kernel
theorem dX1_bringIn_85 : decode cX1_bringIn 85 = .ok (.aload_n 0, 1) := by decide +kernel
theorem dX1_bringIn_86 : decode cX1_bringIn 86 = .ok (.iload 6, 2) := by decide +kernel
theorem dX1_bringIn_88 : decode cX1_bringIn 88 = .ok (.iload 7, 2) := by decide +kernel
theorem dX1_bringIn_90 : decode cX1_bringIn 90 = .ok (.invokevirtual 66, 3) := by decide +kernel
theorem dX1_bringIn_93 : decode cX1_bringIn 93 = .ok (.ladd, 1) := by decide +kernel
theorem dX1_bringIn_94 : decode cX1_bringIn 94 = .ok (.lstore 4, 2) := by decide +kernel
theorem dX1_bringIn_96 : decode cX1_bringIn 96 = .ok (.iload 6, 2) := by decide +kernel
theorem dX1_bringIn_98 : decode cX1_bringIn 98 = .ok (.istore_n 2, 1) := by decide +kernel
theorem dX1_bringIn_99 : decode cX1_bringIn 99 = .ok (.iload 7, 2) := by decide +kernel
theorem dX1_bringIn_101 : decode cX1_bringIn 101 = .ok (.istore_n 3, 1) := by decide +kernel
theorem dX1_bringIn_102 : decode cX1_bringIn 102 = .ok (.iinc 6 1, 3) := by decide +kernel
theorem dX1_bringIn_105 : decode cX1_bringIn 105 = .ok (.goto (-87), 3) := by decide +kernel
theorem dX1_bringIn_108 : decode cX1_bringIn 108 = .ok (.aload_n 0, 1) := by decide +kernel
theorem dX1_bringIn_109 : decode cX1_bringIn 109 = .ok (.iload_n 1, 1) := by decide +kernel
theorem dX1_bringIn_110 : decode cX1_bringIn 110 = .ok (.iload_n 2, 1) := by decide +kernel
theorem dX1_bringIn_111 : decode cX1_bringIn 111 = .ok (.iload_n 3, 1) := by decide +kernel
theorem dX1_bringIn_112 : decode cX1_bringIn 112 = .ok (.invokevirtual 86, 3) := by decide +kernel
theorem dX1_bringIn_115 : decode cX1_bringIn 115 = .ok (.return_, 1) := by decide +kernel
theorem dX1_findChains_0 : decode cX1_findChains 0 = .ok (.aload_n 0, 1) := by decide +kernel
theorem dX1_findChains_1 : decode cX1_findChains 1 = .ok (.getfield 23, 3) := by decide +kernel
theorem dX1_findChains_4 : decode cX1_findChains 4 = .ok (.ldc2_w 81, 3) := by decide +kernel
theorem dX1_findChains_7 : decode cX1_findChains 7 = .ok (.invokestatic 32, 3) := by decide +kernel
theorem dX1_findChains_10 : decode cX1_findChains 10 = .ok (.aload_n 0, 1) := by decide +kernel
theorem dX1_findChains_11 : decode cX1_findChains 11 = .ok (.getfield 27, 3) := by decide +kernel
theorem dX1_findChains_14 : decode cX1_findChains 14 = .ok (.iconst (-1), 1) := by decide +kernel
theorem dX1_findChains_15 : decode cX1_findChains 15 = .ok (.invokestatic 38, 3) := by decide +kernel
theorem dX1_findChains_18 : decode cX1_findChains 18 = .ok (.aload_n 0, 1) := by decide +kernel
theorem dX1_findChains_19 : decode cX1_findChains 19 = .ok (.getfield 23, 3) := by decide +kernel
theorem dX1_findChains_22 : decode cX1_findChains 22 = .ok (.iload_n 1, 1) := by decide +kernel
theorem dX1_findChains_23 : decode cX1_findChains 23 = .ok (.lconst 0, 1) := by decide +kernel
theorem dX1_findChains_24 : decode cX1_findChains 24 = .ok (.lastore, 1) := by decide +kernel
theorem dX1_findChains_25 : decode cX1_findChains 25 = .ok (.iconst 1, 1) := by decide +kernel
theorem dX1_findChains_26 : decode cX1_findChains 26 = .ok (.istore_n 2, 1) := by decide +kernel
theorem dX1_findChains_27 : decode cX1_findChains 27 = .ok (.iconst 0, 1) := by decide +kernel
theorem dX1_findChains_28 : decode cX1_findChains 28 = .ok (.istore_n 3, 1) := by decide +kernel
theorem dX1_findChains_29 : decode cX1_findChains 29 = .ok (.iload_n 3, 1) := by decide +kernel
theorem dX1_findChains_30 : decode cX1_findChains 30 = .ok (.bipush 10, 2) := by decide +kernel
theorem dX1_findChains_32 : decode cX1_findChains 32 = .ok (.if_icmp .ge 63, 3) := by decide +kernel
theorem dX1_findChains_35 : decode cX1_findChains 35 = .ok (.iload_n 2, 1) := by decide +kernel
theorem dX1_findChains_36 : decode cX1_findChains 36 = .ok (.ifCond .eq 59, 3) := by decide +kernel
theorem dX1_findChains_39 : decode cX1_findChains 39 = .ok (.iconst 0, 1) := by decide +kernel
theorem dX1_findChains_40 : decode cX1_findChains 40 = .ok (.istore_n 2, 1) := by decide +kernel
theorem dX1_findChains_41 : decode cX1_findChains 41 = .ok (.iconst 0, 1) := by decide +kernel
theorem dX1_findChains_42 : decode cX1_findChains 42 = .ok (.istore 4, 2) := by decide +kernel
theorem dX1_findChains_44 : decode cX1_findChains 44 = .ok (.iload 4, 2) := by decide +kernel
theorem dX1_findChains_46 : decode cX1_findChains 46 = .ok (.iload_n 1, 1) := by decide +kernel
theorem dX1_findChains_47 : decode cX1_findChains 47 = .ok (.if_icmp .gt 42, 3) := by decide +kernel
theorem dX1_findChains_50 : decode cX1_findChains 50 = .ok (.iload 4, 2) := by decide +kernel
theorem dX1_findChains_52 : decode cX1_findChains 52 = .ok (.bipush 10, 2) := by decide +kernel
theorem dX1_findChains_54 : decode cX1_findChains 54 = .ok (.if_icmp .ge 35, 3) := by decide +kernel
theorem dX1_findChains_57 : decode cX1_findChains 57 = .ok (.aload_n 0, 1) := by decide +kernel
theorem dX1_findChains_58 : decode cX1_findChains 58 = .ok (.getfield 23, 3) := by decide +kernel
theorem dX1_findChains_61 : decode cX1_findChains 61 = .ok (.iload 4, 2) := by decide +kernel
theorem dX1_findChains_63 : decode cX1_findChains 63 = .ok (.laload, 1) := by decide +kernel
theorem dX1_findChains_64 : decode cX1_findChains 64 = .ok (.ldc2_w 81, 3) := by decide +kernel
theorem dX1_findChains_67 : decode cX1_findChains 67 = .ok (.lcmp, 1) := by decide +kernel
theorem dX1_findChains_68 : decode cX1_findChains 68 = .ok (.ifCond .eq 15, 3) := by decide +kernel
theorem dX1_findChains_71 : decode cX1_findChains 71 = .ok (.aload_n 0, 1) := by decide +kernel
theorem dX1_findChains_72 : decode cX1_findChains 72 = .ok (.iload 4, 2) := by decide +kernel
theorem dX1_findChains_74 : decode cX1_findChains 74 = .ok (.iload_n 1, 1) := by decide +kernel
theorem dX1_findChains_75 : decode cX1_findChains 75 = .ok (.invokevirtual 90, 3) := by decide +kernel
theorem dX1_findChains_78 : decode cX1_findChains 78 = .ok (.ifCond .eq 5, 3) := by decide +kernel
theorem dX1_findChains_81 : decode cX1_findChains 81 = .ok (.iconst 1, 1) := by decide +kernel
theorem dX1_findChains_82 : decode cX1_findChains 82 = .ok (.istore_n 2, 1) := by decide +kernel
theorem dX1_findChains_83 : decode cX1_findChains 83 = .ok (.iinc 4 1, 3) := by decide +kernel
theorem dX1_findChains_86 : decode cX1_findChains 86 = .ok (.goto (-42), 3) := by decide +kernel
theorem dX1_findChains_89 : decode cX1_findChains 89 = .ok (.iinc 3 1, 3) := by decide +kernel
theorem dX1_findChains_92 : decode cX1_findChains 92 = .ok (.goto (-63), 3) := by decide +kernel
theorem dX1_findChains_95 : decode cX1_findChains 95 = .ok (.return_, 1) := by decide +kernel
theorem dX1_lengthenChains_0 : decode cX1_lengthenChains 0 = .ok (.iconst 0, 1) := by decide +kernel
theorem dX1_lengthenChains_1 : decode cX1_lengthenChains 1 = .ok (.istore_n 3, 1) := by decide +kernel
theorem dX1_lengthenChains_2 : decode cX1_lengthenChains 2 = .ok (.iconst 0, 1) := by decide +kernel
theorem dX1_lengthenChains_3 : decode cX1_lengthenChains 3 = .ok (.istore 4, 2) := by decide +kernel
theorem dX1_lengthenChains_5 : decode cX1_lengthenChains 5 = .ok (.iload 4, 2) := by decide +kernel
theorem dX1_lengthenChains_7 : decode cX1_lengthenChains 7 = .ok (.iload_n 2, 1) := by decide +kernel
theorem dX1_lengthenChains_8 : decode cX1_lengthenChains 8 = .ok (.if_icmp .ge 106, 3) := by decide +kernel
theorem dX1_lengthenChains_11 : decode cX1_lengthenChains 11 = .ok (.iload 4, 2) := by decide +kernel
theorem dX1_lengthenChains_13 : decode cX1_lengthenChains 13 = .ok (.bipush 10, 2) := by decide +kernel
theorem dX1_lengthenChains_15 : decode cX1_lengthenChains 15 = .ok (.if_icmp .ge 99, 3) := by decide +kernel
theorem dX1_lengthenChains_18 : decode cX1_lengthenChains 18 = .ok (.aload_n 0, 1) := by decide +kernel
theorem dX1_lengthenChains_19 : decode cX1_lengthenChains 19 = .ok (.getfield 20, 3) := by decide +kernel
theorem dX1_lengthenChains_22 : decode cX1_lengthenChains 22 = .ok (.iload 4, 2) := by decide +kernel
theorem dX1_lengthenChains_24 : decode cX1_lengthenChains 24 = .ok (.iaload, 1) := by decide +kernel
theorem dX1_lengthenChains_25 : decode cX1_lengthenChains 25 = .ok (.istore 5, 2) := by decide +kernel
theorem dX1_lengthenChains_27 : decode cX1_lengthenChains 27 = .ok (.iload 5, 2) := by decide +kernel
theorem dX1_lengthenChains_29 : decode cX1_lengthenChains 29 = .ok (.bipush 12, 2) := by decide +kernel
theorem dX1_lengthenChains_31 : decode cX1_lengthenChains 31 = .ok (.if_icmp .eq 77, 3) := by decide +kernel
theorem dX1_lengthenChains_34 : decode cX1_lengthenChains 34 = .ok (.aload_n 0, 1) := by decide +kernel
theorem dX1_lengthenChains_35 : decode cX1_lengthenChains 35 = .ok (.iload_n 1, 1) := by decide +kernel
theorem dX1_lengthenChains_36 : decode cX1_lengthenChains 36 = .ok (.iload 5, 2) := by decide +kernel
theorem dX1_lengthenChains_38 : decode cX1_lengthenChains 38 = .ok (.invokevirtual 66, 3) := by decide +kernel
theorem dX1_lengthenChains_41 : decode cX1_lengthenChains 41 = .ok (.ldc2_w 30, 3) := by decide +kernel
theorem dX1_lengthenChains_44 : decode cX1_lengthenChains 44 = .ok (.lcmp, 1) := by decide +kernel
theorem dX1_lengthenChains_45 : decode cX1_lengthenChains 45 = .ok (.ifCond .ne 6, 3) := by decide +kernel
theorem dX1_lengthenChains_48 : decode cX1_lengthenChains 48 = .ok (.goto 60, 3) := by decide +kernel
theorem dX1_lengthenChains_51 : decode cX1_lengthenChains 51 = .ok (.aload_n 0, 1) := by decide +kernel
theorem dX1_lengthenChains_52 : decode cX1_lengthenChains 52 = .ok (.getfield 23, 3) := by decide +kernel
theorem dX1_lengthenChains_55 : decode cX1_lengthenChains 55 = .ok (.iload_n 1, 1) := by decide +kernel
theorem dX1_lengthenChains_56 : decode cX1_lengthenChains 56 = .ok (.laload, 1) := by decide +kernel
theorem dX1_lengthenChains_57 : decode cX1_lengthenChains 57 = .ok (.aload_n 0, 1) := by decide +kernel
theorem dX1_lengthenChains_58 : decode cX1_lengthenChains 58 = .ok (.iload_n 1, 1) := by decide +kernel
theorem dX1_lengthenChains_59 : decode cX1_lengthenChains 59 = .ok (.iload 5, 2) := by decide +kernel
theorem dX1_lengthenChains_61 : decode cX1_lengthenChains 61 = .ok (.invokevirtual 66, 3) := by decide +kernel
theorem dX1_lengthenChains_64 : decode cX1_lengthenChains 64 = .ok (.ladd, 1) := by decide +kernel
theorem dX1_lengthenChains_65 : decode cX1_lengthenChains 65 = .ok (.aload_n 0, 1) := by decide +kernel
theorem dX1_lengthenChains_66 : decode cX1_lengthenChains 66 = .ok (.iload 4, 2) := by decide +kernel
theorem dX1_lengthenChains_68 : decode cX1_lengthenChains 68 = .ok (.iload 5, 2) := by decide +kernel
theorem dX1_lengthenChains_70 : decode cX1_lengthenChains 70 = .ok (.invokevirtual 66, 3) := by decide +kernel
theorem dX1_lengthenChains_73 : decode cX1_lengthenChains 73 = .ok (.lsub, 1) := by decide +kernel
theorem dX1_lengthenChains_74 : decode cX1_lengthenChains 74 = .ok (.lstore 6, 2) := by decide +kernel
theorem dX1_lengthenChains_76 : decode cX1_lengthenChains 76 = .ok (.lload 6, 2) := by decide +kernel
theorem dX1_lengthenChains_78 : decode cX1_lengthenChains 78 = .ok (.aload_n 0, 1) := by decide +kernel
theorem dX1_lengthenChains_79 : decode cX1_lengthenChains 79 = .ok (.getfield 23, 3) := by decide +kernel
theorem dX1_lengthenChains_82 : decode cX1_lengthenChains 82 = .ok (.iload 4, 2) := by decide +kernel
theorem dX1_lengthenChains_84 : decode cX1_lengthenChains 84 = .ok (.laload, 1) := by decide +kernel
theorem dX1_lengthenChains_85 : decode cX1_lengthenChains 85 = .ok (.lcmp, 1) := by decide +kernel
theorem dX1_lengthenChains_86 : decode cX1_lengthenChains 86 = .ok (.ifCond .ge 22, 3) := by decide +kernel
theorem dX1_lengthenChains_89 : decode cX1_lengthenChains 89 = .ok (.aload_n 0, 1) := by decide +kernel
theorem dX1_lengthenChains_90 : decode cX1_lengthenChains 90 = .ok (.getfield 23, 3) := by decide +kernel
theorem dX1_lengthenChains_93 : decode cX1_lengthenChains 93 = .ok (.iload 4, 2) := by decide +kernel
theorem dX1_lengthenChains_95 : decode cX1_lengthenChains 95 = .ok (.lload 6, 2) := by decide +kernel
theorem dX1_lengthenChains_97 : decode cX1_lengthenChains 97 = .ok (.lastore, 1) := by decide +kernel
theorem dX1_lengthenChains_98 : decode cX1_lengthenChains 98 = .ok (.aload_n 0, 1) := by decide +kernel
theorem dX1_lengthenChains_99 : decode cX1_lengthenChains 99 = .ok (.getfield 27, 3) := by decide +kernel
theorem dX1_lengthenChains_102 : decode cX1_lengthenChains 102 = .ok (.iload 4, 2) := by decide +kernel
theorem dX1_lengthenChains_104 : decode cX1_lengthenChains 104 = .ok (.iload_n 1, 1) := by decide +kernel
theorem dX1_lengthenChains_105 : decode cX1_lengthenChains 105 = .ok (.iastore, 1) := by decide +kernel
theorem dX1_lengthenChains_106 : decode cX1_lengthenChains 106 = .ok (.iconst 1, 1) := by decide +kernel
theorem dX1_lengthenChains_107 : decode cX1_lengthenChains 107 = .ok (.istore_n 3, 1) := by decide +kernel
theorem dX1_lengthenChains_108 : decode cX1_lengthenChains 108 = .ok (.iinc 4 1, 3) := by decide +kernel
theorem dX1_lengthenChains_111 : decode cX1_lengthenChains 111 = .ok (.goto (-106), 3) := by decide +kernel
theorem dX1_lengthenChains_114 : decode cX1_lengthenChains 114 = .ok (.iload_n 3, 1) := by decide +kernel
theorem dX1_lengthenChains_115 : decode cX1_lengthenChains 115 = .ok (.ireturn, 1) := by decide +kernel
theorem dX1_cheapestEnd_0 : decode cX1_cheapestEnd 0 = .ok (.bipush 12, 2) := by decide +kernel
theorem dX1_cheapestEnd_2 : decode cX1_cheapestEnd 2 = .ok (.istore_n 2, 1) := by decide +kernel
theorem dX1_cheapestEnd_3 : decode cX1_cheapestEnd 3 = .ok (.iconst 0, 1) := by decide +kernel
theorem dX1_cheapestEnd_4 : decode cX1_cheapestEnd 4 = .ok (.istore_n 3, 1) := by decide +kernel
theorem dX1_cheapestEnd_5 : decode cX1_cheapestEnd 5 = .ok (.iload_n 3, 1) := by decide +kernel
theorem dX1_cheapestEnd_6 : decode cX1_cheapestEnd 6 = .ok (.bipush 12, 2) := by decide +kernel
theorem dX1_cheapestEnd_8 : decode cX1_cheapestEnd 8 = .ok (.if_icmp .ge 63, 3) := by decide +kernel
theorem dX1_cheapestEnd_11 : decode cX1_cheapestEnd 11 = .ok (.aload_n 0, 1) := by decide +kernel
theorem dX1_cheapestEnd_12 : decode cX1_cheapestEnd 12 = .ok (.iload_n 1, 1) := by decide +kernel
theorem dX1_cheapestEnd_13 : decode cX1_cheapestEnd 13 = .ok (.iload_n 3, 1) := by decide +kernel
theorem dX1_cheapestEnd_14 : decode cX1_cheapestEnd 14 = .ok (.invokevirtual 66, 3) := by decide +kernel
theorem dX1_cheapestEnd_17 : decode cX1_cheapestEnd 17 = .ok (.ldc2_w 30, 3) := by decide +kernel
theorem dX1_cheapestEnd_20 : decode cX1_cheapestEnd 20 = .ok (.lcmp, 1) := by decide +kernel
theorem dX1_cheapestEnd_21 : decode cX1_cheapestEnd 21 = .ok (.ifCond .eq 18, 3) := by decide +kernel
theorem dX1_cheapestEnd_24 : decode cX1_cheapestEnd 24 = .ok (.aload_n 0, 1) := by decide +kernel
theorem dX1_cheapestEnd_25 : decode cX1_cheapestEnd 25 = .ok (.getfield 45, 3) := by decide +kernel
theorem dX1_cheapestEnd_28 : decode cX1_cheapestEnd 28 = .ok (.iload_n 3, 1) := by decide +kernel
theorem dX1_cheapestEnd_29 : decode cX1_cheapestEnd 29 = .ok (.invokestatic 58, 3) := by decide +kernel
theorem dX1_cheapestEnd_32 : decode cX1_cheapestEnd 32 = .ok (.ifCond .ne 7, 3) := by decide +kernel
theorem dX1_cheapestEnd_35 : decode cX1_cheapestEnd 35 = .ok (.iconst 1, 1) := by decide +kernel
theorem dX1_cheapestEnd_36 : decode cX1_cheapestEnd 36 = .ok (.goto 4, 3) := by decide +kernel
theorem dX1_cheapestEnd_39 : decode cX1_cheapestEnd 39 = .ok (.iconst 0, 1) := by decide +kernel
theorem dX1_cheapestEnd_40 : decode cX1_cheapestEnd 40 = .ok (.istore 4, 2) := by decide +kernel
theorem dX1_cheapestEnd_42 : decode cX1_cheapestEnd 42 = .ok (.iload 4, 2) := by decide +kernel
theorem dX1_cheapestEnd_44 : decode cX1_cheapestEnd 44 = .ok (.ifCond .eq 21, 3) := by decide +kernel
theorem dX1_cheapestEnd_47 : decode cX1_cheapestEnd 47 = .ok (.aload_n 0, 1) := by decide +kernel
theorem dX1_cheapestEnd_48 : decode cX1_cheapestEnd 48 = .ok (.iload_n 1, 1) := by decide +kernel
theorem dX1_cheapestEnd_49 : decode cX1_cheapestEnd 49 = .ok (.iload_n 3, 1) := by decide +kernel
theorem dX1_cheapestEnd_50 : decode cX1_cheapestEnd 50 = .ok (.invokevirtual 66, 3) := by decide +kernel
theorem dX1_cheapestEnd_53 : decode cX1_cheapestEnd 53 = .ok (.aload_n 0, 1) := by decide +kernel
theorem dX1_cheapestEnd_54 : decode cX1_cheapestEnd 54 = .ok (.iload_n 1, 1) := by decide +kernel
theorem dX1_cheapestEnd_55 : decode cX1_cheapestEnd 55 = .ok (.iload_n 2, 1) := by decide +kernel
theorem dX1_cheapestEnd_56 : decode cX1_cheapestEnd 56 = .ok (.invokevirtual 66, 3) := by decide +kernel
theorem dX1_cheapestEnd_59 : decode cX1_cheapestEnd 59 = .ok (.lcmp, 1) := by decide +kernel
theorem dX1_cheapestEnd_60 : decode cX1_cheapestEnd 60 = .ok (.ifCond .ge 5, 3) := by decide +kernel
theorem dX1_cheapestEnd_63 : decode cX1_cheapestEnd 63 = .ok (.iload_n 3, 1) := by decide +kernel
theorem dX1_cheapestEnd_64 : decode cX1_cheapestEnd 64 = .ok (.istore_n 2, 1) := by decide +kernel
theorem dX1_cheapestEnd_65 : decode cX1_cheapestEnd 65 = .ok (.iinc 3 1, 3) := by decide +kernel
theorem dX1_cheapestEnd_68 : decode cX1_cheapestEnd 68 = .ok (.goto (-63), 3) := by decide +kernel
theorem dX1_cheapestEnd_71 : decode cX1_cheapestEnd 71 = .ok (.iload_n 2, 1) := by decide +kernel
theorem dX1_cheapestEnd_72 : decode cX1_cheapestEnd 72 = .ok (.ireturn, 1) := by decide +kernel
theorem dX1_shiftAlong_0 : decode cX1_shiftAlong 0 = .ok (.iload_n 3, 1) := by decide +kernel
theorem dX1_shiftAlong_1 : decode cX1_shiftAlong 1 = .ok (.bipush 12, 2) := by decide +kernel
theorem dX1_shiftAlong_3 : decode cX1_shiftAlong 3 = .ok (.if_icmp .eq 15, 3) := by decide +kernel
theorem dX1_shiftAlong_6 : decode cX1_shiftAlong 6 = .ok (.aload_n 0, 1) := by decide +kernel
theorem dX1_shiftAlong_7 : decode cX1_shiftAlong 7 = .ok (.dup, 1) := by decide +kernel
theorem dX1_shiftAlong_8 : decode cX1_shiftAlong 8 = .ok (.getfield 45, 3) := by decide +kernel
theorem dX1_shiftAlong_11 : decode cX1_shiftAlong 11 = .ok (.iconst 1, 1) := by decide +kernel
theorem dX1_shiftAlong_12 : decode cX1_shiftAlong 12 = .ok (.iload_n 3, 1) := by decide +kernel
theorem dX1_shiftAlong_13 : decode cX1_shiftAlong 13 = .ok (.ishl, 1) := by decide +kernel
theorem dX1_shiftAlong_14 : decode cX1_shiftAlong 14 = .ok (.ior, 1) := by decide +kernel
theorem dX1_shiftAlong_15 : decode cX1_shiftAlong 15 = .ok (.putfield 45, 3) := by decide +kernel
theorem dX1_shiftAlong_18 : decode cX1_shiftAlong 18 = .ok (.iload_n 2, 1) := by decide +kernel
theorem dX1_shiftAlong_19 : decode cX1_shiftAlong 19 = .ok (.istore 4, 2) := by decide +kernel
theorem dX1_shiftAlong_21 : decode cX1_shiftAlong 21 = .ok (.iload_n 3, 1) := by decide +kernel
theorem dX1_shiftAlong_22 : decode cX1_shiftAlong 22 = .ok (.istore 5, 2) := by decide +kernel
theorem dX1_shiftAlong_24 : decode cX1_shiftAlong 24 = .ok (.iconst 0, 1) := by decide +kernel
theorem dX1_shiftAlong_25 : decode cX1_shiftAlong 25 = .ok (.istore 6, 2) := by decide +kernel
theorem dX1_shiftAlong_27 : decode cX1_shiftAlong 27 = .ok (.iload 6, 2) := by decide +kernel
theorem dX1_shiftAlong_29 : decode cX1_shiftAlong 29 = .ok (.bipush 10, 2) := by decide +kernel
theorem dX1_shiftAlong_31 : decode cX1_shiftAlong 31 = .ok (.if_icmp .ge 58, 3) := by decide +kernel
theorem dX1_shiftAlong_34 : decode cX1_shiftAlong 34 = .ok (.iload 4, 2) := by decide +kernel
theorem dX1_shiftAlong_36 : decode cX1_shiftAlong 36 = .ok (.invokestatic 48, 3) := by decide +kernel
theorem dX1_shiftAlong_39 : decode cX1_shiftAlong 39 = .ok (.ifCond .eq 50, 3) := by decide +kernel
theorem dX1_shiftAlong_42 : decode cX1_shiftAlong 42 = .ok (.aload_n 0, 1) := by decide +kernel
theorem dX1_shiftAlong_43 : decode cX1_shiftAlong 43 = .ok (.getfield 20, 3) := by decide +kernel
theorem dX1_shiftAlong_46 : decode cX1_shiftAlong 46 = .ok (.iload 4, 2) := by decide +kernel
theorem dX1_shiftAlong_48 : decode cX1_shiftAlong 48 = .ok (.iaload, 1) := by decide +kernel
theorem dX1_shiftAlong_49 : decode cX1_shiftAlong 49 = .ok (.istore 7, 2) := by decide +kernel
theorem dX1_shiftAlong_51 : decode cX1_shiftAlong 51 = .ok (.aload_n 0, 1) := by decide +kernel
theorem dX1_shiftAlong_52 : decode cX1_shiftAlong 52 = .ok (.getfield 20, 3) := by decide +kernel
theorem dX1_shiftAlong_55 : decode cX1_shiftAlong 55 = .ok (.iload 4, 2) := by decide +kernel
theorem dX1_shiftAlong_57 : decode cX1_shiftAlong 57 = .ok (.iload 5, 2) := by decide +kernel
theorem dX1_shiftAlong_59 : decode cX1_shiftAlong 59 = .ok (.iastore, 1) := by decide +kernel
theorem dX1_shiftAlong_60 : decode cX1_shiftAlong 60 = .ok (.iload 7, 2) := by decide +kernel
theorem dX1_shiftAlong_62 : decode cX1_shiftAlong 62 = .ok (.istore 5, 2) := by decide +kernel
theorem dX1_shiftAlong_64 : decode cX1_shiftAlong 64 = .ok (.iload 4, 2) := by decide +kernel
theorem dX1_shiftAlong_66 : decode cX1_shiftAlong 66 = .ok (.iload_n 1, 1) := by decide +kernel
theorem dX1_shiftAlong_67 : decode cX1_shiftAlong 67 = .ok (.if_icmp .ne 7, 3) := by decide +kernel
theorem dX1_shiftAlong_70 : decode cX1_shiftAlong 70 = .ok (.iconst (-1), 1) := by decide +kernel
theorem dX1_shiftAlong_71 : decode cX1_shiftAlong 71 = .ok (.goto 10, 3) := by decide +kernel
theorem dX1_shiftAlong_74 : decode cX1_shiftAlong 74 = .ok (.aload_n 0, 1) := by decide +kernel
theorem dX1_shiftAlong_75 : decode cX1_shiftAlong 75 = .ok (.getfield 27, 3) := by decide +kernel
theorem dX1_shiftAlong_78 : decode cX1_shiftAlong 78 = .ok (.iload 4, 2) := by decide +kernel
theorem dX1_shiftAlong_80 : decode cX1_shiftAlong 80 = .ok (.iaload, 1) := by decide +kernel
theorem dX1_shiftAlong_81 : decode cX1_shiftAlong 81 = .ok (.istore 4, 2) := by decide +kernel
theorem dX1_shiftAlong_83 : decode cX1_shiftAlong 83 = .ok (.iinc 6 1, 3) := by decide +kernel
theorem dX1_shiftAlong_86 : decode cX1_shiftAlong 86 = .ok (.goto (-59), 3) := by decide +kernel
theorem dX1_shiftAlong_89 : decode cX1_shiftAlong 89 = .ok (.return_, 1) := by decide +kernel
theorem dX2_init_0 : decode cX2_init 0 = .ok (.aload_n 0, 1) := by decide +kernel
theorem dX2_init_1 : decode cX2_init 1 = .ok (.invokespecial 3, 3) := by decide +kernel
theorem dX2_init_4 : decode cX2_init 4 = .ok (.aload_n 0, 1) := by decide +kernel
theorem dX2_init_5 : decode cX2_init 5 = .ok (.bipush 7, 2) := by decide +kernel
theorem dX2_init_7 : decode cX2_init 7 = .ok (.newarray .int, 2) := by decide +kernel
theorem dX2_init_9 : decode cX2_init 9 = .ok (.putfield 11, 3) := by decide +kernel
theorem dX2_init_12 : decode cX2_init 12 = .ok (.aload_n 0, 1) := by decide +kernel
theorem dX2_init_13 : decode cX2_init 13 = .ok (.bipush 7, 2) := by decide +kernel
theorem dX2_init_15 : decode cX2_init 15 = .ok (.newarray .int, 2) := by decide +kernel
theorem dX2_init_17 : decode cX2_init 17 = .ok (.putfield 15, 3) := by decide +kernel
theorem dX2_init_20 : decode cX2_init 20 = .ok (.getstatic 18, 3) := by decide +kernel
theorem dX2_init_23 : decode cX2_init 23 = .ok (.iconst 0, 1) := by decide +kernel
theorem dX2_init_24 : decode cX2_init 24 = .ok (.aload_n 0, 1) := by decide +kernel
theorem dX2_init_25 : decode cX2_init 25 = .ok (.getfield 11, 3) := by decide +kernel
theorem dX2_init_28 : decode cX2_init 28 = .ok (.iconst 0, 1) := by decide +kernel
theorem dX2_init_29 : decode cX2_init 29 = .ok (.bipush 7, 2) := by decide +kernel
theorem dX2_init_31 : decode cX2_init 31 = .ok (.invokestatic 21, 3) := by decide +kernel
theorem dX2_init_34 : decode cX2_init 34 = .ok (.return_, 1) := by decide +kernel
theorem dX2_number_0 : decode cX2_number 0 = .ok (.iload_n 1, 1) := by decide +kernel
theorem dX2_number_1 : decode cX2_number 1 = .ok (.ifCond .lt 18, 3) := by decide +kernel
theorem dX2_number_4 : decode cX2_number 4 = .ok (.iload_n 1, 1) := by decide +kernel
theorem dX2_number_5 : decode cX2_number 5 = .ok (.bipush 7, 2) := by decide +kernel
theorem dX2_number_7 : decode cX2_number 7 = .ok (.if_icmp .ge 12, 3) := by decide +kernel
theorem dX2_number_10 : decode cX2_number 10 = .ok (.aload_n 0, 1) := by decide +kernel
theorem dX2_number_11 : decode cX2_number 11 = .ok (.getfield 11, 3) := by decide +kernel
theorem dX2_number_14 : decode cX2_number 14 = .ok (.iload_n 1, 1) := by decide +kernel
theorem dX2_number_15 : decode cX2_number 15 = .ok (.iaload, 1) := by decide +kernel
theorem dX2_number_16 : decode cX2_number 16 = .ok (.goto 4, 3) := by decide +kernel
theorem dX2_number_19 : decode cX2_number 19 = .ok (.iconst (-1), 1) := by decide +kernel
theorem dX2_number_20 : decode cX2_number 20 = .ok (.ireturn, 1) := by decide +kernel
theorem dX2_read_0 : decode cX2_read 0 = .ok (.getstatic 18, 3) := by decide +kernel
theorem dX2_read_3 : decode cX2_read 3 = .ok (.iconst 0, 1) := by decide +kernel
theorem dX2_read_4 : decode cX2_read 4 = .ok (.aload_n 0, 1) := by decide +kernel
theorem dX2_read_5 : decode cX2_read 5 = .ok (.getfield 15, 3) := by decide +kernel
theorem dX2_read_8 : decode cX2_read 8 = .ok (.iconst 0, 1) := by decide +kernel
theorem dX2_read_9 : decode cX2_read 9 = .ok (.bipush 7, 2) := by decide +kernel
theorem dX2_read_11 : decode cX2_read 11 = .ok (.invokestatic 21, 3) := by decide +kernel
theorem dX2_read_14 : decode cX2_read 14 = .ok (.aload_n 0, 1) := by decide +kernel
theorem dX2_read_15 : decode cX2_read 15 = .ok (.iconst 0, 1) := by decide +kernel
theorem dX2_read_16 : decode cX2_read 16 = .ok (.putfield 27, 3) := by decide +kernel
theorem dX2_read_19 : decode cX2_read 19 = .ok (.iconst 0, 1) := by decide +kernel
theorem dX2_read_20 : decode cX2_read 20 = .ok (.istore_n 3, 1) := by decide +kernel
theorem dX2_read_21 : decode cX2_read 21 = .ok (.iload_n 3, 1) := by decide +kernel
theorem dX2_read_22 : decode cX2_read 22 = .ok (.iload_n 2, 1) := by decide +kernel
theorem dX2_read_23 : decode cX2_read 23 = .ok (.if_icmp .gt 54, 3) := by decide +kernel
theorem dX2_read_26 : decode cX2_read 26 = .ok (.aload_n 0, 1) := by decide +kernel
theorem dX2_read_27 : decode cX2_read 27 = .ok (.aload_n 1, 1) := by decide +kernel
theorem dX2_read_28 : decode cX2_read 28 = .ok (.iload_n 2, 1) := by decide +kernel
theorem dX2_read_29 : decode cX2_read 29 = .ok (.invokevirtual 31, 3) := by decide +kernel
theorem dX2_read_32 : decode cX2_read 32 = .ok (.istore 4, 2) := by decide +kernel
theorem dX2_read_34 : decode cX2_read 34 = .ok (.iload 4, 2) := by decide +kernel
theorem dX2_read_36 : decode cX2_read 36 = .ok (.ifCond .eq 14, 3) := by decide +kernel
theorem dX2_read_39 : decode cX2_read 39 = .ok (.bipush 100, 2) := by decide +kernel
theorem dX2_read_41 : decode cX2_read 41 = .ok (.iload 4, 2) := by decide +kernel
theorem dX2_read_43 : decode cX2_read 43 = .ok (.imul, 1) := by decide +kernel
theorem dX2_read_44 : decode cX2_read 44 = .ok (.aload_n 0, 1) := by decide +kernel
theorem dX2_read_45 : decode cX2_read 45 = .ok (.getfield 27, 3) := by decide +kernel
theorem dX2_read_48 : decode cX2_read 48 = .ok (.iadd, 1) := by decide +kernel
theorem dX2_read_49 : decode cX2_read 49 = .ok (.ireturn, 1) := by decide +kernel
theorem dX2_read_50 : decode cX2_read 50 = .ok (.aload_n 0, 1) := by decide +kernel
theorem dX2_read_51 : decode cX2_read 51 = .ok (.getfield 27, 3) := by decide +kernel
theorem dX2_read_54 : decode cX2_read 54 = .ok (.iload_n 2, 1) := by decide +kernel
theorem dX2_read_55 : decode cX2_read 55 = .ok (.if_icmp .lt 6, 3) := by decide +kernel
theorem dX2_read_58 : decode cX2_read 58 = .ok (.goto 19, 3) := by decide +kernel
theorem dX2_read_61 : decode cX2_read 61 = .ok (.aload_n 0, 1) := by decide +kernel
theorem dX2_read_62 : decode cX2_read 62 = .ok (.dup, 1) := by decide +kernel
theorem dX2_read_63 : decode cX2_read 63 = .ok (.getfield 27, 3) := by decide +kernel
theorem dX2_read_66 : decode cX2_read 66 = .ok (.iconst 1, 1) := by decide +kernel
theorem dX2_read_67 : decode cX2_read 67 = .ok (.iadd, 1) := by decide +kernel
theorem dX2_read_68 : decode cX2_read 68 = .ok (.putfield 27, 3) := by decide +kernel
theorem dX2_read_71 : decode cX2_read 71 = .ok (.iinc 3 1, 3) := by decide +kernel
theorem dX2_read_74 : decode cX2_read 74 = .ok (.goto (-53), 3) := by decide +kernel
theorem dX2_read_77 : decode cX2_read 77 = .ok (.aload_n 0, 1) := by decide +kernel
theorem dX2_read_78 : decode cX2_read 78 = .ok (.getfield 15, 3) := by decide +kernel
theorem dX2_read_81 : decode cX2_read 81 = .ok (.iconst 0, 1) := by decide +kernel
theorem dX2_read_82 : decode cX2_read 82 = .ok (.aload_n 0, 1) := by decide +kernel
theorem dX2_read_83 : decode cX2_read 83 = .ok (.getfield 11, 3) := by decide +kernel
theorem dX2_read_86 : decode cX2_read 86 = .ok (.iconst 0, 1) := by decide +kernel
theorem dX2_read_87 : decode cX2_read 87 = .ok (.bipush 7, 2) := by decide +kernel
theorem dX2_read_89 : decode cX2_read 89 = .ok (.invokestatic 21, 3) := by decide +kernel
theorem dX2_read_92 : decode cX2_read 92 = .ok (.iconst 0, 1) := by decide +kernel
theorem dX2_read_93 : decode cX2_read 93 = .ok (.ireturn, 1) := by decide +kernel
theorem dX2_readClause_0 : decode cX2_readClause 0 = .ok (.aload_n 1, 1) := by decide +kernel
theorem dX2_readClause_1 : decode cX2_readClause 1 = .ok (.aload_n 0, 1) := by decide +kernel
theorem dX2_readClause_2 : decode cX2_readClause 2 = .ok (.getfield 27, 3) := by decide +kernel
theorem dX2_readClause_5 : decode cX2_readClause 5 = .ok (.iload_n 2, 1) := by decide +kernel
theorem dX2_readClause_6 : decode cX2_readClause 6 = .ok (.invokevirtual 35, 3) := by decide +kernel
theorem dX2_readClause_9 : decode cX2_readClause 9 = .ok (.invokestatic 41, 3) := by decide +kernel
theorem dX2_readClause_12 : decode cX2_readClause 12 = .ok (.istore_n 3, 1) := by decide +kernel
theorem dX2_readClause_13 : decode cX2_readClause 13 = .ok (.iload_n 3, 1) := by decide +kernel
theorem dX2_readClause_14 : decode cX2_readClause 14 = .ok (.iconst (-1), 1) := by decide +kernel
theorem dX2_readClause_15 : decode cX2_readClause 15 = .ok (.if_icmp .ne 5, 3) := by decide +kernel
theorem dX2_readClause_18 : decode cX2_readClause 18 = .ok (.iconst 1, 1) := by decide +kernel
theorem dX2_readClause_19 : decode cX2_readClause 19 = .ok (.ireturn, 1) := by decide +kernel
theorem dX2_readClause_20 : decode cX2_readClause 20 = .ok (.aload_n 0, 1) := by decide +kernel
theorem dX2_readClause_21 : decode cX2_readClause 21 = .ok (.dup, 1) := by decide +kernel
theorem dX2_readClause_22 : decode cX2_readClause 22 = .ok (.getfield 27, 3) := by decide +kernel
theorem dX2_readClause_25 : decode cX2_readClause 25 = .ok (.iconst 1, 1) := by decide +kernel
theorem dX2_readClause_26 : decode cX2_readClause 26 = .ok (.iadd, 1) := by decide +kernel
theorem dX2_readClause_27 : decode cX2_readClause 27 = .ok (.putfield 27, 3) := by decide +kernel
theorem dX2_readClause_30 : decode cX2_readClause 30 = .ok (.aload_n 1, 1) := by decide +kernel
theorem dX2_readClause_31 : decode cX2_readClause 31 = .ok (.aload_n 0, 1) := by decide +kernel
theorem dX2_readClause_32 : decode cX2_readClause 32 = .ok (.getfield 27, 3) := by decide +kernel
theorem dX2_readClause_35 : decode cX2_readClause 35 = .ok (.iload_n 2, 1) := by decide +kernel
theorem dX2_readClause_36 : decode cX2_readClause 36 = .ok (.invokevirtual 35, 3) := by decide +kernel
theorem dX2_readClause_39 : decode cX2_readClause 39 = .ok (.invokestatic 45, 3) := by decide +kernel
theorem dX2_readClause_42 : decode cX2_readClause 42 = .ok (.ifCond .ne 5, 3) := by decide +kernel
theorem dX2_readClause_45 : decode cX2_readClause 45 = .ok (.iconst 2, 1) := by decide +kernel
theorem dX2_readClause_46 : decode cX2_readClause 46 = .ok (.ireturn, 1) := by decide +kernel
theorem dX2_readClause_47 : decode cX2_readClause 47 = .ok (.aload_n 0, 1) := by decide +kernel
theorem dX2_readClause_48 : decode cX2_readClause 48 = .ok (.getfield 27, 3) := by decide +kernel
theorem dX2_readClause_51 : decode cX2_readClause 51 = .ok (.istore 4, 2) := by decide +kernel
theorem dX2_readClause_53 : decode cX2_readClause 53 = .ok (.aload_n 0, 1) := by decide +kernel
theorem dX2_readClause_54 : decode cX2_readClause 54 = .ok (.aload_n 1, 1) := by decide +kernel
theorem dX2_readClause_55 : decode cX2_readClause 55 = .ok (.iload_n 2, 1) := by decide +kernel
theorem dX2_readClause_56 : decode cX2_readClause 56 = .ok (.invokevirtual 49, 3) := by decide +kernel
theorem dX2_readClause_59 : decode cX2_readClause 59 = .ok (.istore 5, 2) := by decide +kernel
theorem dX2_readClause_61 : decode cX2_readClause 61 = .ok (.aload_n 1, 1) := by decide +kernel
theorem dX2_readClause_62 : decode cX2_readClause 62 = .ok (.aload_n 0, 1) := by decide +kernel
theorem dX2_readClause_63 : decode cX2_readClause 63 = .ok (.getfield 27, 3) := by decide +kernel
theorem dX2_readClause_66 : decode cX2_readClause 66 = .ok (.iload_n 2, 1) := by decide +kernel
theorem dX2_readClause_67 : decode cX2_readClause 67 = .ok (.invokevirtual 35, 3) := by decide +kernel
theorem dX2_readClause_70 : decode cX2_readClause 70 = .ok (.invokestatic 45, 3) := by decide +kernel
theorem dX2_readClause_73 : decode cX2_readClause 73 = .ok (.ifCond .eq 5, 3) := by decide +kernel
theorem dX2_readClause_76 : decode cX2_readClause 76 = .ok (.iconst 3, 1) := by decide +kernel
theorem dX2_readClause_77 : decode cX2_readClause 77 = .ok (.ireturn, 1) := by decide +kernel
theorem dX2_readClause_78 : decode cX2_readClause 78 = .ok (.iload 5, 2) := by decide +kernel
theorem dX2_readClause_80 : decode cX2_readClause 80 = .ok (.getstatic 52, 3) := by decide +kernel
theorem dX2_readClause_83 : decode cX2_readClause 83 = .ok (.iload_n 3, 1) := by decide +kernel
theorem dX2_readClause_84 : decode cX2_readClause 84 = .ok (.iaload, 1) := by decide +kernel
theorem dX2_readClause_85 : decode cX2_readClause 85 = .ok (.if_icmp .lt 13, 3) := by decide +kernel
theorem dX2_readClause_88 : decode cX2_readClause 88 = .ok (.iload 5, 2) := by decide +kernel
theorem dX2_readClause_90 : decode cX2_readClause 90 = .ok (.getstatic 55, 3) := by decide +kernel
theorem dX2_readClause_93 : decode cX2_readClause 93 = .ok (.iload_n 3, 1) := by decide +kernel
theorem dX2_readClause_94 : decode cX2_readClause 94 = .ok (.iaload, 1) := by decide +kernel
theorem dX2_readClause_95 : decode cX2_readClause 95 = .ok (.if_icmp .le 11, 3) := by decide +kernel
theorem dX2_readClause_98 : decode cX2_readClause 98 = .ok (.aload_n 0, 1) := by decide +kernel
theorem dX2_readClause_99 : decode cX2_readClause 99 = .ok (.iload 4, 2) := by decide +kernel
theorem dX2_readClause_101 : decode cX2_readClause 101 = .ok (.putfield 27, 3) := by decide +kernel
theorem dX2_readClause_104 : decode cX2_readClause 104 = .ok (.iconst 4, 1) := by decide +kernel
theorem dX2_readClause_105 : decode cX2_readClause 105 = .ok (.ireturn, 1) := by decide +kernel
theorem dX2_readClause_106 : decode cX2_readClause 106 = .ok (.aload_n 0, 1) := by decide +kernel
theorem dX2_readClause_107 : decode cX2_readClause 107 = .ok (.getfield 15, 3) := by decide +kernel
theorem dX2_readClause_110 : decode cX2_readClause 110 = .ok (.iload_n 3, 1) := by decide +kernel
theorem dX2_readClause_111 : decode cX2_readClause 111 = .ok (.iload 5, 2) := by decide +kernel
theorem dX2_readClause_113 : decode cX2_readClause 113 = .ok (.iastore, 1) := by decide +kernel
theorem dX2_readClause_114 : decode cX2_readClause 114 = .ok (.aload_n 0, 1) := by decide +kernel
theorem dX2_readClause_115 : decode cX2_readClause 115 = .ok (.getfield 27, 3) := by decide +kernel
theorem dX2_readClause_118 : decode cX2_readClause 118 = .ok (.iload_n 2, 1) := by decide +kernel
theorem dX2_readClause_119 : decode cX2_readClause 119 = .ok (.if_icmp .ge 21, 3) := by decide +kernel
theorem dX2_readClause_122 : decode cX2_readClause 122 = .ok (.aload_n 1, 1) := by decide +kernel
theorem dX2_readClause_123 : decode cX2_readClause 123 = .ok (.aload_n 0, 1) := by decide +kernel
theorem dX2_readClause_124 : decode cX2_readClause 124 = .ok (.getfield 27, 3) := by decide +kernel
theorem dX2_readClause_127 : decode cX2_readClause 127 = .ok (.iload_n 2, 1) := by decide +kernel
theorem dX2_readClause_128 : decode cX2_readClause 128 = .ok (.invokevirtual 35, 3) := by decide +kernel
theorem dX2_readClause_131 : decode cX2_readClause 131 = .ok (.bipush 59, 2) := by decide +kernel
theorem dX2_readClause_133 : decode cX2_readClause 133 = .ok (.if_icmp .eq 7, 3) := by decide +kernel
theorem dX2_readClause_136 : decode cX2_readClause 136 = .ok (.iconst 5, 1) := by decide +kernel
theorem dX2_readClause_137 : decode cX2_readClause 137 = .ok (.goto 4, 3) := by decide +kernel
theorem dX2_readClause_140 : decode cX2_readClause 140 = .ok (.iconst 0, 1) := by decide +kernel
theorem dX2_readClause_141 : decode cX2_readClause 141 = .ok (.ireturn, 1) := by decide +kernel
theorem dX2_readDigits_0 : decode cX2_readDigits 0 = .ok (.iconst 0, 1) := by decide +kernel
theorem dX2_readDigits_1 : decode cX2_readDigits 1 = .ok (.istore_n 3, 1) := by decide +kernel
theorem dX2_readDigits_2 : decode cX2_readDigits 2 = .ok (.iconst 0, 1) := by decide +kernel
theorem dX2_readDigits_3 : decode cX2_readDigits 3 = .ok (.istore 4, 2) := by decide +kernel
theorem dX2_readDigits_5 : decode cX2_readDigits 5 = .ok (.iload 4, 2) := by decide +kernel
theorem dX2_readDigits_7 : decode cX2_readDigits 7 = .ok (.iconst 4, 1) := by decide +kernel
theorem dX2_readDigits_8 : decode cX2_readDigits 8 = .ok (.if_icmp .ge 52, 3) := by decide +kernel
theorem dX2_readDigits_11 : decode cX2_readDigits 11 = .ok (.aload_n 1, 1) := by decide +kernel
theorem dX2_readDigits_12 : decode cX2_readDigits 12 = .ok (.aload_n 0, 1) := by decide +kernel
theorem dX2_readDigits_13 : decode cX2_readDigits 13 = .ok (.getfield 27, 3) := by decide +kernel
theorem dX2_readDigits_16 : decode cX2_readDigits 16 = .ok (.iload_n 2, 1) := by decide +kernel
theorem dX2_readDigits_17 : decode cX2_readDigits 17 = .ok (.invokevirtual 35, 3) := by decide +kernel
theorem dX2_readDigits_20 : decode cX2_readDigits 20 = .ok (.invokestatic 45, 3) := by decide +kernel
theorem dX2_readDigits_23 : decode cX2_readDigits 23 = .ok (.ifCond .eq 37, 3) := by decide +kernel
theorem dX2_readDigits_26 : decode cX2_readDigits 26 = .ok (.bipush 10, 2) := by decide +kernel
theorem dX2_readDigits_28 : decode cX2_readDigits 28 = .ok (.iload_n 3, 1) := by decide +kernel
theorem dX2_readDigits_29 : decode cX2_readDigits 29 = .ok (.imul, 1) := by decide +kernel
theorem dX2_readDigits_30 : decode cX2_readDigits 30 = .ok (.aload_n 1, 1) := by decide +kernel
theorem dX2_readDigits_31 : decode cX2_readDigits 31 = .ok (.aload_n 0, 1) := by decide +kernel
theorem dX2_readDigits_32 : decode cX2_readDigits 32 = .ok (.getfield 27, 3) := by decide +kernel
theorem dX2_readDigits_35 : decode cX2_readDigits 35 = .ok (.iload_n 2, 1) := by decide +kernel
theorem dX2_readDigits_36 : decode cX2_readDigits 36 = .ok (.invokevirtual 35, 3) := by decide +kernel
theorem dX2_readDigits_39 : decode cX2_readDigits 39 = .ok (.iadd, 1) := by decide +kernel
theorem dX2_readDigits_40 : decode cX2_readDigits 40 = .ok (.bipush 48, 2) := by decide +kernel
theorem dX2_readDigits_42 : decode cX2_readDigits 42 = .ok (.isub, 1) := by decide +kernel
theorem dX2_readDigits_43 : decode cX2_readDigits 43 = .ok (.istore_n 3, 1) := by decide +kernel
theorem dX2_readDigits_44 : decode cX2_readDigits 44 = .ok (.aload_n 0, 1) := by decide +kernel
theorem dX2_readDigits_45 : decode cX2_readDigits 45 = .ok (.dup, 1) := by decide +kernel
theorem dX2_readDigits_46 : decode cX2_readDigits 46 = .ok (.getfield 27, 3) := by decide +kernel
theorem dX2_readDigits_49 : decode cX2_readDigits 49 = .ok (.iconst 1, 1) := by decide +kernel
theorem dX2_readDigits_50 : decode cX2_readDigits 50 = .ok (.iadd, 1) := by decide +kernel
theorem dX2_readDigits_51 : decode cX2_readDigits 51 = .ok (.putfield 27, 3) := by decide +kernel
theorem dX2_readDigits_54 : decode cX2_readDigits 54 = .ok (.iinc 4 1, 3) := by decide +kernel
theorem dX2_readDigits_57 : decode cX2_readDigits 57 = .ok (.goto (-52), 3) := by decide +kernel
theorem dX2_readDigits_60 : decode cX2_readDigits 60 = .ok (.iload_n 3, 1) := by decide +kernel
theorem dX2_readDigits_61 : decode cX2_readDigits 61 = .ok (.ireturn, 1) := by decide +kernel
theorem dX2_isDigit_0 : decode cX2_isDigit 0 = .ok (.iload_n 0, 1) := by decide +kernel
theorem dX2_isDigit_1 : decode cX2_isDigit 1 = .ok (.bipush 48, 2) := by decide +kernel
theorem dX2_isDigit_3 : decode cX2_isDigit 3 = .ok (.if_icmp .lt 13, 3) := by decide +kernel
theorem dX2_isDigit_6 : decode cX2_isDigit 6 = .ok (.iload_n 0, 1) := by decide +kernel
theorem dX2_isDigit_7 : decode cX2_isDigit 7 = .ok (.bipush 57, 2) := by decide +kernel
theorem dX2_isDigit_9 : decode cX2_isDigit 9 = .ok (.if_icmp .gt 7, 3) := by decide +kernel
theorem dX2_isDigit_12 : decode cX2_isDigit 12 = .ok (.iconst 1, 1) := by decide +kernel
theorem dX2_isDigit_13 : decode cX2_isDigit 13 = .ok (.goto 4, 3) := by decide +kernel
theorem dX2_isDigit_16 : decode cX2_isDigit 16 = .ok (.iconst 0, 1) := by decide +kernel
theorem dX2_isDigit_17 : decode cX2_isDigit 17 = .ok (.ireturn, 1) := by decide +kernel
theorem dX2_kindOf_0 : decode cX2_kindOf 0 = .ok (.iconst 0, 1) := by decide +kernel
theorem dX2_kindOf_1 : decode cX2_kindOf 1 = .ok (.istore_n 1, 1) := by decide +kernel
theorem dX2_kindOf_2 : decode cX2_kindOf 2 = .ok (.iload_n 1, 1) := by decide +kernel
theorem dX2_kindOf_3 : decode cX2_kindOf 3 = .ok (.bipush 7, 2) := by decide +kernel
theorem dX2_kindOf_5 : decode cX2_kindOf 5 = .ok (.if_icmp .ge 20, 3) := by decide +kernel
theorem dX2_kindOf_8 : decode cX2_kindOf 8 = .ok (.getstatic 58, 3) := by decide +kernel
theorem dX2_kindOf_11 : decode cX2_kindOf 11 = .ok (.iload_n 1, 1) := by decide +kernel
theorem dX2_kindOf_12 : decode cX2_kindOf 12 = .ok (.caload, 1) := by decide +kernel
theorem dX2_kindOf_13 : decode cX2_kindOf 13 = .ok (.iload_n 0, 1) := by decide +kernel
theorem dX2_kindOf_14 : decode cX2_kindOf 14 = .ok (.if_icmp .ne 5, 3) := by decide +kernel
theorem dX2_kindOf_17 : decode cX2_kindOf 17 = .ok (.iload_n 1, 1) := by decide +kernel
theorem dX2_kindOf_18 : decode cX2_kindOf 18 = .ok (.ireturn, 1) := by decide +kernel
theorem dX2_kindOf_19 : decode cX2_kindOf 19 = .ok (.iinc 1 1, 3) := by decide +kernel
theorem dX2_kindOf_22 : decode cX2_kindOf 22 = .ok (.goto (-20), 3) := by decide +kernel
theorem dX2_kindOf_25 : decode cX2_kindOf 25 = .ok (.iconst (-1), 1) := by decide +kernel
theorem dX2_kindOf_26 : decode cX2_kindOf 26 = .ok (.ireturn, 1) := by decide +kernel
