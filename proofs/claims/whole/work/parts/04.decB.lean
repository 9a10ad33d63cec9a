theorem dX3_init_0 : decode cX3_init 0 = .ok (.aload_n 0, 1) := by decide +kernel
theorem dX3_init_1 : decode cX3_init 1 = .ok (.invokespecial 3, 3) := by decide +kernel
theorem dX3_init_4 : decode cX3_init 4 = .ok (.aload_n 0, 1) := by decide +kernel
theorem dX3_init_5 : decode cX3_init 5 = .ok (.bipush 60, 2) := by decide +kernel
theorem dX3_init_7 : decode cX3_init 7 = .ok (.newarray .byte, 2) := by decide +kernel
theorem dX3_init_9 : decode cX3_init 9 = .ok (.putfield 11, 3) := by decide +kernel
theorem dX3_init_12 : decode cX3_init 12 = .ok (.return_, 1) := by decide +kernel
theorem dX3_hasRoom_0 : decode cX3_hasRoom 0 = .ok (.aload_n 0, 1) := by decide +kernel
theorem dX3_hasRoom_1 : decode cX3_hasRoom 1 = .ok (.getfield 15, 3) := by decide +kernel
theorem dX3_hasRoom_4 : decode cX3_hasRoom 4 = .ok (.bipush 20, 2) := by decide +kernel
theorem dX3_hasRoom_6 : decode cX3_hasRoom 6 = .ok (.iadd, 1) := by decide +kernel
theorem dX3_hasRoom_7 : decode cX3_hasRoom 7 = .ok (.bipush 60, 2) := by decide +kernel
theorem dX3_hasRoom_9 : decode cX3_hasRoom 9 = .ok (.if_icmp .gt 7, 3) := by decide +kernel
theorem dX3_hasRoom_12 : decode cX3_hasRoom 12 = .ok (.iconst 1, 1) := by decide +kernel
theorem dX3_hasRoom_13 : decode cX3_hasRoom 13 = .ok (.goto 4, 3) := by decide +kernel
theorem dX3_hasRoom_16 : decode cX3_hasRoom 16 = .ok (.iconst 0, 1) := by decide +kernel
theorem dX3_hasRoom_17 : decode cX3_hasRoom 17 = .ok (.ireturn, 1) := by decide +kernel
theorem dX3_append_0 : decode cX3_append 0 = .ok (.bipush 24, 2) := by decide +kernel
theorem dX3_append_2 : decode cX3_append 2 = .ok (.istore_n 2, 1) := by decide +kernel
theorem dX3_append_3 : decode cX3_append 3 = .ok (.iload_n 2, 1) := by decide +kernel
theorem dX3_append_4 : decode cX3_append 4 = .ok (.ifCond .lt 41, 3) := by decide +kernel
theorem dX3_append_7 : decode cX3_append 7 = .ok (.aload_n 0, 1) := by decide +kernel
theorem dX3_append_8 : decode cX3_append 8 = .ok (.getfield 15, 3) := by decide +kernel
theorem dX3_append_11 : decode cX3_append 11 = .ok (.bipush 60, 2) := by decide +kernel
theorem dX3_append_13 : decode cX3_append 13 = .ok (.if_icmp .ge 32, 3) := by decide +kernel
theorem dX3_append_16 : decode cX3_append 16 = .ok (.aload_n 0, 1) := by decide +kernel
theorem dX3_append_17 : decode cX3_append 17 = .ok (.getfield 11, 3) := by decide +kernel
theorem dX3_append_20 : decode cX3_append 20 = .ok (.aload_n 0, 1) := by decide +kernel
theorem dX3_append_21 : decode cX3_append 21 = .ok (.getfield 15, 3) := by decide +kernel
theorem dX3_append_24 : decode cX3_append 24 = .ok (.iload_n 1, 1) := by decide +kernel
theorem dX3_append_25 : decode cX3_append 25 = .ok (.iload_n 2, 1) := by decide +kernel
theorem dX3_append_26 : decode cX3_append 26 = .ok (.ishr, 1) := by decide +kernel
theorem dX3_append_27 : decode cX3_append 27 = .ok (.i2b, 1) := by decide +kernel
theorem dX3_append_28 : decode cX3_append 28 = .ok (.bastore, 1) := by decide +kernel
theorem dX3_append_29 : decode cX3_append 29 = .ok (.aload_n 0, 1) := by decide +kernel
theorem dX3_append_30 : decode cX3_append 30 = .ok (.dup, 1) := by decide +kernel
theorem dX3_append_31 : decode cX3_append 31 = .ok (.getfield 15, 3) := by decide +kernel
theorem dX3_append_34 : decode cX3_append 34 = .ok (.iconst 1, 1) := by decide +kernel
theorem dX3_append_35 : decode cX3_append 35 = .ok (.iadd, 1) := by decide +kernel
theorem dX3_append_36 : decode cX3_append 36 = .ok (.putfield 15, 3) := by decide +kernel
theorem dX3_append_39 : decode cX3_append 39 = .ok (.iinc 2 (-8), 3) := by decide +kernel
theorem dX3_append_42 : decode cX3_append 42 = .ok (.goto (-39), 3) := by decide +kernel
theorem dX3_append_45 : decode cX3_append 45 = .ok (.return_, 1) := by decide +kernel
theorem dX3_signAt_0 : decode cX3_signAt 0 = .ok (.iload_n 1, 1) := by decide +kernel
theorem dX3_signAt_1 : decode cX3_signAt 1 = .ok (.ifCond .lt 27, 3) := by decide +kernel
theorem dX3_signAt_4 : decode cX3_signAt 4 = .ok (.iload_n 1, 1) := by decide +kernel
theorem dX3_signAt_5 : decode cX3_signAt 5 = .ok (.iload_n 2, 1) := by decide +kernel
theorem dX3_signAt_6 : decode cX3_signAt 6 = .ok (.if_icmp .ge 22, 3) := by decide +kernel
theorem dX3_signAt_9 : decode cX3_signAt 9 = .ok (.iload_n 1, 1) := by decide +kernel
theorem dX3_signAt_10 : decode cX3_signAt 10 = .ok (.bipush 60, 2) := by decide +kernel
theorem dX3_signAt_12 : decode cX3_signAt 12 = .ok (.if_icmp .ge 16, 3) := by decide +kernel
theorem dX3_signAt_15 : decode cX3_signAt 15 = .ok (.aload_n 0, 1) := by decide +kernel
theorem dX3_signAt_16 : decode cX3_signAt 16 = .ok (.getfield 11, 3) := by decide +kernel
theorem dX3_signAt_19 : decode cX3_signAt 19 = .ok (.iload_n 1, 1) := by decide +kernel
theorem dX3_signAt_20 : decode cX3_signAt 20 = .ok (.baload, 1) := by decide +kernel
theorem dX3_signAt_21 : decode cX3_signAt 21 = .ok (.sipush 255, 3) := by decide +kernel
theorem dX3_signAt_24 : decode cX3_signAt 24 = .ok (.iand, 1) := by decide +kernel
theorem dX3_signAt_25 : decode cX3_signAt 25 = .ok (.goto 4, 3) := by decide +kernel
theorem dX3_signAt_28 : decode cX3_signAt 28 = .ok (.iconst (-1), 1) := by decide +kernel
theorem dX3_signAt_29 : decode cX3_signAt 29 = .ok (.ireturn, 1) := by decide +kernel
theorem dX4_init_0 : decode cX4_init 0 = .ok (.aload_n 0, 1) := by decide +kernel
theorem dX4_init_1 : decode cX4_init 1 = .ok (.invokespecial 3, 3) := by decide +kernel
theorem dX4_init_4 : decode cX4_init 4 = .ok (.aload_n 0, 1) := by decide +kernel
theorem dX4_init_5 : decode cX4_init 5 = .ok (.bipush 6, 2) := by decide +kernel
theorem dX4_init_7 : decode cX4_init 7 = .ok (.newarray .int, 2) := by decide +kernel
theorem dX4_init_9 : decode cX4_init 9 = .ok (.putfield 9, 3) := by decide +kernel
theorem dX4_init_12 : decode cX4_init 12 = .ok (.aload_n 0, 1) := by decide +kernel
theorem dX4_init_13 : decode cX4_init 13 = .ok (.iload_n 1, 1) := by decide +kernel
theorem dX4_init_14 : decode cX4_init 14 = .ok (.putfield 15, 3) := by decide +kernel
theorem dX4_init_17 : decode cX4_init 17 = .ok (.aload_n 0, 1) := by decide +kernel
theorem dX4_init_18 : decode cX4_init 18 = .ok (.iload_n 2, 1) := by decide +kernel
theorem dX4_init_19 : decode cX4_init 19 = .ok (.putfield 19, 3) := by decide +kernel
theorem dX4_init_22 : decode cX4_init 22 = .ok (.aload_n 0, 1) := by decide +kernel
theorem dX4_init_23 : decode cX4_init 23 = .ok (.iload_n 3, 1) := by decide +kernel
theorem dX4_init_24 : decode cX4_init 24 = .ok (.putfield 22, 3) := by decide +kernel
theorem dX4_init_27 : decode cX4_init 27 = .ok (.aload_n 0, 1) := by decide +kernel
theorem dX4_init_28 : decode cX4_init 28 = .ok (.getfield 9, 3) := by decide +kernel
theorem dX4_init_31 : decode cX4_init 31 = .ok (.bipush 30, 2) := by decide +kernel
theorem dX4_init_33 : decode cX4_init 33 = .ok (.invokestatic 25, 3) := by decide +kernel
theorem dX4_init_36 : decode cX4_init 36 = .ok (.aload_n 0, 1) := by decide +kernel
theorem dX4_init_37 : decode cX4_init 37 = .ok (.invokevirtual 31, 3) := by decide +kernel
theorem dX4_init_40 : decode cX4_init 40 = .ok (.return_, 1) := by decide +kernel
theorem dX4_startDay_0 : decode cX4_startDay 0 = .ok (.aload_n 0, 1) := by decide +kernel
theorem dX4_startDay_1 : decode cX4_startDay 1 = .ok (.iconst 0, 1) := by decide +kernel
theorem dX4_startDay_2 : decode cX4_startDay 2 = .ok (.putfield 34, 3) := by decide +kernel
theorem dX4_startDay_5 : decode cX4_startDay 5 = .ok (.aload_n 0, 1) := by decide +kernel
theorem dX4_startDay_6 : decode cX4_startDay 6 = .ok (.iconst (-1), 1) := by decide +kernel
theorem dX4_startDay_7 : decode cX4_startDay 7 = .ok (.putfield 37, 3) := by decide +kernel
theorem dX4_startDay_10 : decode cX4_startDay 10 = .ok (.aload_n 0, 1) := by decide +kernel
theorem dX4_startDay_11 : decode cX4_startDay 11 = .ok (.iconst 0, 1) := by decide +kernel
theorem dX4_startDay_12 : decode cX4_startDay 12 = .ok (.putfield 40, 3) := by decide +kernel
theorem dX4_startDay_15 : decode cX4_startDay 15 = .ok (.return_, 1) := by decide +kernel
theorem dX4_minutesTo_0 : decode cX4_minutesTo 0 = .ok (.iload_n 1, 1) := by decide +kernel
theorem dX4_minutesTo_1 : decode cX4_minutesTo 1 = .ok (.ifCond .lt 18, 3) := by decide +kernel
theorem dX4_minutesTo_4 : decode cX4_minutesTo 4 = .ok (.iload_n 1, 1) := by decide +kernel
theorem dX4_minutesTo_5 : decode cX4_minutesTo 5 = .ok (.bipush 6, 2) := by decide +kernel
theorem dX4_minutesTo_7 : decode cX4_minutesTo 7 = .ok (.if_icmp .ge 12, 3) := by decide +kernel
theorem dX4_minutesTo_10 : decode cX4_minutesTo 10 = .ok (.aload_n 0, 1) := by decide +kernel
theorem dX4_minutesTo_11 : decode cX4_minutesTo 11 = .ok (.getfield 9, 3) := by decide +kernel
theorem dX4_minutesTo_14 : decode cX4_minutesTo 14 = .ok (.iload_n 1, 1) := by decide +kernel
theorem dX4_minutesTo_15 : decode cX4_minutesTo 15 = .ok (.iaload, 1) := by decide +kernel
theorem dX4_minutesTo_16 : decode cX4_minutesTo 16 = .ok (.goto 4, 3) := by decide +kernel
theorem dX4_minutesTo_19 : decode cX4_minutesTo 19 = .ok (.iconst (-1), 1) := by decide +kernel
theorem dX4_minutesTo_20 : decode cX4_minutesTo 20 = .ok (.ireturn, 1) := by decide +kernel
theorem dX4_fills_0 : decode cX4_fills 0 = .ok (.aload_n 0, 1) := by decide +kernel
theorem dX4_fills_1 : decode cX4_fills 1 = .ok (.getfield 19, 3) := by decide +kernel
theorem dX4_fills_4 : decode cX4_fills 4 = .ok (.aload_n 1, 1) := by decide +kernel
theorem dX4_fills_5 : decode cX4_fills 5 = .ok (.getfield 43, 3) := by decide +kernel
theorem dX4_fills_8 : decode cX4_fills 8 = .ok (.invokestatic 48, 3) := by decide +kernel
theorem dX4_fills_11 : decode cX4_fills 11 = .ok (.ifCond .eq 45, 3) := by decide +kernel
theorem dX4_fills_14 : decode cX4_fills 14 = .ok (.aload_n 0, 1) := by decide +kernel
theorem dX4_fills_15 : decode cX4_fills 15 = .ok (.getfield 52, 3) := by decide +kernel
theorem dX4_fills_18 : decode cX4_fills 18 = .ok (.aload_n 1, 1) := by decide +kernel
theorem dX4_fills_19 : decode cX4_fills 19 = .ok (.getfield 55, 3) := by decide +kernel
theorem dX4_fills_22 : decode cX4_fills 22 = .ok (.invokestatic 48, 3) := by decide +kernel
theorem dX4_fills_25 : decode cX4_fills 25 = .ok (.ifCond .ne 31, 3) := by decide +kernel
theorem dX4_fills_28 : decode cX4_fills 28 = .ok (.aload_n 0, 1) := by decide +kernel
theorem dX4_fills_29 : decode cX4_fills 29 = .ok (.aload_n 1, 1) := by decide +kernel
theorem dX4_fills_30 : decode cX4_fills 30 = .ok (.getfield 55, 3) := by decide +kernel
theorem dX4_fills_33 : decode cX4_fills 33 = .ok (.invokevirtual 58, 3) := by decide +kernel
theorem dX4_fills_36 : decode cX4_fills 36 = .ok (.aload_n 2, 1) := by decide +kernel
theorem dX4_fills_37 : decode cX4_fills 37 = .ok (.iconst 0, 1) := by decide +kernel
theorem dX4_fills_38 : decode cX4_fills 38 = .ok (.invokevirtual 64, 3) := by decide +kernel
theorem dX4_fills_41 : decode cX4_fills 41 = .ok (.if_icmp .gt 15, 3) := by decide +kernel
theorem dX4_fills_44 : decode cX4_fills 44 = .ok (.aload_n 0, 1) := by decide +kernel
theorem dX4_fills_45 : decode cX4_fills 45 = .ok (.getfield 22, 3) := by decide +kernel
theorem dX4_fills_48 : decode cX4_fills 48 = .ok (.iload_n 3, 1) := by decide +kernel
theorem dX4_fills_49 : decode cX4_fills 49 = .ok (.if_icmp .lt 7, 3) := by decide +kernel
theorem dX4_fills_52 : decode cX4_fills 52 = .ok (.iconst 1, 1) := by decide +kernel
theorem dX4_fills_53 : decode cX4_fills 53 = .ok (.goto 4, 3) := by decide +kernel
theorem dX4_fills_56 : decode cX4_fills 56 = .ok (.iconst 0, 1) := by decide +kernel
theorem dX4_fills_57 : decode cX4_fills 57 = .ok (.ireturn, 1) := by decide +kernel
theorem dX4_costFor_0 : decode cX4_costFor 0 = .ok (.aload_n 0, 1) := by decide +kernel
theorem dX4_costFor_1 : decode cX4_costFor 1 = .ok (.aload_n 1, 1) := by decide +kernel
theorem dX4_costFor_2 : decode cX4_costFor 2 = .ok (.getfield 55, 3) := by decide +kernel
theorem dX4_costFor_5 : decode cX4_costFor 5 = .ok (.invokevirtual 58, 3) := by decide +kernel
theorem dX4_costFor_8 : decode cX4_costFor 8 = .ok (.aload_n 0, 1) := by decide +kernel
theorem dX4_costFor_9 : decode cX4_costFor 9 = .ok (.getfield 67, 3) := by decide +kernel
theorem dX4_costFor_12 : decode cX4_costFor 12 = .ok (.aload_n 2, 1) := by decide +kernel
theorem dX4_costFor_13 : decode cX4_costFor 13 = .ok (.iconst 2, 1) := by decide +kernel
theorem dX4_costFor_14 : decode cX4_costFor 14 = .ok (.invokevirtual 64, 3) := by decide +kernel
theorem dX4_costFor_17 : decode cX4_costFor 17 = .ok (.imul, 1) := by decide +kernel
theorem dX4_costFor_18 : decode cX4_costFor 18 = .ok (.iadd, 1) := by decide +kernel
theorem dX4_costFor_19 : decode cX4_costFor 19 = .ok (.istore_n 3, 1) := by decide +kernel
theorem dX4_costFor_20 : decode cX4_costFor 20 = .ok (.aload_n 0, 1) := by decide +kernel
theorem dX4_costFor_21 : decode cX4_costFor 21 = .ok (.getfield 15, 3) := by decide +kernel
theorem dX4_costFor_24 : decode cX4_costFor 24 = .ok (.aload_n 1, 1) := by decide +kernel
theorem dX4_costFor_25 : decode cX4_costFor 25 = .ok (.getfield 70, 3) := by decide +kernel
theorem dX4_costFor_28 : decode cX4_costFor 28 = .ok (.invokestatic 48, 3) := by decide +kernel
theorem dX4_costFor_31 : decode cX4_costFor 31 = .ok (.ifCond .ne 11, 3) := by decide +kernel
theorem dX4_costFor_34 : decode cX4_costFor 34 = .ok (.iload_n 3, 1) := by decide +kernel
theorem dX4_costFor_35 : decode cX4_costFor 35 = .ok (.aload_n 2, 1) := by decide +kernel
theorem dX4_costFor_36 : decode cX4_costFor 36 = .ok (.iconst 1, 1) := by decide +kernel
theorem dX4_costFor_37 : decode cX4_costFor 37 = .ok (.invokevirtual 64, 3) := by decide +kernel
theorem dX4_costFor_40 : decode cX4_costFor 40 = .ok (.iadd, 1) := by decide +kernel
theorem dX4_costFor_41 : decode cX4_costFor 41 = .ok (.istore_n 3, 1) := by decide +kernel
theorem dX4_costFor_42 : decode cX4_costFor 42 = .ok (.aload_n 0, 1) := by decide +kernel
theorem dX4_costFor_43 : decode cX4_costFor 43 = .ok (.getfield 73, 3) := by decide +kernel
theorem dX4_costFor_46 : decode cX4_costFor 46 = .ok (.aload_n 1, 1) := by decide +kernel
theorem dX4_costFor_47 : decode cX4_costFor 47 = .ok (.getfield 55, 3) := by decide +kernel
theorem dX4_costFor_50 : decode cX4_costFor 50 = .ok (.invokestatic 48, 3) := by decide +kernel
theorem dX4_costFor_53 : decode cX4_costFor 53 = .ok (.ifCond .eq 11, 3) := by decide +kernel
theorem dX4_costFor_56 : decode cX4_costFor 56 = .ok (.iload_n 3, 1) := by decide +kernel
theorem dX4_costFor_57 : decode cX4_costFor 57 = .ok (.aload_n 2, 1) := by decide +kernel
theorem dX4_costFor_58 : decode cX4_costFor 58 = .ok (.iconst 3, 1) := by decide +kernel
theorem dX4_costFor_59 : decode cX4_costFor 59 = .ok (.invokevirtual 64, 3) := by decide +kernel
theorem dX4_costFor_62 : decode cX4_costFor 62 = .ok (.isub, 1) := by decide +kernel
theorem dX4_costFor_63 : decode cX4_costFor 63 = .ok (.istore_n 3, 1) := by decide +kernel
theorem dX4_costFor_64 : decode cX4_costFor 64 = .ok (.iload_n 3, 1) := by decide +kernel
theorem dX4_costFor_65 : decode cX4_costFor 65 = .ok (.iconst 0, 1) := by decide +kernel
theorem dX4_costFor_66 : decode cX4_costFor 66 = .ok (.invokestatic 76, 3) := by decide +kernel
theorem dX4_costFor_69 : decode cX4_costFor 69 = .ok (.ireturn, 1) := by decide +kernel
theorem dX4_takeAnswer_0 : decode cX4_takeAnswer 0 = .ok (.iload_n 1, 1) := by decide +kernel
theorem dX4_takeAnswer_1 : decode cX4_takeAnswer 1 = .ok (.ifCond .ne 14, 3) := by decide +kernel
theorem dX4_takeAnswer_4 : decode cX4_takeAnswer 4 = .ok (.aload_n 0, 1) := by decide +kernel
theorem dX4_takeAnswer_5 : decode cX4_takeAnswer 5 = .ok (.iconst 1, 1) := by decide +kernel
theorem dX4_takeAnswer_6 : decode cX4_takeAnswer 6 = .ok (.putfield 34, 3) := by decide +kernel
theorem dX4_takeAnswer_9 : decode cX4_takeAnswer 9 = .ok (.aload_n 0, 1) := by decide +kernel
theorem dX4_takeAnswer_10 : decode cX4_takeAnswer 10 = .ok (.iload_n 2, 1) := by decide +kernel
theorem dX4_takeAnswer_11 : decode cX4_takeAnswer 11 = .ok (.putfield 37, 3) := by decide +kernel
theorem dX4_takeAnswer_14 : decode cX4_takeAnswer 14 = .ok (.return_, 1) := by decide +kernel
theorem dX4_takeAnswer_15 : decode cX4_takeAnswer 15 = .ok (.iload_n 1, 1) := by decide +kernel
theorem dX4_takeAnswer_16 : decode cX4_takeAnswer 16 = .ok (.iconst 2, 1) := by decide +kernel
theorem dX4_takeAnswer_17 : decode cX4_takeAnswer 17 = .ok (.if_icmp .ne 13, 3) := by decide +kernel
theorem dX4_takeAnswer_20 : decode cX4_takeAnswer 20 = .ok (.aload_n 0, 1) := by decide +kernel
theorem dX4_takeAnswer_21 : decode cX4_takeAnswer 21 = .ok (.dup, 1) := by decide +kernel
theorem dX4_takeAnswer_22 : decode cX4_takeAnswer 22 = .ok (.getfield 40, 3) := by decide +kernel
theorem dX4_takeAnswer_25 : decode cX4_takeAnswer 25 = .ok (.iconst 1, 1) := by decide +kernel
theorem dX4_takeAnswer_26 : decode cX4_takeAnswer 26 = .ok (.iadd, 1) := by decide +kernel
theorem dX4_takeAnswer_27 : decode cX4_takeAnswer 27 = .ok (.putfield 40, 3) := by decide +kernel
theorem dX4_takeAnswer_30 : decode cX4_takeAnswer 30 = .ok (.iload_n 1, 1) := by decide +kernel
theorem dX4_takeAnswer_31 : decode cX4_takeAnswer 31 = .ok (.iconst 1, 1) := by decide +kernel
theorem dX4_takeAnswer_32 : decode cX4_takeAnswer 32 = .ok (.if_icmp .eq 11, 3) := by decide +kernel
theorem dX4_takeAnswer_35 : decode cX4_takeAnswer 35 = .ok (.aload_n 0, 1) := by decide +kernel
theorem dX4_takeAnswer_36 : decode cX4_takeAnswer 36 = .ok (.getfield 40, 3) := by decide +kernel
theorem dX4_takeAnswer_39 : decode cX4_takeAnswer 39 = .ok (.iload_n 3, 1) := by decide +kernel
theorem dX4_takeAnswer_40 : decode cX4_takeAnswer 40 = .ok (.if_icmp .lt 8, 3) := by decide +kernel
theorem dX4_takeAnswer_43 : decode cX4_takeAnswer 43 = .ok (.aload_n 0, 1) := by decide +kernel
theorem dX4_takeAnswer_44 : decode cX4_takeAnswer 44 = .ok (.iconst 2, 1) := by decide +kernel
theorem dX4_takeAnswer_45 : decode cX4_takeAnswer 45 = .ok (.putfield 34, 3) := by decide +kernel
theorem dX4_takeAnswer_48 : decode cX4_takeAnswer 48 = .ok (.return_, 1) := by decide +kernel
theorem dX4_workAt_0 : decode cX4_workAt 0 = .ok (.aload_n 2, 1) := by decide +kernel
theorem dX4_workAt_1 : decode cX4_workAt 1 = .ok (.iconst 4, 1) := by decide +kernel
theorem dX4_workAt_2 : decode cX4_workAt 2 = .ok (.invokevirtual 64, 3) := by decide +kernel
theorem dX4_workAt_5 : decode cX4_workAt 5 = .ok (.istore_n 3, 1) := by decide +kernel
theorem dX4_workAt_6 : decode cX4_workAt 6 = .ok (.aload_n 0, 1) := by decide +kernel
theorem dX4_workAt_7 : decode cX4_workAt 7 = .ok (.getfield 15, 3) := by decide +kernel
theorem dX4_workAt_10 : decode cX4_workAt 10 = .ok (.aload_n 1, 1) := by decide +kernel
theorem dX4_workAt_11 : decode cX4_workAt 11 = .ok (.getfield 70, 3) := by decide +kernel
theorem dX4_workAt_14 : decode cX4_workAt 14 = .ok (.invokestatic 48, 3) := by decide +kernel
theorem dX4_workAt_17 : decode cX4_workAt 17 = .ok (.ifCond .eq 11, 3) := by decide +kernel
theorem dX4_workAt_20 : decode cX4_workAt 20 = .ok (.iload_n 3, 1) := by decide +kernel
theorem dX4_workAt_21 : decode cX4_workAt 21 = .ok (.aload_n 2, 1) := by decide +kernel
theorem dX4_workAt_22 : decode cX4_workAt 22 = .ok (.iconst 5, 1) := by decide +kernel
theorem dX4_workAt_23 : decode cX4_workAt 23 = .ok (.invokevirtual 64, 3) := by decide +kernel
theorem dX4_workAt_26 : decode cX4_workAt 26 = .ok (.iadd, 1) := by decide +kernel
theorem dX4_workAt_27 : decode cX4_workAt 27 = .ok (.istore_n 3, 1) := by decide +kernel
theorem dX4_workAt_28 : decode cX4_workAt 28 = .ok (.aload_n 0, 1) := by decide +kernel
theorem dX4_workAt_29 : decode cX4_workAt 29 = .ok (.dup, 1) := by decide +kernel
theorem dX4_workAt_30 : decode cX4_workAt 30 = .ok (.getfield 67, 3) := by decide +kernel
theorem dX4_workAt_33 : decode cX4_workAt 33 = .ok (.iconst 1, 1) := by decide +kernel
theorem dX4_workAt_34 : decode cX4_workAt 34 = .ok (.iadd, 1) := by decide +kernel
theorem dX4_workAt_35 : decode cX4_workAt 35 = .ok (.putfield 67, 3) := by decide +kernel
theorem dX4_workAt_38 : decode cX4_workAt 38 = .ok (.aload_n 0, 1) := by decide +kernel
theorem dX4_workAt_39 : decode cX4_workAt 39 = .ok (.dup, 1) := by decide +kernel
theorem dX4_workAt_40 : decode cX4_workAt 40 = .ok (.getfield 82, 3) := by decide +kernel
theorem dX4_workAt_43 : decode cX4_workAt 43 = .ok (.iload_n 3, 1) := by decide +kernel
theorem dX4_workAt_44 : decode cX4_workAt 44 = .ok (.i2l, 1) := by decide +kernel
theorem dX4_workAt_45 : decode cX4_workAt 45 = .ok (.aload_n 1, 1) := by decide +kernel
theorem dX4_workAt_46 : decode cX4_workAt 46 = .ok (.getfield 86, 3) := by decide +kernel
theorem dX4_workAt_49 : decode cX4_workAt 49 = .ok (.i2l, 1) := by decide +kernel
theorem dX4_workAt_50 : decode cX4_workAt 50 = .ok (.lmul, 1) := by decide +kernel
theorem dX4_workAt_51 : decode cX4_workAt 51 = .ok (.ladd, 1) := by decide +kernel
theorem dX4_workAt_52 : decode cX4_workAt 52 = .ok (.putfield 82, 3) := by decide +kernel
theorem dX4_workAt_55 : decode cX4_workAt 55 = .ok (.return_, 1) := by decide +kernel
theorem dX5_init_0 : decode cX5_init 0 = .ok (.aload_n 0, 1) := by decide +kernel
theorem dX5_init_1 : decode cX5_init 1 = .ok (.invokespecial 3, 3) := by decide +kernel
theorem dX5_init_4 : decode cX5_init 4 = .ok (.aload_n 0, 1) := by decide +kernel
theorem dX5_init_5 : decode cX5_init 5 = .ok (.sipush 400, 3) := by decide +kernel
theorem dX5_init_8 : decode cX5_init 8 = .ok (.newarray .byte, 2) := by decide +kernel
theorem dX5_init_10 : decode cX5_init 10 = .ok (.putfield 11, 3) := by decide +kernel
theorem dX5_init_13 : decode cX5_init 13 = .ok (.aload_n 0, 1) := by decide +kernel
theorem dX5_init_14 : decode cX5_init 14 = .ok (.sipush 400, 3) := by decide +kernel
theorem dX5_init_17 : decode cX5_init 17 = .ok (.newarray .byte, 2) := by decide +kernel
theorem dX5_init_19 : decode cX5_init 19 = .ok (.putfield 15, 3) := by decide +kernel
theorem dX5_init_22 : decode cX5_init 22 = .ok (.aload_n 0, 1) := by decide +kernel
theorem dX5_init_23 : decode cX5_init 23 = .ok (.sipush 400, 3) := by decide +kernel
theorem dX5_init_26 : decode cX5_init 26 = .ok (.newarray .short, 2) := by decide +kernel
theorem dX5_init_28 : decode cX5_init 28 = .ok (.putfield 18, 3) := by decide +kernel
theorem dX5_init_31 : decode cX5_init 31 = .ok (.return_, 1) := by decide +kernel
theorem dX5_keep_0 : decode cX5_keep 0 = .ok (.aload_n 0, 1) := by decide +kernel
theorem dX5_keep_1 : decode cX5_keep 1 = .ok (.getfield 22, 3) := by decide +kernel
theorem dX5_keep_4 : decode cX5_keep 4 = .ok (.ifCond .lt 13, 3) := by decide +kernel
theorem dX5_keep_7 : decode cX5_keep 7 = .ok (.aload_n 0, 1) := by decide +kernel
theorem dX5_keep_8 : decode cX5_keep 8 = .ok (.getfield 22, 3) := by decide +kernel
theorem dX5_keep_11 : decode cX5_keep 11 = .ok (.sipush 400, 3) := by decide +kernel
theorem dX5_keep_14 : decode cX5_keep 14 = .ok (.if_icmp .lt 8, 3) := by decide +kernel
theorem dX5_keep_17 : decode cX5_keep 17 = .ok (.aload_n 0, 1) := by decide +kernel
theorem dX5_keep_18 : decode cX5_keep 18 = .ok (.iconst 0, 1) := by decide +kernel
theorem dX5_keep_19 : decode cX5_keep 19 = .ok (.putfield 22, 3) := by decide +kernel
theorem dX5_keep_22 : decode cX5_keep 22 = .ok (.aload_n 0, 1) := by decide +kernel
theorem dX5_keep_23 : decode cX5_keep 23 = .ok (.getfield 11, 3) := by decide +kernel
theorem dX5_keep_26 : decode cX5_keep 26 = .ok (.aload_n 0, 1) := by decide +kernel
theorem dX5_keep_27 : decode cX5_keep 27 = .ok (.getfield 22, 3) := by decide +kernel
theorem dX5_keep_30 : decode cX5_keep 30 = .ok (.iload_n 1, 1) := by decide +kernel
theorem dX5_keep_31 : decode cX5_keep 31 = .ok (.i2b, 1) := by decide +kernel
theorem dX5_keep_32 : decode cX5_keep 32 = .ok (.bastore, 1) := by decide +kernel
theorem dX5_keep_33 : decode cX5_keep 33 = .ok (.aload_n 0, 1) := by decide +kernel
theorem dX5_keep_34 : decode cX5_keep 34 = .ok (.getfield 15, 3) := by decide +kernel
theorem dX5_keep_37 : decode cX5_keep 37 = .ok (.aload_n 0, 1) := by decide +kernel
theorem dX5_keep_38 : decode cX5_keep 38 = .ok (.getfield 22, 3) := by decide +kernel
theorem dX5_keep_41 : decode cX5_keep 41 = .ok (.aload_n 2, 1) := by decide +kernel
theorem dX5_keep_42 : decode cX5_keep 42 = .ok (.getfield 26, 3) := by decide +kernel
theorem dX5_keep_45 : decode cX5_keep 45 = .ok (.aload_n 2, 1) := by decide +kernel
theorem dX5_keep_46 : decode cX5_keep 46 = .ok (.getfield 31, 3) := by decide +kernel
theorem dX5_keep_49 : decode cX5_keep 49 = .ok (.invokestatic 34, 3) := by decide +kernel
theorem dX5_keep_52 : decode cX5_keep 52 = .ok (.i2b, 1) := by decide +kernel
theorem dX5_keep_53 : decode cX5_keep 53 = .ok (.bastore, 1) := by decide +kernel
theorem dX5_keep_54 : decode cX5_keep 54 = .ok (.aload_n 0, 1) := by decide +kernel
theorem dX5_keep_55 : decode cX5_keep 55 = .ok (.getfield 18, 3) := by decide +kernel
theorem dX5_keep_58 : decode cX5_keep 58 = .ok (.aload_n 0, 1) := by decide +kernel
theorem dX5_keep_59 : decode cX5_keep 59 = .ok (.getfield 22, 3) := by decide +kernel
theorem dX5_keep_62 : decode cX5_keep 62 = .ok (.iload_n 3, 1) := by decide +kernel
theorem dX5_keep_63 : decode cX5_keep 63 = .ok (.i2s, 1) := by decide +kernel
theorem dX5_keep_64 : decode cX5_keep 64 = .ok (.sastore, 1) := by decide +kernel
theorem dX5_keep_65 : decode cX5_keep 65 = .ok (.aload_n 0, 1) := by decide +kernel
theorem dX5_keep_66 : decode cX5_keep 66 = .ok (.dup, 1) := by decide +kernel
theorem dX5_keep_67 : decode cX5_keep 67 = .ok (.getfield 22, 3) := by decide +kernel
theorem dX5_keep_70 : decode cX5_keep 70 = .ok (.iconst 1, 1) := by decide +kernel
theorem dX5_keep_71 : decode cX5_keep 71 = .ok (.iadd, 1) := by decide +kernel
theorem dX5_keep_72 : decode cX5_keep 72 = .ok (.putfield 22, 3) := by decide +kernel
theorem dX5_keep_75 : decode cX5_keep 75 = .ok (.aload_n 0, 1) := by decide +kernel
theorem dX5_keep_76 : decode cX5_keep 76 = .ok (.aload_n 0, 1) := by decide +kernel
theorem dX5_keep_77 : decode cX5_keep 77 = .ok (.getfield 38, 3) := by decide +kernel
theorem dX5_keep_80 : decode cX5_keep 80 = .ok (.iconst 1, 1) := by decide +kernel
theorem dX5_keep_81 : decode cX5_keep 81 = .ok (.iadd, 1) := by decide +kernel
theorem dX5_keep_82 : decode cX5_keep 82 = .ok (.sipush 400, 3) := by decide +kernel
theorem dX5_keep_85 : decode cX5_keep 85 = .ok (.invokestatic 41, 3) := by decide +kernel
theorem dX5_keep_88 : decode cX5_keep 88 = .ok (.putfield 38, 3) := by decide +kernel
theorem dX5_keep_91 : decode cX5_keep 91 = .ok (.return_, 1) := by decide +kernel
theorem dX5_teachersSeen_0 : decode cX5_teachersSeen 0 = .ok (.iload_n 1, 1) := by decide +kernel
theorem dX5_teachersSeen_1 : decode cX5_teachersSeen 1 = .ok (.iload_n 2, 1) := by decide +kernel
theorem dX5_teachersSeen_2 : decode cX5_teachersSeen 2 = .ok (.invokestatic 34, 3) := by decide +kernel
theorem dX5_teachersSeen_5 : decode cX5_teachersSeen 5 = .ok (.istore 4, 2) := by decide +kernel
theorem dX5_teachersSeen_7 : decode cX5_teachersSeen 7 = .ok (.iconst 0, 1) := by decide +kernel
theorem dX5_teachersSeen_8 : decode cX5_teachersSeen 8 = .ok (.istore 5, 2) := by decide +kernel
theorem dX5_teachersSeen_10 : decode cX5_teachersSeen 10 = .ok (.iconst 0, 1) := by decide +kernel
theorem dX5_teachersSeen_11 : decode cX5_teachersSeen 11 = .ok (.istore 6, 2) := by decide +kernel
theorem dX5_teachersSeen_13 : decode cX5_teachersSeen 13 = .ok (.iload 6, 2) := by decide +kernel
theorem dX5_teachersSeen_15 : decode cX5_teachersSeen 15 = .ok (.aload_n 0, 1) := by decide +kernel
theorem dX5_teachersSeen_16 : decode cX5_teachersSeen 16 = .ok (.getfield 38, 3) := by decide +kernel
theorem dX5_teachersSeen_19 : decode cX5_teachersSeen 19 = .ok (.if_icmp .ge 57, 3) := by decide +kernel
theorem dX5_teachersSeen_22 : decode cX5_teachersSeen 22 = .ok (.iload 6, 2) := by decide +kernel
theorem dX5_teachersSeen_24 : decode cX5_teachersSeen 24 = .ok (.sipush 400, 3) := by decide +kernel
theorem dX5_teachersSeen_27 : decode cX5_teachersSeen 27 = .ok (.if_icmp .ge 49, 3) := by decide +kernel
theorem dX5_teachersSeen_30 : decode cX5_teachersSeen 30 = .ok (.aload_n 0, 1) := by decide +kernel
theorem dX5_teachersSeen_31 : decode cX5_teachersSeen 31 = .ok (.getfield 15, 3) := by decide +kernel
theorem dX5_teachersSeen_34 : decode cX5_teachersSeen 34 = .ok (.iload 6, 2) := by decide +kernel
theorem dX5_teachersSeen_36 : decode cX5_teachersSeen 36 = .ok (.baload, 1) := by decide +kernel
theorem dX5_teachersSeen_37 : decode cX5_teachersSeen 37 = .ok (.iload 4, 2) := by decide +kernel
theorem dX5_teachersSeen_39 : decode cX5_teachersSeen 39 = .ok (.if_icmp .ne 31, 3) := by decide +kernel
theorem dX5_teachersSeen_42 : decode cX5_teachersSeen 42 = .ok (.iload_n 3, 1) := by decide +kernel
theorem dX5_teachersSeen_43 : decode cX5_teachersSeen 43 = .ok (.aload_n 0, 1) := by decide +kernel
theorem dX5_teachersSeen_44 : decode cX5_teachersSeen 44 = .ok (.getfield 18, 3) := by decide +kernel
theorem dX5_teachersSeen_47 : decode cX5_teachersSeen 47 = .ok (.iload 6, 2) := by decide +kernel
theorem dX5_teachersSeen_49 : decode cX5_teachersSeen 49 = .ok (.saload, 1) := by decide +kernel
theorem dX5_teachersSeen_50 : decode cX5_teachersSeen 50 = .ok (.isub, 1) := by decide +kernel
theorem dX5_teachersSeen_51 : decode cX5_teachersSeen 51 = .ok (.bipush 30, 2) := by decide +kernel
theorem dX5_teachersSeen_53 : decode cX5_teachersSeen 53 = .ok (.if_icmp .gt 17, 3) := by decide +kernel
theorem dX5_teachersSeen_56 : decode cX5_teachersSeen 56 = .ok (.iload 5, 2) := by decide +kernel
theorem dX5_teachersSeen_58 : decode cX5_teachersSeen 58 = .ok (.iconst 1, 1) := by decide +kernel
theorem dX5_teachersSeen_59 : decode cX5_teachersSeen 59 = .ok (.aload_n 0, 1) := by decide +kernel
theorem dX5_teachersSeen_60 : decode cX5_teachersSeen 60 = .ok (.getfield 11, 3) := by decide +kernel
theorem dX5_teachersSeen_63 : decode cX5_teachersSeen 63 = .ok (.iload 6, 2) := by decide +kernel
theorem dX5_teachersSeen_65 : decode cX5_teachersSeen 65 = .ok (.baload, 1) := by decide +kernel
theorem dX5_teachersSeen_66 : decode cX5_teachersSeen 66 = .ok (.ishl, 1) := by decide +kernel
theorem dX5_teachersSeen_67 : decode cX5_teachersSeen 67 = .ok (.ior, 1) := by decide +kernel
theorem dX5_teachersSeen_68 : decode cX5_teachersSeen 68 = .ok (.istore 5, 2) := by decide +kernel
theorem dX5_teachersSeen_70 : decode cX5_teachersSeen 70 = .ok (.iinc 6 1, 3) := by decide +kernel
theorem dX5_teachersSeen_73 : decode cX5_teachersSeen 73 = .ok (.goto (-60), 3) := by decide +kernel
theorem dX5_teachersSeen_76 : decode cX5_teachersSeen 76 = .ok (.iload 5, 2) := by decide +kernel
theorem dX5_teachersSeen_78 : decode cX5_teachersSeen 78 = .ok (.invokestatic 46, 3) := by decide +kernel
theorem dX5_teachersSeen_81 : decode cX5_teachersSeen 81 = .ok (.ireturn, 1) := by decide +kernel
theorem dX5_roomOf_0 : decode cX5_roomOf 0 = .ok (.bipush 16, 2) := by decide +kernel
theorem dX5_roomOf_2 : decode cX5_roomOf 2 = .ok (.iload_n 0, 1) := by decide +kernel
theorem dX5_roomOf_3 : decode cX5_roomOf 3 = .ok (.imul, 1) := by decide +kernel
theorem dX5_roomOf_4 : decode cX5_roomOf 4 = .ok (.iload_n 1, 1) := by decide +kernel
theorem dX5_roomOf_5 : decode cX5_roomOf 5 = .ok (.iadd, 1) := by decide +kernel
theorem dX5_roomOf_6 : decode cX5_roomOf 6 = .ok (.ireturn, 1) := by decide +kernel
theorem dJ6_bitCount_0f7a4_0 : decode cJ6_bitCount_0f7a4 0 = .ok (.iload_n 0, 1) := by decide +kernel
theorem dJ6_bitCount_0f7a4_1 : decode cJ6_bitCount_0f7a4 1 = .ok (.iload_n 0, 1) := by decide +kernel
theorem dJ6_bitCount_0f7a4_2 : decode cJ6_bitCount_0f7a4 2 = .ok (.iconst 1, 1) := by decide +kernel
theorem dJ6_bitCount_0f7a4_3 : decode cJ6_bitCount_0f7a4 3 = .ok (.iushr, 1) := by decide +kernel
theorem dJ6_bitCount_0f7a4_4 : decode cJ6_bitCount_0f7a4 4 = .ok (.ldc_w 265, 3) := by decide +kernel
theorem dJ6_bitCount_0f7a4_7 : decode cJ6_bitCount_0f7a4 7 = .ok (.iand, 1) := by decide +kernel
theorem dJ6_bitCount_0f7a4_8 : decode cJ6_bitCount_0f7a4 8 = .ok (.isub, 1) := by decide +kernel
theorem dJ6_bitCount_0f7a4_9 : decode cJ6_bitCount_0f7a4 9 = .ok (.istore_n 0, 1) := by decide +kernel
theorem dJ6_bitCount_0f7a4_10 : decode cJ6_bitCount_0f7a4 10 = .ok (.iload_n 0, 1) := by decide +kernel
theorem dJ6_bitCount_0f7a4_11 : decode cJ6_bitCount_0f7a4 11 = .ok (.ldc_w 266, 3) := by decide +kernel
theorem dJ6_bitCount_0f7a4_14 : decode cJ6_bitCount_0f7a4 14 = .ok (.iand, 1) := by decide +kernel
theorem dJ6_bitCount_0f7a4_15 : decode cJ6_bitCount_0f7a4 15 = .ok (.iload_n 0, 1) := by decide +kernel
theorem dJ6_bitCount_0f7a4_16 : decode cJ6_bitCount_0f7a4 16 = .ok (.iconst 2, 1) := by decide +kernel
theorem dJ6_bitCount_0f7a4_17 : decode cJ6_bitCount_0f7a4 17 = .ok (.iushr, 1) := by decide +kernel
theorem dJ6_bitCount_0f7a4_18 : decode cJ6_bitCount_0f7a4 18 = .ok (.ldc_w 266, 3) := by decide +kernel
theorem dJ6_bitCount_0f7a4_21 : decode cJ6_bitCount_0f7a4 21 = .ok (.iand, 1) := by decide +kernel
theorem dJ6_bitCount_0f7a4_22 : decode cJ6_bitCount_0f7a4 22 = .ok (.iadd, 1) := by decide +kernel
theorem dJ6_bitCount_0f7a4_23 : decode cJ6_bitCount_0f7a4 23 = .ok (.istore_n 0, 1) := by decide +kernel
theorem dJ6_bitCount_0f7a4_24 : decode cJ6_bitCount_0f7a4 24 = .ok (.iload_n 0, 1) := by decide +kernel
theorem dJ6_bitCount_0f7a4_25 : decode cJ6_bitCount_0f7a4 25 = .ok (.iload_n 0, 1) := by decide +kernel
theorem dJ6_bitCount_0f7a4_26 : decode cJ6_bitCount_0f7a4 26 = .ok (.iconst 4, 1) := by decide +kernel
theorem dJ6_bitCount_0f7a4_27 : decode cJ6_bitCount_0f7a4 27 = .ok (.iushr, 1) := by decide +kernel
theorem dJ6_bitCount_0f7a4_28 : decode cJ6_bitCount_0f7a4 28 = .ok (.iadd, 1) := by decide +kernel
theorem dJ6_bitCount_0f7a4_29 : decode cJ6_bitCount_0f7a4 29 = .ok (.ldc_w 267, 3) := by decide +kernel
theorem dJ6_bitCount_0f7a4_32 : decode cJ6_bitCount_0f7a4 32 = .ok (.iand, 1) := by decide +kernel
theorem dJ6_bitCount_0f7a4_33 : decode cJ6_bitCount_0f7a4 33 = .ok (.istore_n 0, 1) := by decide +kernel
theorem dJ6_bitCount_0f7a4_34 : decode cJ6_bitCount_0f7a4 34 = .ok (.iload_n 0, 1) := by decide +kernel
theorem dJ6_bitCount_0f7a4_35 : decode cJ6_bitCount_0f7a4 35 = .ok (.iload_n 0, 1) := by decide +kernel
theorem dJ6_bitCount_0f7a4_36 : decode cJ6_bitCount_0f7a4 36 = .ok (.bipush 8, 2) := by decide +kernel
theorem dJ6_bitCount_0f7a4_38 : decode cJ6_bitCount_0f7a4 38 = .ok (.iushr, 1) := by decide +kernel
theorem dJ6_bitCount_0f7a4_39 : decode cJ6_bitCount_0f7a4 39 = .ok (.iadd, 1) := by decide +kernel
theorem dJ6_bitCount_0f7a4_40 : decode cJ6_bitCount_0f7a4 40 = .ok (.istore_n 0, 1) := by decide +kernel
theorem dJ6_bitCount_0f7a4_41 : decode cJ6_bitCount_0f7a4 41 = .ok (.iload_n 0, 1) := by decide +kernel
theorem dJ6_bitCount_0f7a4_42 : decode cJ6_bitCount_0f7a4 42 = .ok (.iload_n 0, 1) := by decide +kernel
theorem dJ6_bitCount_0f7a4_43 : decode cJ6_bitCount_0f7a4 43 = .ok (.bipush 16, 2) := by decide +kernel
theorem dJ6_bitCount_0f7a4_45 : decode cJ6_bitCount_0f7a4 45 = .ok (.iushr, 1) := by decide +kernel
theorem dJ6_bitCount_0f7a4_46 : decode cJ6_bitCount_0f7a4 46 = .ok (.iadd, 1) := by decide +kernel
theorem dJ6_bitCount_0f7a4_47 : decode cJ6_bitCount_0f7a4 47 = .ok (.istore_n 0, 1) := by decide +kernel
theorem dJ6_bitCount_0f7a4_48 : decode cJ6_bitCount_0f7a4 48 = .ok (.iload_n 0, 1) := by decide +kernel
theorem dJ6_bitCount_0f7a4_49 : decode cJ6_bitCount_0f7a4 49 = .ok (.bipush 63, 2) := by decide +kernel
theorem dJ6_bitCount_0f7a4_51 : decode cJ6_bitCount_0f7a4 51 = .ok (.iand, 1) := by decide +kernel
theorem dJ6_bitCount_0f7a4_52 : decode cJ6_bitCount_0f7a4 52 = .ok (.ireturn, 1) := by decide +kernel
theorem dJ9_max_7cf53_0 : decode cJ9_max_7cf53 0 = .ok (.iload_n 0, 1) := by decide +kernel
theorem dJ9_max_7cf53_1 : decode cJ9_max_7cf53 1 = .ok (.iload_n 1, 1) := by decide +kernel
theorem dJ9_max_7cf53_2 : decode cJ9_max_7cf53 2 = .ok (.if_icmp .lt 7, 3) := by decide +kernel
theorem dJ9_max_7cf53_5 : decode cJ9_max_7cf53 5 = .ok (.iload_n 0, 1) := by decide +kernel
theorem dJ9_max_7cf53_6 : decode cJ9_max_7cf53 6 = .ok (.goto 4, 3) := by decide +kernel
theorem dJ9_max_7cf53_9 : decode cJ9_max_7cf53 9 = .ok (.iload_n 1, 1) := by decide +kernel
theorem dJ9_max_7cf53_10 : decode cJ9_max_7cf53 10 = .ok (.ireturn, 1) := by decide +kernel
theorem dJ9_min_7cf53_0 : decode cJ9_min_7cf53 0 = .ok (.iload_n 0, 1) := by decide +kernel
theorem dJ9_min_7cf53_1 : decode cJ9_min_7cf53 1 = .ok (.iload_n 1, 1) := by decide +kernel
theorem dJ9_min_7cf53_2 : decode cJ9_min_7cf53 2 = .ok (.if_icmp .gt 7, 3) := by decide +kernel
theorem dJ9_min_7cf53_5 : decode cJ9_min_7cf53 5 = .ok (.iload_n 0, 1) := by decide +kernel
theorem dJ9_min_7cf53_6 : decode cJ9_min_7cf53 6 = .ok (.goto 4, 3) := by decide +kernel
theorem dJ9_min_7cf53_9 : decode cJ9_min_7cf53 9 = .ok (.iload_n 1, 1) := by decide +kernel
theorem dJ9_min_7cf53_10 : decode cJ9_min_7cf53 10 = .ok (.ireturn, 1) := by decide +kernel
theorem dJ7_fill_d0a16_0 : decode cJ7_fill_d0a16 0 = .ok (.iconst 0, 1) := by decide +kernel
theorem dJ7_fill_d0a16_1 : decode cJ7_fill_d0a16 1 = .ok (.istore_n 3, 1) := by decide +kernel
theorem dJ7_fill_d0a16_2 : decode cJ7_fill_d0a16 2 = .ok (.aload_n 0, 1) := by decide +kernel
theorem dJ7_fill_d0a16_3 : decode cJ7_fill_d0a16 3 = .ok (.arraylength, 1) := by decide +kernel
theorem dJ7_fill_d0a16_4 : decode cJ7_fill_d0a16 4 = .ok (.istore 4, 2) := by decide +kernel
theorem dJ7_fill_d0a16_6 : decode cJ7_fill_d0a16 6 = .ok (.iload_n 3, 1) := by decide +kernel
theorem dJ7_fill_d0a16_7 : decode cJ7_fill_d0a16 7 = .ok (.iload 4, 2) := by decide +kernel
theorem dJ7_fill_d0a16_9 : decode cJ7_fill_d0a16 9 = .ok (.if_icmp .ge 13, 3) := by decide +kernel
theorem dJ7_fill_d0a16_12 : decode cJ7_fill_d0a16 12 = .ok (.aload_n 0, 1) := by decide +kernel
theorem dJ7_fill_d0a16_13 : decode cJ7_fill_d0a16 13 = .ok (.iload_n 3, 1) := by decide +kernel
theorem dJ7_fill_d0a16_14 : decode cJ7_fill_d0a16 14 = .ok (.lload_n 1, 1) := by decide +kernel
theorem dJ7_fill_d0a16_15 : decode cJ7_fill_d0a16 15 = .ok (.lastore, 1) := by decide +kernel
theorem dJ7_fill_d0a16_16 : decode cJ7_fill_d0a16 16 = .ok (.iinc 3 1, 3) := by decide +kernel
theorem dJ7_fill_d0a16_19 : decode cJ7_fill_d0a16 19 = .ok (.goto (-13), 3) := by decide +kernel
theorem dJ7_fill_d0a16_22 : decode cJ7_fill_d0a16 22 = .ok (.return_, 1) := by decide +kernel
theorem dJ7_fill_53178_0 : decode cJ7_fill_53178 0 = .ok (.iconst 0, 1) := by decide +kernel
theorem dJ7_fill_53178_1 : decode cJ7_fill_53178 1 = .ok (.istore_n 2, 1) := by decide +kernel
theorem dJ7_fill_53178_2 : decode cJ7_fill_53178 2 = .ok (.aload_n 0, 1) := by decide +kernel
theorem dJ7_fill_53178_3 : decode cJ7_fill_53178 3 = .ok (.arraylength, 1) := by decide +kernel
theorem dJ7_fill_53178_4 : decode cJ7_fill_53178 4 = .ok (.istore_n 3, 1) := by decide +kernel
theorem dJ7_fill_53178_5 : decode cJ7_fill_53178 5 = .ok (.iload_n 2, 1) := by decide +kernel
theorem dJ7_fill_53178_6 : decode cJ7_fill_53178 6 = .ok (.iload_n 3, 1) := by decide +kernel
theorem dJ7_fill_53178_7 : decode cJ7_fill_53178 7 = .ok (.if_icmp .ge 13, 3) := by decide +kernel
theorem dJ7_fill_53178_10 : decode cJ7_fill_53178 10 = .ok (.aload_n 0, 1) := by decide +kernel
theorem dJ7_fill_53178_11 : decode cJ7_fill_53178 11 = .ok (.iload_n 2, 1) := by decide +kernel
theorem dJ7_fill_53178_12 : decode cJ7_fill_53178 12 = .ok (.iload_n 1, 1) := by decide +kernel
theorem dJ7_fill_53178_13 : decode cJ7_fill_53178 13 = .ok (.iastore, 1) := by decide +kernel
theorem dJ7_fill_53178_14 : decode cJ7_fill_53178 14 = .ok (.iinc 2 1, 3) := by decide +kernel
theorem dJ7_fill_53178_17 : decode cJ7_fill_53178 17 = .ok (.goto (-12), 3) := by decide +kernel
theorem dJ7_fill_53178_20 : decode cJ7_fill_53178 20 = .ok (.return_, 1) := by decide +kernel
