theorem dX6_init_0 : decode cX6_init 0 = .ok (.aload_n 0, 1) := by decide +kernel
theorem dX6_init_1 : decode cX6_init 1 = .ok (.invokespecial 1, 3) := by decide +kernel
theorem dX6_init_4 : decode cX6_init 4 = .ok (.aload_n 0, 1) := by decide +kernel
theorem dX6_init_5 : decode cX6_init 5 = .ok (.new 7, 3) := by decide +kernel
theorem dX6_init_8 : decode cX6_init 8 = .ok (.dup, 1) := by decide +kernel
theorem dX6_init_9 : decode cX6_init 9 = .ok (.invokespecial 9, 3) := by decide +kernel
theorem dX6_init_12 : decode cX6_init 12 = .ok (.putfield 10, 3) := by decide +kernel
theorem dX6_init_15 : decode cX6_init 15 = .ok (.aload_n 0, 1) := by decide +kernel
theorem dX6_init_16 : decode cX6_init 16 = .ok (.new 16, 3) := by decide +kernel
theorem dX6_init_19 : decode cX6_init 19 = .ok (.dup, 1) := by decide +kernel
theorem dX6_init_20 : decode cX6_init 20 = .ok (.invokespecial 18, 3) := by decide +kernel
theorem dX6_init_23 : decode cX6_init 23 = .ok (.putfield 19, 3) := by decide +kernel
theorem dX6_init_26 : decode cX6_init 26 = .ok (.aload_n 0, 1) := by decide +kernel
theorem dX6_init_27 : decode cX6_init 27 = .ok (.bipush 12, 2) := by decide +kernel
theorem dX6_init_29 : decode cX6_init 29 = .ok (.anewarray 23, 3) := by decide +kernel
theorem dX6_init_32 : decode cX6_init 32 = .ok (.putfield 25, 3) := by decide +kernel
theorem dX6_init_35 : decode cX6_init 35 = .ok (.aload_n 0, 1) := by decide +kernel
theorem dX6_init_36 : decode cX6_init 36 = .ok (.bipush 10, 2) := by decide +kernel
theorem dX6_init_38 : decode cX6_init 38 = .ok (.anewarray 29, 3) := by decide +kernel
theorem dX6_init_41 : decode cX6_init 41 = .ok (.putfield 31, 3) := by decide +kernel
theorem dX6_init_44 : decode cX6_init 44 = .ok (.aload_n 0, 1) := by decide +kernel
theorem dX6_init_45 : decode cX6_init 45 = .ok (.new 35, 3) := by decide +kernel
theorem dX6_init_48 : decode cX6_init 48 = .ok (.dup, 1) := by decide +kernel
theorem dX6_init_49 : decode cX6_init 49 = .ok (.invokespecial 37, 3) := by decide +kernel
theorem dX6_init_52 : decode cX6_init 52 = .ok (.putfield 38, 3) := by decide +kernel
theorem dX6_init_55 : decode cX6_init 55 = .ok (.aload_n 0, 1) := by decide +kernel
theorem dX6_init_56 : decode cX6_init 56 = .ok (.new 42, 3) := by decide +kernel
theorem dX6_init_59 : decode cX6_init 59 = .ok (.dup, 1) := by decide +kernel
theorem dX6_init_60 : decode cX6_init 60 = .ok (.invokespecial 44, 3) := by decide +kernel
theorem dX6_init_63 : decode cX6_init 63 = .ok (.putfield 45, 3) := by decide +kernel
theorem dX6_init_66 : decode cX6_init 66 = .ok (.return_, 1) := by decide +kernel
theorem dX6_feed_0 : decode cX6_feed 0 = .ok (.aload_n 0, 1) := by decide +kernel
theorem dX6_feed_1 : decode cX6_feed 1 = .ok (.getfield 10, 3) := by decide +kernel
theorem dX6_feed_4 : decode cX6_feed 4 = .ok (.invokevirtual 49, 3) := by decide +kernel
theorem dX6_feed_7 : decode cX6_feed 7 = .ok (.ifCond .ne 5, 3) := by decide +kernel
theorem dX6_feed_10 : decode cX6_feed 10 = .ok (.iconst (-1), 1) := by decide +kernel
theorem dX6_feed_11 : decode cX6_feed 11 = .ok (.ireturn, 1) := by decide +kernel
theorem dX6_feed_12 : decode cX6_feed 12 = .ok (.aload_n 0, 1) := by decide +kernel
theorem dX6_feed_13 : decode cX6_feed 13 = .ok (.getfield 10, 3) := by decide +kernel
theorem dX6_feed_16 : decode cX6_feed 16 = .ok (.iload_n 1, 1) := by decide +kernel
theorem dX6_feed_17 : decode cX6_feed 17 = .ok (.invokevirtual 53, 3) := by decide +kernel
theorem dX6_feed_20 : decode cX6_feed 20 = .ok (.aload_n 0, 1) := by decide +kernel
theorem dX6_feed_21 : decode cX6_feed 21 = .ok (.getfield 10, 3) := by decide +kernel
theorem dX6_feed_24 : decode cX6_feed 24 = .ok (.iload_n 2, 1) := by decide +kernel
theorem dX6_feed_25 : decode cX6_feed 25 = .ok (.invokevirtual 53, 3) := by decide +kernel
theorem dX6_feed_28 : decode cX6_feed 28 = .ok (.aload_n 0, 1) := by decide +kernel
theorem dX6_feed_29 : decode cX6_feed 29 = .ok (.getfield 10, 3) := by decide +kernel
theorem dX6_feed_32 : decode cX6_feed 32 = .ok (.iload_n 3, 1) := by decide +kernel
theorem dX6_feed_33 : decode cX6_feed 33 = .ok (.invokevirtual 53, 3) := by decide +kernel
theorem dX6_feed_36 : decode cX6_feed 36 = .ok (.aload_n 0, 1) := by decide +kernel
theorem dX6_feed_37 : decode cX6_feed 37 = .ok (.getfield 10, 3) := by decide +kernel
theorem dX6_feed_40 : decode cX6_feed 40 = .ok (.iload 4, 2) := by decide +kernel
theorem dX6_feed_42 : decode cX6_feed 42 = .ok (.invokevirtual 53, 3) := by decide +kernel
theorem dX6_feed_45 : decode cX6_feed 45 = .ok (.aload_n 0, 1) := by decide +kernel
theorem dX6_feed_46 : decode cX6_feed 46 = .ok (.getfield 10, 3) := by decide +kernel
theorem dX6_feed_49 : decode cX6_feed 49 = .ok (.iload 5, 2) := by decide +kernel
theorem dX6_feed_51 : decode cX6_feed 51 = .ok (.invokevirtual 53, 3) := by decide +kernel
theorem dX6_feed_54 : decode cX6_feed 54 = .ok (.aload_n 0, 1) := by decide +kernel
theorem dX6_feed_55 : decode cX6_feed 55 = .ok (.getfield 10, 3) := by decide +kernel
theorem dX6_feed_58 : decode cX6_feed 58 = .ok (.getfield 57, 3) := by decide +kernel
theorem dX6_feed_61 : decode cX6_feed 61 = .ok (.ireturn, 1) := by decide +kernel
theorem dX6_rules_0 : decode cX6_rules 0 = .ok (.iload_n 1, 1) := by decide +kernel
theorem dX6_rules_1 : decode cX6_rules 1 = .ok (.iconst 0, 1) := by decide +kernel
theorem dX6_rules_2 : decode cX6_rules 2 = .ok (.aload_n 0, 1) := by decide +kernel
theorem dX6_rules_3 : decode cX6_rules 3 = .ok (.getfield 10, 3) := by decide +kernel
theorem dX6_rules_6 : decode cX6_rules 6 = .ok (.getfield 57, 3) := by decide +kernel
theorem dX6_rules_9 : decode cX6_rules 9 = .ok (.invokestatic 61, 3) := by decide +kernel
theorem dX6_rules_12 : decode cX6_rules 12 = .ok (.ifCond .ne 5, 3) := by decide +kernel
theorem dX6_rules_15 : decode cX6_rules 15 = .ok (.iconst (-1), 1) := by decide +kernel
theorem dX6_rules_16 : decode cX6_rules 16 = .ok (.ireturn, 1) := by decide +kernel
theorem dX6_rules_17 : decode cX6_rules 17 = .ok (.aload_n 0, 1) := by decide +kernel
theorem dX6_rules_18 : decode cX6_rules 18 = .ok (.getfield 19, 3) := by decide +kernel
theorem dX6_rules_21 : decode cX6_rules 21 = .ok (.aload_n 0, 1) := by decide +kernel
theorem dX6_rules_22 : decode cX6_rules 22 = .ok (.getfield 10, 3) := by decide +kernel
theorem dX6_rules_25 : decode cX6_rules 25 = .ok (.iload_n 1, 1) := by decide +kernel
theorem dX6_rules_26 : decode cX6_rules 26 = .ok (.invokevirtual 65, 3) := by decide +kernel
theorem dX6_rules_29 : decode cX6_rules 29 = .ok (.istore_n 2, 1) := by decide +kernel
theorem dX6_rules_30 : decode cX6_rules 30 = .ok (.aload_n 0, 1) := by decide +kernel
theorem dX6_rules_31 : decode cX6_rules 31 = .ok (.getfield 10, 3) := by decide +kernel
theorem dX6_rules_34 : decode cX6_rules 34 = .ok (.iconst 0, 1) := by decide +kernel
theorem dX6_rules_35 : decode cX6_rules 35 = .ok (.putfield 57, 3) := by decide +kernel
theorem dX6_rules_38 : decode cX6_rules 38 = .ok (.iload_n 2, 1) := by decide +kernel
theorem dX6_rules_39 : decode cX6_rules 39 = .ok (.ireturn, 1) := by decide +kernel
theorem dX6_teacher_0 : decode cX6_teacher 0 = .ok (.aload_n 0, 1) := by decide +kernel
theorem dX6_teacher_1 : decode cX6_teacher 1 = .ok (.getfield 69, 3) := by decide +kernel
theorem dX6_teacher_4 : decode cX6_teacher 4 = .ok (.bipush 12, 2) := by decide +kernel
theorem dX6_teacher_6 : decode cX6_teacher 6 = .ok (.if_icmp .ge 35, 3) := by decide +kernel
theorem dX6_teacher_9 : decode cX6_teacher 9 = .ok (.iload_n 1, 1) := by decide +kernel
theorem dX6_teacher_10 : decode cX6_teacher 10 = .ok (.iconst 0, 1) := by decide +kernel
theorem dX6_teacher_11 : decode cX6_teacher 11 = .ok (.sipush 255, 3) := by decide +kernel
theorem dX6_teacher_14 : decode cX6_teacher 14 = .ok (.invokestatic 61, 3) := by decide +kernel
theorem dX6_teacher_17 : decode cX6_teacher 17 = .ok (.ifCond .eq 24, 3) := by decide +kernel
theorem dX6_teacher_20 : decode cX6_teacher 20 = .ok (.iload_n 2, 1) := by decide +kernel
theorem dX6_teacher_21 : decode cX6_teacher 21 = .ok (.iconst 0, 1) := by decide +kernel
theorem dX6_teacher_22 : decode cX6_teacher 22 = .ok (.bipush 15, 2) := by decide +kernel
theorem dX6_teacher_24 : decode cX6_teacher 24 = .ok (.invokestatic 61, 3) := by decide +kernel
theorem dX6_teacher_27 : decode cX6_teacher 27 = .ok (.ifCond .eq 14, 3) := by decide +kernel
theorem dX6_teacher_30 : decode cX6_teacher 30 = .ok (.iload_n 3, 1) := by decide +kernel
theorem dX6_teacher_31 : decode cX6_teacher 31 = .ok (.iconst 0, 1) := by decide +kernel
theorem dX6_teacher_32 : decode cX6_teacher 32 = .ok (.sipush 3000, 3) := by decide +kernel
theorem dX6_teacher_35 : decode cX6_teacher 35 = .ok (.invokestatic 61, 3) := by decide +kernel
theorem dX6_teacher_38 : decode cX6_teacher 38 = .ok (.ifCond .ne 5, 3) := by decide +kernel
theorem dX6_teacher_41 : decode cX6_teacher 41 = .ok (.iconst (-1), 1) := by decide +kernel
theorem dX6_teacher_42 : decode cX6_teacher 42 = .ok (.ireturn, 1) := by decide +kernel
theorem dX6_teacher_43 : decode cX6_teacher 43 = .ok (.aload_n 0, 1) := by decide +kernel
theorem dX6_teacher_44 : decode cX6_teacher 44 = .ok (.getfield 25, 3) := by decide +kernel
theorem dX6_teacher_47 : decode cX6_teacher 47 = .ok (.aload_n 0, 1) := by decide +kernel
theorem dX6_teacher_48 : decode cX6_teacher 48 = .ok (.getfield 69, 3) := by decide +kernel
theorem dX6_teacher_51 : decode cX6_teacher 51 = .ok (.new 23, 3) := by decide +kernel
theorem dX6_teacher_54 : decode cX6_teacher 54 = .ok (.dup, 1) := by decide +kernel
theorem dX6_teacher_55 : decode cX6_teacher 55 = .ok (.iload_n 1, 1) := by decide +kernel
theorem dX6_teacher_56 : decode cX6_teacher 56 = .ok (.iload_n 2, 1) := by decide +kernel
theorem dX6_teacher_57 : decode cX6_teacher 57 = .ok (.iload_n 3, 1) := by decide +kernel
theorem dX6_teacher_58 : decode cX6_teacher 58 = .ok (.invokespecial 72, 3) := by decide +kernel
theorem dX6_teacher_61 : decode cX6_teacher 61 = .ok (.aastore, 1) := by decide +kernel
theorem dX6_teacher_62 : decode cX6_teacher 62 = .ok (.aload_n 0, 1) := by decide +kernel
theorem dX6_teacher_63 : decode cX6_teacher 63 = .ok (.dup, 1) := by decide +kernel
theorem dX6_teacher_64 : decode cX6_teacher 64 = .ok (.getfield 69, 3) := by decide +kernel
theorem dX6_teacher_67 : decode cX6_teacher 67 = .ok (.iconst 1, 1) := by decide +kernel
theorem dX6_teacher_68 : decode cX6_teacher 68 = .ok (.iadd, 1) := by decide +kernel
theorem dX6_teacher_69 : decode cX6_teacher 69 = .ok (.putfield 69, 3) := by decide +kernel
theorem dX6_teacher_72 : decode cX6_teacher 72 = .ok (.aload_n 0, 1) := by decide +kernel
theorem dX6_teacher_73 : decode cX6_teacher 73 = .ok (.getfield 69, 3) := by decide +kernel
theorem dX6_teacher_76 : decode cX6_teacher 76 = .ok (.iconst 1, 1) := by decide +kernel
theorem dX6_teacher_77 : decode cX6_teacher 77 = .ok (.isub, 1) := by decide +kernel
theorem dX6_teacher_78 : decode cX6_teacher 78 = .ok (.ireturn, 1) := by decide +kernel
theorem dX6_way_0 : decode cX6_way 0 = .ok (.aload_n 0, 1) := by decide +kernel
theorem dX6_way_1 : decode cX6_way 1 = .ok (.iload_n 1, 1) := by decide +kernel
theorem dX6_way_2 : decode cX6_way 2 = .ok (.invokevirtual 75, 3) := by decide +kernel
theorem dX6_way_5 : decode cX6_way 5 = .ok (.astore 4, 2) := by decide +kernel
theorem dX6_way_7 : decode cX6_way 7 = .ok (.aload 4, 2) := by decide +kernel
theorem dX6_way_9 : decode cX6_way 9 = .ok (.ifnull 21, 3) := by decide +kernel
theorem dX6_way_12 : decode cX6_way 12 = .ok (.iload_n 2, 1) := by decide +kernel
theorem dX6_way_13 : decode cX6_way 13 = .ok (.invokestatic 79, 3) := by decide +kernel
theorem dX6_way_16 : decode cX6_way 16 = .ok (.ifCond .eq 14, 3) := by decide +kernel
theorem dX6_way_19 : decode cX6_way 19 = .ok (.iload_n 3, 1) := by decide +kernel
theorem dX6_way_20 : decode cX6_way 20 = .ok (.iconst 0, 1) := by decide +kernel
theorem dX6_way_21 : decode cX6_way 21 = .ok (.sipush 200, 3) := by decide +kernel
theorem dX6_way_24 : decode cX6_way 24 = .ok (.invokestatic 61, 3) := by decide +kernel
theorem dX6_way_27 : decode cX6_way 27 = .ok (.ifCond .ne 5, 3) := by decide +kernel
theorem dX6_way_30 : decode cX6_way 30 = .ok (.iconst 0, 1) := by decide +kernel
theorem dX6_way_31 : decode cX6_way 31 = .ok (.ireturn, 1) := by decide +kernel
theorem dX6_way_32 : decode cX6_way 32 = .ok (.aload 4, 2) := by decide +kernel
theorem dX6_way_34 : decode cX6_way 34 = .ok (.getfield 83, 3) := by decide +kernel
theorem dX6_way_37 : decode cX6_way 37 = .ok (.iload_n 2, 1) := by decide +kernel
theorem dX6_way_38 : decode cX6_way 38 = .ok (.iload_n 3, 1) := by decide +kernel
theorem dX6_way_39 : decode cX6_way 39 = .ok (.iastore, 1) := by decide +kernel
theorem dX6_way_40 : decode cX6_way 40 = .ok (.iconst 1, 1) := by decide +kernel
theorem dX6_way_41 : decode cX6_way 41 = .ok (.ireturn, 1) := by decide +kernel
theorem dX6_likes_0 : decode cX6_likes 0 = .ok (.aload_n 0, 1) := by decide +kernel
theorem dX6_likes_1 : decode cX6_likes 1 = .ok (.iload_n 1, 1) := by decide +kernel
theorem dX6_likes_2 : decode cX6_likes 2 = .ok (.invokevirtual 75, 3) := by decide +kernel
theorem dX6_likes_5 : decode cX6_likes 5 = .ok (.astore 4, 2) := by decide +kernel
theorem dX6_likes_7 : decode cX6_likes 7 = .ok (.aload 4, 2) := by decide +kernel
theorem dX6_likes_9 : decode cX6_likes 9 = .ok (.ifnull 23, 3) := by decide +kernel
theorem dX6_likes_12 : decode cX6_likes 12 = .ok (.iload_n 2, 1) := by decide +kernel
theorem dX6_likes_13 : decode cX6_likes 13 = .ok (.iconst 0, 1) := by decide +kernel
theorem dX6_likes_14 : decode cX6_likes 14 = .ok (.bipush 63, 2) := by decide +kernel
theorem dX6_likes_16 : decode cX6_likes 16 = .ok (.invokestatic 61, 3) := by decide +kernel
theorem dX6_likes_19 : decode cX6_likes 19 = .ok (.ifCond .eq 13, 3) := by decide +kernel
theorem dX6_likes_22 : decode cX6_likes 22 = .ok (.iload_n 3, 1) := by decide +kernel
theorem dX6_likes_23 : decode cX6_likes 23 = .ok (.iconst 0, 1) := by decide +kernel
theorem dX6_likes_24 : decode cX6_likes 24 = .ok (.bipush 63, 2) := by decide +kernel
theorem dX6_likes_26 : decode cX6_likes 26 = .ok (.invokestatic 61, 3) := by decide +kernel
theorem dX6_likes_29 : decode cX6_likes 29 = .ok (.ifCond .ne 5, 3) := by decide +kernel
theorem dX6_likes_32 : decode cX6_likes 32 = .ok (.iconst 0, 1) := by decide +kernel
theorem dX6_likes_33 : decode cX6_likes 33 = .ok (.ireturn, 1) := by decide +kernel
theorem dX6_likes_34 : decode cX6_likes 34 = .ok (.aload 4, 2) := by decide +kernel
theorem dX6_likes_36 : decode cX6_likes 36 = .ok (.iload_n 2, 1) := by decide +kernel
theorem dX6_likes_37 : decode cX6_likes 37 = .ok (.putfield 87, 3) := by decide +kernel
theorem dX6_likes_40 : decode cX6_likes 40 = .ok (.aload 4, 2) := by decide +kernel
theorem dX6_likes_42 : decode cX6_likes 42 = .ok (.iload_n 3, 1) := by decide +kernel
theorem dX6_likes_43 : decode cX6_likes 43 = .ok (.putfield 90, 3) := by decide +kernel
theorem dX6_likes_46 : decode cX6_likes 46 = .ok (.iconst 1, 1) := by decide +kernel
theorem dX6_likes_47 : decode cX6_likes 47 = .ok (.ireturn, 1) := by decide +kernel
theorem dX6_gap_0 : decode cX6_gap 0 = .ok (.aload_n 0, 1) := by decide +kernel
theorem dX6_gap_1 : decode cX6_gap 1 = .ok (.getfield 93, 3) := by decide +kernel
theorem dX6_gap_4 : decode cX6_gap 4 = .ok (.bipush 10, 2) := by decide +kernel
theorem dX6_gap_6 : decode cX6_gap 6 = .ok (.if_icmp .ge 48, 3) := by decide +kernel
theorem dX6_gap_9 : decode cX6_gap 9 = .ok (.iload_n 1, 1) := by decide +kernel
theorem dX6_gap_10 : decode cX6_gap 10 = .ok (.invokestatic 79, 3) := by decide +kernel
theorem dX6_gap_13 : decode cX6_gap 13 = .ok (.ifCond .eq 41, 3) := by decide +kernel
theorem dX6_gap_16 : decode cX6_gap 16 = .ok (.iload_n 2, 1) := by decide +kernel
theorem dX6_gap_17 : decode cX6_gap 17 = .ok (.invokestatic 96, 3) := by decide +kernel
theorem dX6_gap_20 : decode cX6_gap 20 = .ok (.ifCond .eq 34, 3) := by decide +kernel
theorem dX6_gap_23 : decode cX6_gap 23 = .ok (.iload_n 3, 1) := by decide +kernel
theorem dX6_gap_24 : decode cX6_gap 24 = .ok (.iconst 0, 1) := by decide +kernel
theorem dX6_gap_25 : decode cX6_gap 25 = .ok (.bipush 7, 2) := by decide +kernel
theorem dX6_gap_27 : decode cX6_gap 27 = .ok (.invokestatic 61, 3) := by decide +kernel
theorem dX6_gap_30 : decode cX6_gap 30 = .ok (.ifCond .eq 24, 3) := by decide +kernel
theorem dX6_gap_33 : decode cX6_gap 33 = .ok (.iload 4, 2) := by decide +kernel
theorem dX6_gap_35 : decode cX6_gap 35 = .ok (.iconst 0, 1) := by decide +kernel
theorem dX6_gap_36 : decode cX6_gap 36 = .ok (.iconst 3, 1) := by decide +kernel
theorem dX6_gap_37 : decode cX6_gap 37 = .ok (.invokestatic 61, 3) := by decide +kernel
theorem dX6_gap_40 : decode cX6_gap 40 = .ok (.ifCond .eq 14, 3) := by decide +kernel
theorem dX6_gap_43 : decode cX6_gap 43 = .ok (.iload 5, 2) := by decide +kernel
theorem dX6_gap_45 : decode cX6_gap 45 = .ok (.iconst 1, 1) := by decide +kernel
theorem dX6_gap_46 : decode cX6_gap 46 = .ok (.bipush 8, 2) := by decide +kernel
theorem dX6_gap_48 : decode cX6_gap 48 = .ok (.invokestatic 61, 3) := by decide +kernel
theorem dX6_gap_51 : decode cX6_gap 51 = .ok (.ifCond .ne 5, 3) := by decide +kernel
theorem dX6_gap_54 : decode cX6_gap 54 = .ok (.iconst (-1), 1) := by decide +kernel
theorem dX6_gap_55 : decode cX6_gap 55 = .ok (.ireturn, 1) := by decide +kernel
theorem dX6_gap_56 : decode cX6_gap 56 = .ok (.aload_n 0, 1) := by decide +kernel
theorem dX6_gap_57 : decode cX6_gap 57 = .ok (.getfield 31, 3) := by decide +kernel
theorem dX6_gap_60 : decode cX6_gap 60 = .ok (.aload_n 0, 1) := by decide +kernel
theorem dX6_gap_61 : decode cX6_gap 61 = .ok (.getfield 93, 3) := by decide +kernel
theorem dX6_gap_64 : decode cX6_gap 64 = .ok (.new 29, 3) := by decide +kernel
theorem dX6_gap_67 : decode cX6_gap 67 = .ok (.dup, 1) := by decide +kernel
theorem dX6_gap_68 : decode cX6_gap 68 = .ok (.iload_n 1, 1) := by decide +kernel
theorem dX6_gap_69 : decode cX6_gap 69 = .ok (.iload_n 2, 1) := by decide +kernel
theorem dX6_gap_70 : decode cX6_gap 70 = .ok (.iload_n 3, 1) := by decide +kernel
theorem dX6_gap_71 : decode cX6_gap 71 = .ok (.iload 4, 2) := by decide +kernel
theorem dX6_gap_73 : decode cX6_gap 73 = .ok (.iload 5, 2) := by decide +kernel
theorem dX6_gap_75 : decode cX6_gap 75 = .ok (.invokespecial 99, 3) := by decide +kernel
theorem dX6_gap_78 : decode cX6_gap 78 = .ok (.aastore, 1) := by decide +kernel
theorem dX6_gap_79 : decode cX6_gap 79 = .ok (.aload_n 0, 1) := by decide +kernel
theorem dX6_gap_80 : decode cX6_gap 80 = .ok (.dup, 1) := by decide +kernel
theorem dX6_gap_81 : decode cX6_gap 81 = .ok (.getfield 93, 3) := by decide +kernel
theorem dX6_gap_84 : decode cX6_gap 84 = .ok (.iconst 1, 1) := by decide +kernel
theorem dX6_gap_85 : decode cX6_gap 85 = .ok (.iadd, 1) := by decide +kernel
theorem dX6_gap_86 : decode cX6_gap 86 = .ok (.putfield 93, 3) := by decide +kernel
theorem dX6_gap_89 : decode cX6_gap 89 = .ok (.aload_n 0, 1) := by decide +kernel
theorem dX6_gap_90 : decode cX6_gap 90 = .ok (.getfield 93, 3) := by decide +kernel
theorem dX6_gap_93 : decode cX6_gap 93 = .ok (.iconst 1, 1) := by decide +kernel
theorem dX6_gap_94 : decode cX6_gap 94 = .ok (.isub, 1) := by decide +kernel
theorem dX6_gap_95 : decode cX6_gap 95 = .ok (.ireturn, 1) := by decide +kernel
theorem dX6_can_0 : decode cX6_can 0 = .ok (.aload_n 0, 1) := by decide +kernel
theorem dX6_can_1 : decode cX6_can 1 = .ok (.iload_n 1, 1) := by decide +kernel
theorem dX6_can_2 : decode cX6_can 2 = .ok (.invokevirtual 75, 3) := by decide +kernel
theorem dX6_can_5 : decode cX6_can 5 = .ok (.astore_n 3, 1) := by decide +kernel
theorem dX6_can_6 : decode cX6_can 6 = .ok (.aload_n 0, 1) := by decide +kernel
theorem dX6_can_7 : decode cX6_can 7 = .ok (.iload_n 2, 1) := by decide +kernel
theorem dX6_can_8 : decode cX6_can 8 = .ok (.invokevirtual 102, 3) := by decide +kernel
theorem dX6_can_11 : decode cX6_can 11 = .ok (.astore 4, 2) := by decide +kernel
theorem dX6_can_13 : decode cX6_can 13 = .ok (.aload_n 3, 1) := by decide +kernel
theorem dX6_can_14 : decode cX6_can 14 = .ok (.ifnull 8, 3) := by decide +kernel
theorem dX6_can_17 : decode cX6_can 17 = .ok (.aload 4, 2) := by decide +kernel
theorem dX6_can_19 : decode cX6_can 19 = .ok (.ifnonnull 5, 3) := by decide +kernel
theorem dX6_can_22 : decode cX6_can 22 = .ok (.iconst (-1), 1) := by decide +kernel
theorem dX6_can_23 : decode cX6_can 23 = .ok (.ireturn, 1) := by decide +kernel
theorem dX6_can_24 : decode cX6_can 24 = .ok (.aload_n 3, 1) := by decide +kernel
theorem dX6_can_25 : decode cX6_can 25 = .ok (.aload 4, 2) := by decide +kernel
theorem dX6_can_27 : decode cX6_can 27 = .ok (.aload_n 0, 1) := by decide +kernel
theorem dX6_can_28 : decode cX6_can 28 = .ok (.getfield 19, 3) := by decide +kernel
theorem dX6_can_31 : decode cX6_can 31 = .ok (.aload_n 0, 1) := by decide +kernel
theorem dX6_can_32 : decode cX6_can 32 = .ok (.getfield 106, 3) := by decide +kernel
theorem dX6_can_35 : decode cX6_can 35 = .ok (.invokevirtual 109, 3) := by decide +kernel
theorem dX6_can_38 : decode cX6_can 38 = .ok (.ifCond .eq 7, 3) := by decide +kernel
theorem dX6_can_41 : decode cX6_can 41 = .ok (.iconst 1, 1) := by decide +kernel
theorem dX6_can_42 : decode cX6_can 42 = .ok (.goto 4, 3) := by decide +kernel
theorem dX6_can_45 : decode cX6_can 45 = .ok (.iconst 0, 1) := by decide +kernel
theorem dX6_can_46 : decode cX6_can 46 = .ok (.ireturn, 1) := by decide +kernel
theorem dX6_cost_0 : decode cX6_cost 0 = .ok (.aload_n 0, 1) := by decide +kernel
theorem dX6_cost_1 : decode cX6_cost 1 = .ok (.iload_n 1, 1) := by decide +kernel
theorem dX6_cost_2 : decode cX6_cost 2 = .ok (.invokevirtual 75, 3) := by decide +kernel
theorem dX6_cost_5 : decode cX6_cost 5 = .ok (.astore_n 3, 1) := by decide +kernel
theorem dX6_cost_6 : decode cX6_cost 6 = .ok (.aload_n 0, 1) := by decide +kernel
theorem dX6_cost_7 : decode cX6_cost 7 = .ok (.iload_n 2, 1) := by decide +kernel
theorem dX6_cost_8 : decode cX6_cost 8 = .ok (.invokevirtual 102, 3) := by decide +kernel
theorem dX6_cost_11 : decode cX6_cost 11 = .ok (.astore 4, 2) := by decide +kernel
theorem dX6_cost_13 : decode cX6_cost 13 = .ok (.aload_n 3, 1) := by decide +kernel
theorem dX6_cost_14 : decode cX6_cost 14 = .ok (.ifnull 25, 3) := by decide +kernel
theorem dX6_cost_17 : decode cX6_cost 17 = .ok (.aload 4, 2) := by decide +kernel
theorem dX6_cost_19 : decode cX6_cost 19 = .ok (.ifnull 20, 3) := by decide +kernel
theorem dX6_cost_22 : decode cX6_cost 22 = .ok (.aload_n 3, 1) := by decide +kernel
theorem dX6_cost_23 : decode cX6_cost 23 = .ok (.aload 4, 2) := by decide +kernel
theorem dX6_cost_25 : decode cX6_cost 25 = .ok (.aload_n 0, 1) := by decide +kernel
theorem dX6_cost_26 : decode cX6_cost 26 = .ok (.getfield 19, 3) := by decide +kernel
theorem dX6_cost_29 : decode cX6_cost 29 = .ok (.aload_n 0, 1) := by decide +kernel
theorem dX6_cost_30 : decode cX6_cost 30 = .ok (.getfield 106, 3) := by decide +kernel
theorem dX6_cost_33 : decode cX6_cost 33 = .ok (.invokevirtual 109, 3) := by decide +kernel
theorem dX6_cost_36 : decode cX6_cost 36 = .ok (.ifCond .ne 5, 3) := by decide +kernel
theorem dX6_cost_39 : decode cX6_cost 39 = .ok (.iconst (-1), 1) := by decide +kernel
theorem dX6_cost_40 : decode cX6_cost 40 = .ok (.ireturn, 1) := by decide +kernel
theorem dX6_cost_41 : decode cX6_cost 41 = .ok (.aload_n 3, 1) := by decide +kernel
theorem dX6_cost_42 : decode cX6_cost 42 = .ok (.aload 4, 2) := by decide +kernel
theorem dX6_cost_44 : decode cX6_cost 44 = .ok (.aload_n 0, 1) := by decide +kernel
theorem dX6_cost_45 : decode cX6_cost 45 = .ok (.getfield 19, 3) := by decide +kernel
theorem dX6_cost_48 : decode cX6_cost 48 = .ok (.invokevirtual 113, 3) := by decide +kernel
theorem dX6_cost_51 : decode cX6_cost 51 = .ok (.ireturn, 1) := by decide +kernel
theorem dX6_match_0 : decode cX6_match 0 = .ok (.aload_n 0, 1) := by decide +kernel
theorem dX6_match_1 : decode cX6_match 1 = .ok (.invokevirtual 117, 3) := by decide +kernel
theorem dX6_match_4 : decode cX6_match 4 = .ok (.aload_n 0, 1) := by decide +kernel
theorem dX6_match_5 : decode cX6_match 5 = .ok (.getfield 45, 3) := by decide +kernel
theorem dX6_match_8 : decode cX6_match 8 = .ok (.invokevirtual 120, 3) := by decide +kernel
theorem dX6_match_11 : decode cX6_match 11 = .ok (.ireturn, 1) := by decide +kernel
theorem dX6_costs_0 : decode cX6_costs 0 = .ok (.aload_n 0, 1) := by decide +kernel
theorem dX6_costs_1 : decode cX6_costs 1 = .ok (.invokevirtual 117, 3) := by decide +kernel
theorem dX6_costs_4 : decode cX6_costs 4 = .ok (.aload_n 0, 1) := by decide +kernel
theorem dX6_costs_5 : decode cX6_costs 5 = .ok (.getfield 45, 3) := by decide +kernel
theorem dX6_costs_8 : decode cX6_costs 8 = .ok (.invokevirtual 124, 3) := by decide +kernel
theorem dX6_costs_11 : decode cX6_costs 11 = .ok (.ireturn, 1) := by decide +kernel
theorem dX6_who_0 : decode cX6_who 0 = .ok (.aload_n 0, 1) := by decide +kernel
theorem dX6_who_1 : decode cX6_who 1 = .ok (.iload_n 1, 1) := by decide +kernel
theorem dX6_who_2 : decode cX6_who 2 = .ok (.invokevirtual 102, 3) := by decide +kernel
theorem dX6_who_5 : decode cX6_who 5 = .ok (.ifnonnull 5, 3) := by decide +kernel
theorem dX6_who_8 : decode cX6_who 8 = .ok (.iconst (-1), 1) := by decide +kernel
theorem dX6_who_9 : decode cX6_who 9 = .ok (.ireturn, 1) := by decide +kernel
theorem dX6_who_10 : decode cX6_who 10 = .ok (.aload_n 0, 1) := by decide +kernel
theorem dX6_who_11 : decode cX6_who 11 = .ok (.iload_n 1, 1) := by decide +kernel
theorem dX6_who_12 : decode cX6_who 12 = .ok (.invokevirtual 127, 3) := by decide +kernel
theorem dX6_who_15 : decode cX6_who 15 = .ok (.istore_n 2, 1) := by decide +kernel
theorem dX6_who_16 : decode cX6_who 16 = .ok (.iload_n 2, 1) := by decide +kernel
theorem dX6_who_17 : decode cX6_who 17 = .ok (.iconst (-1), 1) := by decide +kernel
theorem dX6_who_18 : decode cX6_who 18 = .ok (.if_icmp .eq 5, 3) := by decide +kernel
theorem dX6_who_21 : decode cX6_who 21 = .ok (.iload_n 2, 1) := by decide +kernel
theorem dX6_who_22 : decode cX6_who 22 = .ok (.ireturn, 1) := by decide +kernel
theorem dX6_who_23 : decode cX6_who 23 = .ok (.aload_n 0, 1) := by decide +kernel
theorem dX6_who_24 : decode cX6_who 24 = .ok (.invokevirtual 117, 3) := by decide +kernel
theorem dX6_who_27 : decode cX6_who 27 = .ok (.aload_n 0, 1) := by decide +kernel
theorem dX6_who_28 : decode cX6_who 28 = .ok (.getfield 45, 3) := by decide +kernel
theorem dX6_who_31 : decode cX6_who 31 = .ok (.iload_n 1, 1) := by decide +kernel
theorem dX6_who_32 : decode cX6_who 32 = .ok (.invokevirtual 131, 3) := by decide +kernel
theorem dX6_who_35 : decode cX6_who 35 = .ok (.ireturn, 1) := by decide +kernel
theorem dX6_next_0 : decode cX6_next 0 = .ok (.aload_n 0, 1) := by decide +kernel
theorem dX6_next_1 : decode cX6_next 1 = .ok (.invokevirtual 117, 3) := by decide +kernel
theorem dX6_next_4 : decode cX6_next 4 = .ok (.iconst (-1), 1) := by decide +kernel
theorem dX6_next_5 : decode cX6_next 5 = .ok (.istore_n 1, 1) := by decide +kernel
theorem dX6_next_6 : decode cX6_next 6 = .ok (.iconst 0, 1) := by decide +kernel
theorem dX6_next_7 : decode cX6_next 7 = .ok (.istore_n 2, 1) := by decide +kernel
theorem dX6_next_8 : decode cX6_next 8 = .ok (.iload_n 2, 1) := by decide +kernel
theorem dX6_next_9 : decode cX6_next 9 = .ok (.aload_n 0, 1) := by decide +kernel
theorem dX6_next_10 : decode cX6_next 10 = .ok (.getfield 93, 3) := by decide +kernel
theorem dX6_next_13 : decode cX6_next 13 = .ok (.if_icmp .ge 37, 3) := by decide +kernel
theorem dX6_next_16 : decode cX6_next 16 = .ok (.aload_n 0, 1) := by decide +kernel
theorem dX6_next_17 : decode cX6_next 17 = .ok (.getfield 45, 3) := by decide +kernel
theorem dX6_next_20 : decode cX6_next 20 = .ok (.iload_n 2, 1) := by decide +kernel
theorem dX6_next_21 : decode cX6_next 21 = .ok (.invokevirtual 131, 3) := by decide +kernel
theorem dX6_next_24 : decode cX6_next 24 = .ok (.iconst (-1), 1) := by decide +kernel
theorem dX6_next_25 : decode cX6_next 25 = .ok (.if_icmp .eq 19, 3) := by decide +kernel
theorem dX6_next_28 : decode cX6_next 28 = .ok (.iload_n 1, 1) := by decide +kernel
theorem dX6_next_29 : decode cX6_next 29 = .ok (.iconst (-1), 1) := by decide +kernel
theorem dX6_next_30 : decode cX6_next 30 = .ok (.if_icmp .eq 12, 3) := by decide +kernel
theorem dX6_next_33 : decode cX6_next 33 = .ok (.aload_n 0, 1) := by decide +kernel
theorem dX6_next_34 : decode cX6_next 34 = .ok (.iload_n 2, 1) := by decide +kernel
theorem dX6_next_35 : decode cX6_next 35 = .ok (.iload_n 1, 1) := by decide +kernel
theorem dX6_next_36 : decode cX6_next 36 = .ok (.invokevirtual 134, 3) := by decide +kernel
theorem dX6_next_39 : decode cX6_next 39 = .ok (.ifCond .eq 5, 3) := by decide +kernel
theorem dX6_next_42 : decode cX6_next 42 = .ok (.iload_n 2, 1) := by decide +kernel
theorem dX6_next_43 : decode cX6_next 43 = .ok (.istore_n 1, 1) := by decide +kernel
theorem dX6_next_44 : decode cX6_next 44 = .ok (.iinc 2 1, 3) := by decide +kernel
theorem dX6_next_47 : decode cX6_next 47 = .ok (.goto (-39), 3) := by decide +kernel
theorem dX6_next_50 : decode cX6_next 50 = .ok (.iload_n 1, 1) := by decide +kernel
theorem dX6_next_51 : decode cX6_next 51 = .ok (.iconst (-1), 1) := by decide +kernel
theorem dX6_next_52 : decode cX6_next 52 = .ok (.if_icmp .ne 7, 3) := by decide +kernel
theorem dX6_next_55 : decode cX6_next 55 = .ok (.iconst (-1), 1) := by decide +kernel
theorem dX6_next_56 : decode cX6_next 56 = .ok (.goto 11, 3) := by decide +kernel
theorem dX6_next_59 : decode cX6_next 59 = .ok (.aload_n 0, 1) := by decide +kernel
theorem dX6_next_60 : decode cX6_next 60 = .ok (.getfield 45, 3) := by decide +kernel
theorem dX6_next_63 : decode cX6_next 63 = .ok (.iload_n 1, 1) := by decide +kernel
theorem dX6_next_64 : decode cX6_next 64 = .ok (.invokevirtual 131, 3) := by decide +kernel
theorem dX6_next_67 : decode cX6_next 67 = .ok (.ireturn, 1) := by decide +kernel
theorem dX6_answer_0 : decode cX6_answer 0 = .ok (.aload_n 0, 1) := by decide +kernel
theorem dX6_answer_1 : decode cX6_answer 1 = .ok (.iload_n 1, 1) := by decide +kernel
theorem dX6_answer_2 : decode cX6_answer 2 = .ok (.invokevirtual 75, 3) := by decide +kernel
theorem dX6_answer_5 : decode cX6_answer 5 = .ok (.astore_n 3, 1) := by decide +kernel
theorem dX6_answer_6 : decode cX6_answer 6 = .ok (.aload_n 3, 1) := by decide +kernel
theorem dX6_answer_7 : decode cX6_answer 7 = .ok (.ifnull 12, 3) := by decide +kernel
theorem dX6_answer_10 : decode cX6_answer 10 = .ok (.iload_n 2, 1) := by decide +kernel
theorem dX6_answer_11 : decode cX6_answer 11 = .ok (.iconst 0, 1) := by decide +kernel
theorem dX6_answer_12 : decode cX6_answer 12 = .ok (.iconst 2, 1) := by decide +kernel
theorem dX6_answer_13 : decode cX6_answer 13 = .ok (.invokestatic 61, 3) := by decide +kernel
theorem dX6_answer_16 : decode cX6_answer 16 = .ok (.ifCond .ne 5, 3) := by decide +kernel
theorem dX6_answer_19 : decode cX6_answer 19 = .ok (.iconst 0, 1) := by decide +kernel
theorem dX6_answer_20 : decode cX6_answer 20 = .ok (.ireturn, 1) := by decide +kernel
theorem dX6_answer_21 : decode cX6_answer 21 = .ok (.aload_n 0, 1) := by decide +kernel
theorem dX6_answer_22 : decode cX6_answer 22 = .ok (.invokevirtual 117, 3) := by decide +kernel
theorem dX6_answer_25 : decode cX6_answer 25 = .ok (.aload_n 0, 1) := by decide +kernel
theorem dX6_answer_26 : decode cX6_answer 26 = .ok (.getfield 45, 3) := by decide +kernel
theorem dX6_answer_29 : decode cX6_answer 29 = .ok (.iload_n 1, 1) := by decide +kernel
theorem dX6_answer_30 : decode cX6_answer 30 = .ok (.invokevirtual 138, 3) := by decide +kernel
theorem dX6_answer_33 : decode cX6_answer 33 = .ok (.istore 4, 2) := by decide +kernel
theorem dX6_answer_35 : decode cX6_answer 35 = .ok (.iload 4, 2) := by decide +kernel
theorem dX6_answer_37 : decode cX6_answer 37 = .ok (.iconst (-1), 1) := by decide +kernel
theorem dX6_answer_38 : decode cX6_answer 38 = .ok (.if_icmp .ne 5, 3) := by decide +kernel
theorem dX6_answer_41 : decode cX6_answer 41 = .ok (.iconst 0, 1) := by decide +kernel
theorem dX6_answer_42 : decode cX6_answer 42 = .ok (.ireturn, 1) := by decide +kernel
theorem dX6_answer_43 : decode cX6_answer 43 = .ok (.aload_n 3, 1) := by decide +kernel
theorem dX6_answer_44 : decode cX6_answer 44 = .ok (.iload_n 2, 1) := by decide +kernel
theorem dX6_answer_45 : decode cX6_answer 45 = .ok (.iload 4, 2) := by decide +kernel
theorem dX6_answer_47 : decode cX6_answer 47 = .ok (.aload_n 0, 1) := by decide +kernel
theorem dX6_answer_48 : decode cX6_answer 48 = .ok (.getfield 19, 3) := by decide +kernel
theorem dX6_answer_51 : decode cX6_answer 51 = .ok (.bipush 6, 2) := by decide +kernel
theorem dX6_answer_53 : decode cX6_answer 53 = .ok (.invokevirtual 141, 3) := by decide +kernel
theorem dX6_answer_56 : decode cX6_answer 56 = .ok (.invokevirtual 144, 3) := by decide +kernel
theorem dX6_answer_59 : decode cX6_answer 59 = .ok (.iconst 1, 1) := by decide +kernel
theorem dX6_answer_60 : decode cX6_answer 60 = .ok (.ireturn, 1) := by decide +kernel
theorem dX6_hall_0 : decode cX6_hall 0 = .ok (.aload_n 0, 1) := by decide +kernel
theorem dX6_hall_1 : decode cX6_hall 1 = .ok (.invokevirtual 147, 3) := by decide +kernel
theorem dX6_hall_4 : decode cX6_hall 4 = .ok (.aload_n 0, 1) := by decide +kernel
theorem dX6_hall_5 : decode cX6_hall 5 = .ok (.getfield 45, 3) := by decide +kernel
theorem dX6_hall_8 : decode cX6_hall 8 = .ok (.invokevirtual 150, 3) := by decide +kernel
theorem dX6_hall_11 : decode cX6_hall 11 = .ok (.ireturn, 1) := by decide +kernel
theorem dX6_day_0 : decode cX6_day 0 = .ok (.aload_n 0, 1) := by decide +kernel
theorem dX6_day_1 : decode cX6_day 1 = .ok (.getfield 106, 3) := by decide +kernel
theorem dX6_day_4 : decode cX6_day 4 = .ok (.sipush 2000, 3) := by decide +kernel
theorem dX6_day_7 : decode cX6_day 7 = .ok (.if_icmp .lt 5, 3) := by decide +kernel
theorem dX6_day_10 : decode cX6_day 10 = .ok (.iconst (-1), 1) := by decide +kernel
theorem dX6_day_11 : decode cX6_day 11 = .ok (.ireturn, 1) := by decide +kernel
theorem dX6_day_12 : decode cX6_day 12 = .ok (.iconst 0, 1) := by decide +kernel
theorem dX6_day_13 : decode cX6_day 13 = .ok (.istore_n 1, 1) := by decide +kernel
theorem dX6_day_14 : decode cX6_day 14 = .ok (.iload_n 1, 1) := by decide +kernel
theorem dX6_day_15 : decode cX6_day 15 = .ok (.aload_n 0, 1) := by decide +kernel
theorem dX6_day_16 : decode cX6_day 16 = .ok (.getfield 69, 3) := by decide +kernel
theorem dX6_day_19 : decode cX6_day 19 = .ok (.if_icmp .ge 14, 3) := by decide +kernel
theorem dX6_day_22 : decode cX6_day 22 = .ok (.aload_n 0, 1) := by decide +kernel
theorem dX6_day_23 : decode cX6_day 23 = .ok (.iload_n 1, 1) := by decide +kernel
theorem dX6_day_24 : decode cX6_day 24 = .ok (.invokevirtual 153, 3) := by decide +kernel
theorem dX6_day_27 : decode cX6_day 27 = .ok (.iinc 1 1, 3) := by decide +kernel
theorem dX6_day_30 : decode cX6_day 30 = .ok (.goto (-16), 3) := by decide +kernel
theorem dX6_day_33 : decode cX6_day 33 = .ok (.aload_n 0, 1) := by decide +kernel
theorem dX6_day_34 : decode cX6_day 34 = .ok (.iconst 0, 1) := by decide +kernel
theorem dX6_day_35 : decode cX6_day 35 = .ok (.putfield 93, 3) := by decide +kernel
theorem dX6_day_38 : decode cX6_day 38 = .ok (.aload_n 0, 1) := by decide +kernel
theorem dX6_day_39 : decode cX6_day 39 = .ok (.dup, 1) := by decide +kernel
theorem dX6_day_40 : decode cX6_day 40 = .ok (.getfield 106, 3) := by decide +kernel
theorem dX6_day_43 : decode cX6_day 43 = .ok (.iconst 1, 1) := by decide +kernel
theorem dX6_day_44 : decode cX6_day 44 = .ok (.iadd, 1) := by decide +kernel
theorem dX6_day_45 : decode cX6_day 45 = .ok (.putfield 106, 3) := by decide +kernel
theorem dX6_day_48 : decode cX6_day 48 = .ok (.aload_n 0, 1) := by decide +kernel
theorem dX6_day_49 : decode cX6_day 49 = .ok (.getfield 106, 3) := by decide +kernel
theorem dX6_day_52 : decode cX6_day 52 = .ok (.ireturn, 1) := by decide +kernel
theorem dX6_pay_0 : decode cX6_pay 0 = .ok (.aload_n 0, 1) := by decide +kernel
theorem dX6_pay_1 : decode cX6_pay 1 = .ok (.iload_n 1, 1) := by decide +kernel
theorem dX6_pay_2 : decode cX6_pay 2 = .ok (.invokevirtual 75, 3) := by decide +kernel
theorem dX6_pay_5 : decode cX6_pay 5 = .ok (.astore_n 2, 1) := by decide +kernel
theorem dX6_pay_6 : decode cX6_pay 6 = .ok (.aload_n 2, 1) := by decide +kernel
theorem dX6_pay_7 : decode cX6_pay 7 = .ok (.ifnonnull 7, 3) := by decide +kernel
theorem dX6_pay_10 : decode cX6_pay 10 = .ok (.lconst 0, 1) := by decide +kernel
theorem dX6_pay_11 : decode cX6_pay 11 = .ok (.goto 7, 3) := by decide +kernel
theorem dX6_pay_14 : decode cX6_pay 14 = .ok (.aload_n 2, 1) := by decide +kernel
theorem dX6_pay_15 : decode cX6_pay 15 = .ok (.getfield 156, 3) := by decide +kernel
theorem dX6_pay_18 : decode cX6_pay 18 = .ok (.lreturn, 1) := by decide +kernel
theorem dX6_strangers_0 : decode cX6_strangers 0 = .ok (.iload_n 1, 1) := by decide +kernel
theorem dX6_strangers_1 : decode cX6_strangers 1 = .ok (.invokestatic 79, 3) := by decide +kernel
theorem dX6_strangers_4 : decode cX6_strangers 4 = .ok (.ifCond .eq 10, 3) := by decide +kernel
theorem dX6_strangers_7 : decode cX6_strangers 7 = .ok (.iload_n 2, 1) := by decide +kernel
theorem dX6_strangers_8 : decode cX6_strangers 8 = .ok (.invokestatic 96, 3) := by decide +kernel
theorem dX6_strangers_11 : decode cX6_strangers 11 = .ok (.ifCond .ne 5, 3) := by decide +kernel
theorem dX6_strangers_14 : decode cX6_strangers 14 = .ok (.iconst (-1), 1) := by decide +kernel
theorem dX6_strangers_15 : decode cX6_strangers 15 = .ok (.ireturn, 1) := by decide +kernel
theorem dX6_strangers_16 : decode cX6_strangers 16 = .ok (.aload_n 0, 1) := by decide +kernel
theorem dX6_strangers_17 : decode cX6_strangers 17 = .ok (.getfield 38, 3) := by decide +kernel
theorem dX6_strangers_20 : decode cX6_strangers 20 = .ok (.iload_n 1, 1) := by decide +kernel
theorem dX6_strangers_21 : decode cX6_strangers 21 = .ok (.iload_n 2, 1) := by decide +kernel
theorem dX6_strangers_22 : decode cX6_strangers 22 = .ok (.aload_n 0, 1) := by decide +kernel
theorem dX6_strangers_23 : decode cX6_strangers 23 = .ok (.getfield 106, 3) := by decide +kernel
theorem dX6_strangers_26 : decode cX6_strangers 26 = .ok (.invokevirtual 160, 3) := by decide +kernel
theorem dX6_strangers_29 : decode cX6_strangers 29 = .ok (.ireturn, 1) := by decide +kernel
theorem dX6_look_0 : decode cX6_look 0 = .ok (.aload_n 0, 1) := by decide +kernel
theorem dX6_look_1 : decode cX6_look 1 = .ok (.iload_n 1, 1) := by decide +kernel
theorem dX6_look_2 : decode cX6_look 2 = .ok (.invokevirtual 75, 3) := by decide +kernel
theorem dX6_look_5 : decode cX6_look 5 = .ok (.astore_n 3, 1) := by decide +kernel
theorem dX6_look_6 : decode cX6_look 6 = .ok (.aload_n 3, 1) := by decide +kernel
theorem dX6_look_7 : decode cX6_look 7 = .ok (.ifnonnull 5, 3) := by decide +kernel
theorem dX6_look_10 : decode cX6_look 10 = .ok (.iconst (-1), 1) := by decide +kernel
theorem dX6_look_11 : decode cX6_look 11 = .ok (.ireturn, 1) := by decide +kernel
theorem dX6_look_12 : decode cX6_look 12 = .ok (.iload_n 2, 1) := by decide +kernel
theorem dX6_look_13 : decode cX6_look 13 = .ok (.tableswitch 96 0 8 #[51, 56, 61, 66, 71, 76, 81, 86, 91], 51) := by decide +kernel
theorem dX6_look_64 : decode cX6_look 64 = .ok (.aload_n 3, 1) := by decide +kernel
theorem dX6_look_65 : decode cX6_look 65 = .ok (.getfield 164, 3) := by decide +kernel
theorem dX6_look_68 : decode cX6_look 68 = .ok (.ireturn, 1) := by decide +kernel
theorem dX6_look_69 : decode cX6_look 69 = .ok (.aload_n 3, 1) := by decide +kernel
theorem dX6_look_70 : decode cX6_look 70 = .ok (.getfield 167, 3) := by decide +kernel
theorem dX6_look_73 : decode cX6_look 73 = .ok (.ireturn, 1) := by decide +kernel
theorem dX6_look_74 : decode cX6_look 74 = .ok (.aload_n 3, 1) := by decide +kernel
theorem dX6_look_75 : decode cX6_look 75 = .ok (.getfield 170, 3) := by decide +kernel
theorem dX6_look_78 : decode cX6_look 78 = .ok (.ireturn, 1) := by decide +kernel
theorem dX6_look_79 : decode cX6_look 79 = .ok (.aload_n 3, 1) := by decide +kernel
theorem dX6_look_80 : decode cX6_look 80 = .ok (.getfield 173, 3) := by decide +kernel
theorem dX6_look_83 : decode cX6_look 83 = .ok (.ireturn, 1) := by decide +kernel
theorem dX6_look_84 : decode cX6_look 84 = .ok (.aload_n 3, 1) := by decide +kernel
theorem dX6_look_85 : decode cX6_look 85 = .ok (.getfield 176, 3) := by decide +kernel
theorem dX6_look_88 : decode cX6_look 88 = .ok (.ireturn, 1) := by decide +kernel
theorem dX6_look_89 : decode cX6_look 89 = .ok (.aload_n 3, 1) := by decide +kernel
theorem dX6_look_90 : decode cX6_look 90 = .ok (.getfield 179, 3) := by decide +kernel
theorem dX6_look_93 : decode cX6_look 93 = .ok (.ireturn, 1) := by decide +kernel
theorem dX6_look_94 : decode cX6_look 94 = .ok (.aload_n 3, 1) := by decide +kernel
theorem dX6_look_95 : decode cX6_look 95 = .ok (.getfield 182, 3) := by decide +kernel
theorem dX6_look_98 : decode cX6_look 98 = .ok (.ireturn, 1) := by decide +kernel
theorem dX6_look_99 : decode cX6_look 99 = .ok (.aload_n 3, 1) := by decide +kernel
theorem dX6_look_100 : decode cX6_look 100 = .ok (.getfield 87, 3) := by decide +kernel
theorem dX6_look_103 : decode cX6_look 103 = .ok (.ireturn, 1) := by decide +kernel
theorem dX6_look_104 : decode cX6_look 104 = .ok (.aload_n 3, 1) := by decide +kernel
theorem dX6_look_105 : decode cX6_look 105 = .ok (.getfield 90, 3) := by decide +kernel
theorem dX6_look_108 : decode cX6_look 108 = .ok (.ireturn, 1) := by decide +kernel
theorem dX6_look_109 : decode cX6_look 109 = .ok (.iload_n 2, 1) := by decide +kernel
theorem dX6_look_110 : decode cX6_look 110 = .ok (.bipush 10, 2) := by decide +kernel
theorem dX6_look_112 : decode cX6_look 112 = .ok (.bipush 15, 2) := by decide +kernel
theorem dX6_look_114 : decode cX6_look 114 = .ok (.invokestatic 61, 3) := by decide +kernel
theorem dX6_look_117 : decode cX6_look 117 = .ok (.ifCond .eq 14, 3) := by decide +kernel
theorem dX6_look_120 : decode cX6_look 120 = .ok (.aload_n 3, 1) := by decide +kernel
theorem dX6_look_121 : decode cX6_look 121 = .ok (.iload_n 2, 1) := by decide +kernel
theorem dX6_look_122 : decode cX6_look 122 = .ok (.bipush 10, 2) := by decide +kernel
theorem dX6_look_124 : decode cX6_look 124 = .ok (.isub, 1) := by decide +kernel
theorem dX6_look_125 : decode cX6_look 125 = .ok (.invokevirtual 185, 3) := by decide +kernel
theorem dX6_look_128 : decode cX6_look 128 = .ok (.goto 4, 3) := by decide +kernel
theorem dX6_look_131 : decode cX6_look 131 = .ok (.iconst (-1), 1) := by decide +kernel
theorem dX6_look_132 : decode cX6_look 132 = .ok (.ireturn, 1) := by decide +kernel
theorem dX6_about_0 : decode cX6_about 0 = .ok (.aload_n 0, 1) := by decide +kernel
theorem dX6_about_1 : decode cX6_about 1 = .ok (.iload_n 1, 1) := by decide +kernel
theorem dX6_about_2 : decode cX6_about 2 = .ok (.invokevirtual 102, 3) := by decide +kernel
theorem dX6_about_5 : decode cX6_about 5 = .ok (.astore_n 3, 1) := by decide +kernel
theorem dX6_about_6 : decode cX6_about 6 = .ok (.aload_n 3, 1) := by decide +kernel
theorem dX6_about_7 : decode cX6_about 7 = .ok (.ifnonnull 5, 3) := by decide +kernel
theorem dX6_about_10 : decode cX6_about 10 = .ok (.iconst (-1), 1) := by decide +kernel
theorem dX6_about_11 : decode cX6_about 11 = .ok (.ireturn, 1) := by decide +kernel
theorem dX6_about_12 : decode cX6_about 12 = .ok (.iload_n 2, 1) := by decide +kernel
theorem dX6_about_13 : decode cX6_about 13 = .ok (.tableswitch 60 0 4 #[35, 40, 45, 50, 55], 35) := by decide +kernel
theorem dX6_about_48 : decode cX6_about 48 = .ok (.aload_n 3, 1) := by decide +kernel
theorem dX6_about_49 : decode cX6_about 49 = .ok (.getfield 188, 3) := by decide +kernel
theorem dX6_about_52 : decode cX6_about 52 = .ok (.ireturn, 1) := by decide +kernel
theorem dX6_about_53 : decode cX6_about 53 = .ok (.aload_n 3, 1) := by decide +kernel
theorem dX6_about_54 : decode cX6_about 54 = .ok (.getfield 191, 3) := by decide +kernel
theorem dX6_about_57 : decode cX6_about 57 = .ok (.ireturn, 1) := by decide +kernel
theorem dX6_about_58 : decode cX6_about 58 = .ok (.aload_n 3, 1) := by decide +kernel
theorem dX6_about_59 : decode cX6_about 59 = .ok (.getfield 194, 3) := by decide +kernel
theorem dX6_about_62 : decode cX6_about 62 = .ok (.ireturn, 1) := by decide +kernel
theorem dX6_about_63 : decode cX6_about 63 = .ok (.aload_n 3, 1) := by decide +kernel
theorem dX6_about_64 : decode cX6_about 64 = .ok (.getfield 197, 3) := by decide +kernel
theorem dX6_about_67 : decode cX6_about 67 = .ok (.ireturn, 1) := by decide +kernel
theorem dX6_about_68 : decode cX6_about 68 = .ok (.aload_n 3, 1) := by decide +kernel
theorem dX6_about_69 : decode cX6_about 69 = .ok (.getfield 200, 3) := by decide +kernel
theorem dX6_about_72 : decode cX6_about 72 = .ok (.ireturn, 1) := by decide +kernel
theorem dX6_about_73 : decode cX6_about 73 = .ok (.iconst (-1), 1) := by decide +kernel
theorem dX6_about_74 : decode cX6_about 74 = .ok (.ireturn, 1) := by decide +kernel
theorem dX6_count_0 : decode cX6_count 0 = .ok (.iload_n 1, 1) := by decide +kernel
theorem dX6_count_1 : decode cX6_count 1 = .ok (.tableswitch 86 0 6 #[43, 48, 53, 58, 64, 70, 78], 43) := by decide +kernel
theorem dX6_count_44 : decode cX6_count 44 = .ok (.aload_n 0, 1) := by decide +kernel
theorem dX6_count_45 : decode cX6_count 45 = .ok (.getfield 106, 3) := by decide +kernel
theorem dX6_count_48 : decode cX6_count 48 = .ok (.ireturn, 1) := by decide +kernel
theorem dX6_count_49 : decode cX6_count 49 = .ok (.aload_n 0, 1) := by decide +kernel
theorem dX6_count_50 : decode cX6_count 50 = .ok (.getfield 69, 3) := by decide +kernel
theorem dX6_count_53 : decode cX6_count 53 = .ok (.ireturn, 1) := by decide +kernel
theorem dX6_count_54 : decode cX6_count 54 = .ok (.aload_n 0, 1) := by decide +kernel
theorem dX6_count_55 : decode cX6_count 55 = .ok (.getfield 93, 3) := by decide +kernel
theorem dX6_count_58 : decode cX6_count 58 = .ok (.ireturn, 1) := by decide +kernel
theorem dX6_count_59 : decode cX6_count 59 = .ok (.aload_n 0, 1) := by decide +kernel
theorem dX6_count_60 : decode cX6_count 60 = .ok (.iconst 1, 1) := by decide +kernel
theorem dX6_count_61 : decode cX6_count 61 = .ok (.invokevirtual 203, 3) := by decide +kernel
theorem dX6_count_64 : decode cX6_count 64 = .ok (.ireturn, 1) := by decide +kernel
theorem dX6_count_65 : decode cX6_count 65 = .ok (.aload_n 0, 1) := by decide +kernel
theorem dX6_count_66 : decode cX6_count 66 = .ok (.iconst 2, 1) := by decide +kernel
theorem dX6_count_67 : decode cX6_count 67 = .ok (.invokevirtual 203, 3) := by decide +kernel
theorem dX6_count_70 : decode cX6_count 70 = .ok (.ireturn, 1) := by decide +kernel
theorem dX6_count_71 : decode cX6_count 71 = .ok (.aload_n 0, 1) := by decide +kernel
theorem dX6_count_72 : decode cX6_count 72 = .ok (.getfield 10, 3) := by decide +kernel
theorem dX6_count_75 : decode cX6_count 75 = .ok (.getfield 57, 3) := by decide +kernel
theorem dX6_count_78 : decode cX6_count 78 = .ok (.ireturn, 1) := by decide +kernel
theorem dX6_count_79 : decode cX6_count 79 = .ok (.aload_n 0, 1) := by decide +kernel
theorem dX6_count_80 : decode cX6_count 80 = .ok (.getfield 38, 3) := by decide +kernel
theorem dX6_count_83 : decode cX6_count 83 = .ok (.getfield 206, 3) := by decide +kernel
theorem dX6_count_86 : decode cX6_count 86 = .ok (.ireturn, 1) := by decide +kernel
theorem dX6_count_87 : decode cX6_count 87 = .ok (.iload_n 1, 1) := by decide +kernel
theorem dX6_count_88 : decode cX6_count 88 = .ok (.bipush 10, 2) := by decide +kernel
theorem dX6_count_90 : decode cX6_count 90 = .ok (.bipush 16, 2) := by decide +kernel
theorem dX6_count_92 : decode cX6_count 92 = .ok (.invokestatic 61, 3) := by decide +kernel
theorem dX6_count_95 : decode cX6_count 95 = .ok (.ifCond .eq 17, 3) := by decide +kernel
theorem dX6_count_98 : decode cX6_count 98 = .ok (.aload_n 0, 1) := by decide +kernel
theorem dX6_count_99 : decode cX6_count 99 = .ok (.getfield 19, 3) := by decide +kernel
theorem dX6_count_102 : decode cX6_count 102 = .ok (.iload_n 1, 1) := by decide +kernel
theorem dX6_count_103 : decode cX6_count 103 = .ok (.bipush 10, 2) := by decide +kernel
theorem dX6_count_105 : decode cX6_count 105 = .ok (.isub, 1) := by decide +kernel
theorem dX6_count_106 : decode cX6_count 106 = .ok (.invokevirtual 141, 3) := by decide +kernel
theorem dX6_count_109 : decode cX6_count 109 = .ok (.goto 4, 3) := by decide +kernel
theorem dX6_count_112 : decode cX6_count 112 = .ok (.iconst (-1), 1) := by decide +kernel
theorem dX6_count_113 : decode cX6_count 113 = .ok (.ireturn, 1) := by decide +kernel
theorem dX6_within_0 : decode cX6_within 0 = .ok (.iload_n 0, 1) := by decide +kernel
theorem dX6_within_1 : decode cX6_within 1 = .ok (.iload_n 1, 1) := by decide +kernel
theorem dX6_within_2 : decode cX6_within 2 = .ok (.if_icmp .lt 12, 3) := by decide +kernel
theorem dX6_within_5 : decode cX6_within 5 = .ok (.iload_n 0, 1) := by decide +kernel
theorem dX6_within_6 : decode cX6_within 6 = .ok (.iload_n 2, 1) := by decide +kernel
theorem dX6_within_7 : decode cX6_within 7 = .ok (.if_icmp .gt 7, 3) := by decide +kernel
theorem dX6_within_10 : decode cX6_within 10 = .ok (.iconst 1, 1) := by decide +kernel
theorem dX6_within_11 : decode cX6_within 11 = .ok (.goto 4, 3) := by decide +kernel
theorem dX6_within_14 : decode cX6_within 14 = .ok (.iconst 0, 1) := by decide +kernel
theorem dX6_within_15 : decode cX6_within 15 = .ok (.ireturn, 1) := by decide +kernel
theorem dX6_isSchool_0 : decode cX6_isSchool 0 = .ok (.iload_n 0, 1) := by decide +kernel
theorem dX6_isSchool_1 : decode cX6_isSchool 1 = .ok (.iconst 0, 1) := by decide +kernel
theorem dX6_isSchool_2 : decode cX6_isSchool 2 = .ok (.iconst 5, 1) := by decide +kernel
theorem dX6_isSchool_3 : decode cX6_isSchool 3 = .ok (.invokestatic 61, 3) := by decide +kernel
theorem dX6_isSchool_6 : decode cX6_isSchool 6 = .ok (.ireturn, 1) := by decide +kernel
theorem dX6_isClass_0 : decode cX6_isClass 0 = .ok (.iload_n 0, 1) := by decide +kernel
theorem dX6_isClass_1 : decode cX6_isClass 1 = .ok (.iconst 0, 1) := by decide +kernel
theorem dX6_isClass_2 : decode cX6_isClass 2 = .ok (.bipush 15, 2) := by decide +kernel
theorem dX6_isClass_4 : decode cX6_isClass 4 = .ok (.invokestatic 61, 3) := by decide +kernel
theorem dX6_isClass_7 : decode cX6_isClass 7 = .ok (.ireturn, 1) := by decide +kernel
theorem dX6_hasBit_0 : decode cX6_hasBit 0 = .ok (.iload_n 0, 1) := by decide +kernel
theorem dX6_hasBit_1 : decode cX6_hasBit 1 = .ok (.iload_n 1, 1) := by decide +kernel
theorem dX6_hasBit_2 : decode cX6_hasBit 2 = .ok (.ishr, 1) := by decide +kernel
theorem dX6_hasBit_3 : decode cX6_hasBit 3 = .ok (.iconst 1, 1) := by decide +kernel
theorem dX6_hasBit_4 : decode cX6_hasBit 4 = .ok (.iand, 1) := by decide +kernel
theorem dX6_hasBit_5 : decode cX6_hasBit 5 = .ok (.iconst 1, 1) := by decide +kernel
theorem dX6_hasBit_6 : decode cX6_hasBit 6 = .ok (.if_icmp .ne 7, 3) := by decide +kernel
theorem dX6_hasBit_9 : decode cX6_hasBit 9 = .ok (.iconst 1, 1) := by decide +kernel
theorem dX6_hasBit_10 : decode cX6_hasBit 10 = .ok (.goto 4, 3) := by decide +kernel
theorem dX6_hasBit_13 : decode cX6_hasBit 13 = .ok (.iconst 0, 1) := by decide +kernel
theorem dX6_hasBit_14 : decode cX6_hasBit 14 = .ok (.ireturn, 1) := by decide +kernel
theorem dX6_teacherAt_0 : decode cX6_teacherAt 0 = .ok (.iload_n 1, 1) := by decide +kernel
theorem dX6_teacherAt_1 : decode cX6_teacherAt 1 = .ok (.iconst 0, 1) := by decide +kernel
theorem dX6_teacherAt_2 : decode cX6_teacherAt 2 = .ok (.aload_n 0, 1) := by decide +kernel
theorem dX6_teacherAt_3 : decode cX6_teacherAt 3 = .ok (.getfield 69, 3) := by decide +kernel
theorem dX6_teacherAt_6 : decode cX6_teacherAt 6 = .ok (.iconst 1, 1) := by decide +kernel
theorem dX6_teacherAt_7 : decode cX6_teacherAt 7 = .ok (.isub, 1) := by decide +kernel
theorem dX6_teacherAt_8 : decode cX6_teacherAt 8 = .ok (.invokestatic 61, 3) := by decide +kernel
theorem dX6_teacherAt_11 : decode cX6_teacherAt 11 = .ok (.ifCond .eq 12, 3) := by decide +kernel
theorem dX6_teacherAt_14 : decode cX6_teacherAt 14 = .ok (.aload_n 0, 1) := by decide +kernel
theorem dX6_teacherAt_15 : decode cX6_teacherAt 15 = .ok (.getfield 25, 3) := by decide +kernel
theorem dX6_teacherAt_18 : decode cX6_teacherAt 18 = .ok (.iload_n 1, 1) := by decide +kernel
theorem dX6_teacherAt_19 : decode cX6_teacherAt 19 = .ok (.aaload, 1) := by decide +kernel
theorem dX6_teacherAt_20 : decode cX6_teacherAt 20 = .ok (.goto 4, 3) := by decide +kernel
theorem dX6_teacherAt_23 : decode cX6_teacherAt 23 = .ok (.aconst_null, 1) := by decide +kernel
theorem dX6_teacherAt_24 : decode cX6_teacherAt 24 = .ok (.areturn, 1) := by decide +kernel
theorem dX6_gapAt_0 : decode cX6_gapAt 0 = .ok (.iload_n 1, 1) := by decide +kernel
theorem dX6_gapAt_1 : decode cX6_gapAt 1 = .ok (.iconst 0, 1) := by decide +kernel
theorem dX6_gapAt_2 : decode cX6_gapAt 2 = .ok (.aload_n 0, 1) := by decide +kernel
theorem dX6_gapAt_3 : decode cX6_gapAt 3 = .ok (.getfield 93, 3) := by decide +kernel
theorem dX6_gapAt_6 : decode cX6_gapAt 6 = .ok (.iconst 1, 1) := by decide +kernel
theorem dX6_gapAt_7 : decode cX6_gapAt 7 = .ok (.isub, 1) := by decide +kernel
theorem dX6_gapAt_8 : decode cX6_gapAt 8 = .ok (.invokestatic 61, 3) := by decide +kernel
theorem dX6_gapAt_11 : decode cX6_gapAt 11 = .ok (.ifCond .eq 12, 3) := by decide +kernel
theorem dX6_gapAt_14 : decode cX6_gapAt 14 = .ok (.aload_n 0, 1) := by decide +kernel
theorem dX6_gapAt_15 : decode cX6_gapAt 15 = .ok (.getfield 31, 3) := by decide +kernel
theorem dX6_gapAt_18 : decode cX6_gapAt 18 = .ok (.iload_n 1, 1) := by decide +kernel
theorem dX6_gapAt_19 : decode cX6_gapAt 19 = .ok (.aaload, 1) := by decide +kernel
theorem dX6_gapAt_20 : decode cX6_gapAt 20 = .ok (.goto 4, 3) := by decide +kernel
theorem dX6_gapAt_23 : decode cX6_gapAt 23 = .ok (.aconst_null, 1) := by decide +kernel
theorem dX6_gapAt_24 : decode cX6_gapAt 24 = .ok (.areturn, 1) := by decide +kernel
theorem dX6_sentTo_0 : decode cX6_sentTo 0 = .ok (.iconst 0, 1) := by decide +kernel
theorem dX6_sentTo_1 : decode cX6_sentTo 1 = .ok (.istore_n 2, 1) := by decide +kernel
theorem dX6_sentTo_2 : decode cX6_sentTo 2 = .ok (.iload_n 2, 1) := by decide +kernel
theorem dX6_sentTo_3 : decode cX6_sentTo 3 = .ok (.aload_n 0, 1) := by decide +kernel
theorem dX6_sentTo_4 : decode cX6_sentTo 4 = .ok (.getfield 69, 3) := by decide +kernel
theorem dX6_sentTo_7 : decode cX6_sentTo 7 = .ok (.if_icmp .ge 37, 3) := by decide +kernel
theorem dX6_sentTo_10 : decode cX6_sentTo 10 = .ok (.aload_n 0, 1) := by decide +kernel
theorem dX6_sentTo_11 : decode cX6_sentTo 11 = .ok (.iload_n 2, 1) := by decide +kernel
theorem dX6_sentTo_12 : decode cX6_sentTo 12 = .ok (.invokevirtual 75, 3) := by decide +kernel
theorem dX6_sentTo_15 : decode cX6_sentTo 15 = .ok (.astore_n 3, 1) := by decide +kernel
theorem dX6_sentTo_16 : decode cX6_sentTo 16 = .ok (.aload_n 3, 1) := by decide +kernel
theorem dX6_sentTo_17 : decode cX6_sentTo 17 = .ok (.ifnull 21, 3) := by decide +kernel
theorem dX6_sentTo_20 : decode cX6_sentTo 20 = .ok (.aload_n 3, 1) := by decide +kernel
theorem dX6_sentTo_21 : decode cX6_sentTo 21 = .ok (.getfield 173, 3) := by decide +kernel
theorem dX6_sentTo_24 : decode cX6_sentTo 24 = .ok (.iconst 1, 1) := by decide +kernel
theorem dX6_sentTo_25 : decode cX6_sentTo 25 = .ok (.if_icmp .ne 13, 3) := by decide +kernel
theorem dX6_sentTo_28 : decode cX6_sentTo 28 = .ok (.aload_n 3, 1) := by decide +kernel
theorem dX6_sentTo_29 : decode cX6_sentTo 29 = .ok (.getfield 176, 3) := by decide +kernel
theorem dX6_sentTo_32 : decode cX6_sentTo 32 = .ok (.iload_n 1, 1) := by decide +kernel
theorem dX6_sentTo_33 : decode cX6_sentTo 33 = .ok (.if_icmp .ne 5, 3) := by decide +kernel
theorem dX6_sentTo_36 : decode cX6_sentTo 36 = .ok (.iload_n 2, 1) := by decide +kernel
theorem dX6_sentTo_37 : decode cX6_sentTo 37 = .ok (.ireturn, 1) := by decide +kernel
theorem dX6_sentTo_38 : decode cX6_sentTo 38 = .ok (.iinc 2 1, 3) := by decide +kernel
theorem dX6_sentTo_41 : decode cX6_sentTo 41 = .ok (.goto (-39), 3) := by decide +kernel
theorem dX6_sentTo_44 : decode cX6_sentTo 44 = .ok (.iconst (-1), 1) := by decide +kernel
theorem dX6_sentTo_45 : decode cX6_sentTo 45 = .ok (.ireturn, 1) := by decide +kernel
theorem dX6_countInState_0 : decode cX6_countInState 0 = .ok (.iconst 0, 1) := by decide +kernel
theorem dX6_countInState_1 : decode cX6_countInState 1 = .ok (.istore_n 2, 1) := by decide +kernel
theorem dX6_countInState_2 : decode cX6_countInState 2 = .ok (.iconst 0, 1) := by decide +kernel
theorem dX6_countInState_3 : decode cX6_countInState 3 = .ok (.istore_n 3, 1) := by decide +kernel
theorem dX6_countInState_4 : decode cX6_countInState 4 = .ok (.iload_n 3, 1) := by decide +kernel
theorem dX6_countInState_5 : decode cX6_countInState 5 = .ok (.aload_n 0, 1) := by decide +kernel
theorem dX6_countInState_6 : decode cX6_countInState 6 = .ok (.getfield 69, 3) := by decide +kernel
theorem dX6_countInState_9 : decode cX6_countInState 9 = .ok (.if_icmp .ge 33, 3) := by decide +kernel
theorem dX6_countInState_12 : decode cX6_countInState 12 = .ok (.aload_n 0, 1) := by decide +kernel
theorem dX6_countInState_13 : decode cX6_countInState 13 = .ok (.iload_n 3, 1) := by decide +kernel
theorem dX6_countInState_14 : decode cX6_countInState 14 = .ok (.invokevirtual 75, 3) := by decide +kernel
theorem dX6_countInState_17 : decode cX6_countInState 17 = .ok (.astore 4, 2) := by decide +kernel
theorem dX6_countInState_19 : decode cX6_countInState 19 = .ok (.aload 4, 2) := by decide +kernel
theorem dX6_countInState_21 : decode cX6_countInState 21 = .ok (.ifnull 15, 3) := by decide +kernel
theorem dX6_countInState_24 : decode cX6_countInState 24 = .ok (.aload 4, 2) := by decide +kernel
theorem dX6_countInState_26 : decode cX6_countInState 26 = .ok (.getfield 173, 3) := by decide +kernel
theorem dX6_countInState_29 : decode cX6_countInState 29 = .ok (.iload_n 1, 1) := by decide +kernel
theorem dX6_countInState_30 : decode cX6_countInState 30 = .ok (.if_icmp .ne 6, 3) := by decide +kernel
theorem dX6_countInState_33 : decode cX6_countInState 33 = .ok (.iinc 2 1, 3) := by decide +kernel
theorem dX6_countInState_36 : decode cX6_countInState 36 = .ok (.iinc 3 1, 3) := by decide +kernel
theorem dX6_countInState_39 : decode cX6_countInState 39 = .ok (.goto (-35), 3) := by decide +kernel
theorem dX6_countInState_42 : decode cX6_countInState 42 = .ok (.iload_n 2, 1) := by decide +kernel
theorem dX6_countInState_43 : decode cX6_countInState 43 = .ok (.ireturn, 1) := by decide +kernel
theorem dX6_findMatch_0 : decode cX6_findMatch 0 = .ok (.aload_n 0, 1) := by decide +kernel
theorem dX6_findMatch_1 : decode cX6_findMatch 1 = .ok (.invokevirtual 147, 3) := by decide +kernel
theorem dX6_findMatch_4 : decode cX6_findMatch 4 = .ok (.aload_n 0, 1) := by decide +kernel
theorem dX6_findMatch_5 : decode cX6_findMatch 5 = .ok (.getfield 45, 3) := by decide +kernel
theorem dX6_findMatch_8 : decode cX6_findMatch 8 = .ok (.invokevirtual 209, 3) := by decide +kernel
theorem dX6_findMatch_11 : decode cX6_findMatch 11 = .ok (.return_, 1) := by decide +kernel
theorem dX6_offerAll_0 : decode cX6_offerAll 0 = .ok (.aload_n 0, 1) := by decide +kernel
theorem dX6_offerAll_1 : decode cX6_offerAll 1 = .ok (.getfield 45, 3) := by decide +kernel
theorem dX6_offerAll_4 : decode cX6_offerAll 4 = .ok (.invokevirtual 212, 3) := by decide +kernel
theorem dX6_offerAll_7 : decode cX6_offerAll 7 = .ok (.iconst 0, 1) := by decide +kernel
theorem dX6_offerAll_8 : decode cX6_offerAll 8 = .ok (.istore_n 1, 1) := by decide +kernel
theorem dX6_offerAll_9 : decode cX6_offerAll 9 = .ok (.iload_n 1, 1) := by decide +kernel
theorem dX6_offerAll_10 : decode cX6_offerAll 10 = .ok (.aload_n 0, 1) := by decide +kernel
theorem dX6_offerAll_11 : decode cX6_offerAll 11 = .ok (.getfield 93, 3) := by decide +kernel
theorem dX6_offerAll_14 : decode cX6_offerAll 14 = .ok (.if_icmp .ge 42, 3) := by decide +kernel
theorem dX6_offerAll_17 : decode cX6_offerAll 17 = .ok (.aload_n 0, 1) := by decide +kernel
theorem dX6_offerAll_18 : decode cX6_offerAll 18 = .ok (.iload_n 1, 1) := by decide +kernel
theorem dX6_offerAll_19 : decode cX6_offerAll 19 = .ok (.invokevirtual 102, 3) := by decide +kernel
theorem dX6_offerAll_22 : decode cX6_offerAll 22 = .ok (.astore_n 2, 1) := by decide +kernel
theorem dX6_offerAll_23 : decode cX6_offerAll 23 = .ok (.aload_n 2, 1) := by decide +kernel
theorem dX6_offerAll_24 : decode cX6_offerAll 24 = .ok (.ifnull 26, 3) := by decide +kernel
theorem dX6_offerAll_27 : decode cX6_offerAll 27 = .ok (.aload_n 0, 1) := by decide +kernel
theorem dX6_offerAll_28 : decode cX6_offerAll 28 = .ok (.iload_n 1, 1) := by decide +kernel
theorem dX6_offerAll_29 : decode cX6_offerAll 29 = .ok (.invokevirtual 127, 3) := by decide +kernel
theorem dX6_offerAll_32 : decode cX6_offerAll 32 = .ok (.iconst (-1), 1) := by decide +kernel
theorem dX6_offerAll_33 : decode cX6_offerAll 33 = .ok (.if_icmp .ne 17, 3) := by decide +kernel
theorem dX6_offerAll_36 : decode cX6_offerAll 36 = .ok (.aload_n 0, 1) := by decide +kernel
theorem dX6_offerAll_37 : decode cX6_offerAll 37 = .ok (.getfield 45, 3) := by decide +kernel
theorem dX6_offerAll_40 : decode cX6_offerAll 40 = .ok (.iload_n 1, 1) := by decide +kernel
theorem dX6_offerAll_41 : decode cX6_offerAll 41 = .ok (.invokevirtual 215, 3) := by decide +kernel
theorem dX6_offerAll_44 : decode cX6_offerAll 44 = .ok (.aload_n 0, 1) := by decide +kernel
theorem dX6_offerAll_45 : decode cX6_offerAll 45 = .ok (.iload_n 1, 1) := by decide +kernel
theorem dX6_offerAll_46 : decode cX6_offerAll 46 = .ok (.aload_n 2, 1) := by decide +kernel
theorem dX6_offerAll_47 : decode cX6_offerAll 47 = .ok (.invokevirtual 218, 3) := by decide +kernel
theorem dX6_offerAll_50 : decode cX6_offerAll 50 = .ok (.iinc 1 1, 3) := by decide +kernel
theorem dX6_offerAll_53 : decode cX6_offerAll 53 = .ok (.goto (-44), 3) := by decide +kernel
theorem dX6_offerAll_56 : decode cX6_offerAll 56 = .ok (.return_, 1) := by decide +kernel
theorem dX6_offerTeachers_0 : decode cX6_offerTeachers 0 = .ok (.iconst 0, 1) := by decide +kernel
theorem dX6_offerTeachers_1 : decode cX6_offerTeachers 1 = .ok (.istore_n 3, 1) := by decide +kernel
theorem dX6_offerTeachers_2 : decode cX6_offerTeachers 2 = .ok (.iload_n 3, 1) := by decide +kernel
theorem dX6_offerTeachers_3 : decode cX6_offerTeachers 3 = .ok (.aload_n 0, 1) := by decide +kernel
theorem dX6_offerTeachers_4 : decode cX6_offerTeachers 4 = .ok (.getfield 69, 3) := by decide +kernel
theorem dX6_offerTeachers_7 : decode cX6_offerTeachers 7 = .ok (.if_icmp .ge 65, 3) := by decide +kernel
theorem dX6_offerTeachers_10 : decode cX6_offerTeachers 10 = .ok (.aload_n 0, 1) := by decide +kernel
theorem dX6_offerTeachers_11 : decode cX6_offerTeachers 11 = .ok (.iload_n 3, 1) := by decide +kernel
theorem dX6_offerTeachers_12 : decode cX6_offerTeachers 12 = .ok (.invokevirtual 75, 3) := by decide +kernel
theorem dX6_offerTeachers_15 : decode cX6_offerTeachers 15 = .ok (.astore 4, 2) := by decide +kernel
theorem dX6_offerTeachers_17 : decode cX6_offerTeachers 17 = .ok (.aload 4, 2) := by decide +kernel
theorem dX6_offerTeachers_19 : decode cX6_offerTeachers 19 = .ok (.ifnull 47, 3) := by decide +kernel
theorem dX6_offerTeachers_22 : decode cX6_offerTeachers 22 = .ok (.aload 4, 2) := by decide +kernel
theorem dX6_offerTeachers_24 : decode cX6_offerTeachers 24 = .ok (.getfield 173, 3) := by decide +kernel
theorem dX6_offerTeachers_27 : decode cX6_offerTeachers 27 = .ok (.ifCond .ne 39, 3) := by decide +kernel
theorem dX6_offerTeachers_30 : decode cX6_offerTeachers 30 = .ok (.aload 4, 2) := by decide +kernel
theorem dX6_offerTeachers_32 : decode cX6_offerTeachers 32 = .ok (.aload_n 2, 1) := by decide +kernel
theorem dX6_offerTeachers_33 : decode cX6_offerTeachers 33 = .ok (.aload_n 0, 1) := by decide +kernel
theorem dX6_offerTeachers_34 : decode cX6_offerTeachers 34 = .ok (.getfield 19, 3) := by decide +kernel
theorem dX6_offerTeachers_37 : decode cX6_offerTeachers 37 = .ok (.aload_n 0, 1) := by decide +kernel
theorem dX6_offerTeachers_38 : decode cX6_offerTeachers 38 = .ok (.getfield 106, 3) := by decide +kernel
theorem dX6_offerTeachers_41 : decode cX6_offerTeachers 41 = .ok (.invokevirtual 109, 3) := by decide +kernel
theorem dX6_offerTeachers_44 : decode cX6_offerTeachers 44 = .ok (.ifCond .eq 22, 3) := by decide +kernel
theorem dX6_offerTeachers_47 : decode cX6_offerTeachers 47 = .ok (.aload_n 0, 1) := by decide +kernel
theorem dX6_offerTeachers_48 : decode cX6_offerTeachers 48 = .ok (.getfield 45, 3) := by decide +kernel
theorem dX6_offerTeachers_51 : decode cX6_offerTeachers 51 = .ok (.iload_n 1, 1) := by decide +kernel
theorem dX6_offerTeachers_52 : decode cX6_offerTeachers 52 = .ok (.iload_n 3, 1) := by decide +kernel
theorem dX6_offerTeachers_53 : decode cX6_offerTeachers 53 = .ok (.aload 4, 2) := by decide +kernel
theorem dX6_offerTeachers_55 : decode cX6_offerTeachers 55 = .ok (.aload_n 2, 1) := by decide +kernel
theorem dX6_offerTeachers_56 : decode cX6_offerTeachers 56 = .ok (.aload_n 0, 1) := by decide +kernel
theorem dX6_offerTeachers_57 : decode cX6_offerTeachers 57 = .ok (.getfield 19, 3) := by decide +kernel
theorem dX6_offerTeachers_60 : decode cX6_offerTeachers 60 = .ok (.invokevirtual 113, 3) := by decide +kernel
theorem dX6_offerTeachers_63 : decode cX6_offerTeachers 63 = .ok (.invokevirtual 222, 3) := by decide +kernel
theorem dX6_offerTeachers_66 : decode cX6_offerTeachers 66 = .ok (.iinc 3 1, 3) := by decide +kernel
theorem dX6_offerTeachers_69 : decode cX6_offerTeachers 69 = .ok (.goto (-67), 3) := by decide +kernel
theorem dX6_offerTeachers_72 : decode cX6_offerTeachers 72 = .ok (.return_, 1) := by decide +kernel
theorem dX6_isCalledAhead_0 : decode cX6_isCalledAhead 0 = .ok (.aload_n 0, 1) := by decide +kernel
theorem dX6_isCalledAhead_1 : decode cX6_isCalledAhead 1 = .ok (.aload_n 0, 1) := by decide +kernel
theorem dX6_isCalledAhead_2 : decode cX6_isCalledAhead 2 = .ok (.getfield 45, 3) := by decide +kernel
theorem dX6_isCalledAhead_5 : decode cX6_isCalledAhead 5 = .ok (.iload_n 1, 1) := by decide +kernel
theorem dX6_isCalledAhead_6 : decode cX6_isCalledAhead 6 = .ok (.invokevirtual 131, 3) := by decide +kernel
theorem dX6_isCalledAhead_9 : decode cX6_isCalledAhead 9 = .ok (.invokevirtual 75, 3) := by decide +kernel
theorem dX6_isCalledAhead_12 : decode cX6_isCalledAhead 12 = .ok (.astore_n 3, 1) := by decide +kernel
theorem dX6_isCalledAhead_13 : decode cX6_isCalledAhead 13 = .ok (.aload_n 0, 1) := by decide +kernel
theorem dX6_isCalledAhead_14 : decode cX6_isCalledAhead 14 = .ok (.aload_n 0, 1) := by decide +kernel
theorem dX6_isCalledAhead_15 : decode cX6_isCalledAhead 15 = .ok (.getfield 45, 3) := by decide +kernel
theorem dX6_isCalledAhead_18 : decode cX6_isCalledAhead 18 = .ok (.iload_n 2, 1) := by decide +kernel
theorem dX6_isCalledAhead_19 : decode cX6_isCalledAhead 19 = .ok (.invokevirtual 131, 3) := by decide +kernel
theorem dX6_isCalledAhead_22 : decode cX6_isCalledAhead 22 = .ok (.invokevirtual 75, 3) := by decide +kernel
theorem dX6_isCalledAhead_25 : decode cX6_isCalledAhead 25 = .ok (.astore 4, 2) := by decide +kernel
theorem dX6_isCalledAhead_27 : decode cX6_isCalledAhead 27 = .ok (.aload_n 0, 1) := by decide +kernel
theorem dX6_isCalledAhead_28 : decode cX6_isCalledAhead 28 = .ok (.iload_n 1, 1) := by decide +kernel
theorem dX6_isCalledAhead_29 : decode cX6_isCalledAhead 29 = .ok (.invokevirtual 102, 3) := by decide +kernel
theorem dX6_isCalledAhead_32 : decode cX6_isCalledAhead 32 = .ok (.astore 5, 2) := by decide +kernel
theorem dX6_isCalledAhead_34 : decode cX6_isCalledAhead 34 = .ok (.aload_n 0, 1) := by decide +kernel
theorem dX6_isCalledAhead_35 : decode cX6_isCalledAhead 35 = .ok (.iload_n 2, 1) := by decide +kernel
theorem dX6_isCalledAhead_36 : decode cX6_isCalledAhead 36 = .ok (.invokevirtual 102, 3) := by decide +kernel
theorem dX6_isCalledAhead_39 : decode cX6_isCalledAhead 39 = .ok (.astore 6, 2) := by decide +kernel
theorem dX6_isCalledAhead_41 : decode cX6_isCalledAhead 41 = .ok (.aload_n 3, 1) := by decide +kernel
theorem dX6_isCalledAhead_42 : decode cX6_isCalledAhead 42 = .ok (.ifnull 18, 3) := by decide +kernel
theorem dX6_isCalledAhead_45 : decode cX6_isCalledAhead 45 = .ok (.aload 4, 2) := by decide +kernel
theorem dX6_isCalledAhead_47 : decode cX6_isCalledAhead 47 = .ok (.ifnull 13, 3) := by decide +kernel
theorem dX6_isCalledAhead_50 : decode cX6_isCalledAhead 50 = .ok (.aload 5, 2) := by decide +kernel
theorem dX6_isCalledAhead_52 : decode cX6_isCalledAhead 52 = .ok (.ifnull 8, 3) := by decide +kernel
theorem dX6_isCalledAhead_55 : decode cX6_isCalledAhead 55 = .ok (.aload 6, 2) := by decide +kernel
theorem dX6_isCalledAhead_57 : decode cX6_isCalledAhead 57 = .ok (.ifnonnull 5, 3) := by decide +kernel
theorem dX6_isCalledAhead_60 : decode cX6_isCalledAhead 60 = .ok (.iconst 0, 1) := by decide +kernel
theorem dX6_isCalledAhead_61 : decode cX6_isCalledAhead 61 = .ok (.ireturn, 1) := by decide +kernel
theorem dX6_isCalledAhead_62 : decode cX6_isCalledAhead 62 = .ok (.aload_n 3, 1) := by decide +kernel
theorem dX6_isCalledAhead_63 : decode cX6_isCalledAhead 63 = .ok (.getfield 179, 3) := by decide +kernel
theorem dX6_isCalledAhead_66 : decode cX6_isCalledAhead 66 = .ok (.aload 4, 2) := by decide +kernel
theorem dX6_isCalledAhead_68 : decode cX6_isCalledAhead 68 = .ok (.getfield 179, 3) := by decide +kernel
theorem dX6_isCalledAhead_71 : decode cX6_isCalledAhead 71 = .ok (.if_icmp .eq 21, 3) := by decide +kernel
theorem dX6_isCalledAhead_74 : decode cX6_isCalledAhead 74 = .ok (.aload_n 3, 1) := by decide +kernel
theorem dX6_isCalledAhead_75 : decode cX6_isCalledAhead 75 = .ok (.getfield 179, 3) := by decide +kernel
theorem dX6_isCalledAhead_78 : decode cX6_isCalledAhead 78 = .ok (.aload 4, 2) := by decide +kernel
theorem dX6_isCalledAhead_80 : decode cX6_isCalledAhead 80 = .ok (.getfield 179, 3) := by decide +kernel
theorem dX6_isCalledAhead_83 : decode cX6_isCalledAhead 83 = .ok (.if_icmp .ge 7, 3) := by decide +kernel
theorem dX6_isCalledAhead_86 : decode cX6_isCalledAhead 86 = .ok (.iconst 1, 1) := by decide +kernel
theorem dX6_isCalledAhead_87 : decode cX6_isCalledAhead 87 = .ok (.goto 4, 3) := by decide +kernel
theorem dX6_isCalledAhead_90 : decode cX6_isCalledAhead 90 = .ok (.iconst 0, 1) := by decide +kernel
theorem dX6_isCalledAhead_91 : decode cX6_isCalledAhead 91 = .ok (.ireturn, 1) := by decide +kernel
theorem dX6_isCalledAhead_92 : decode cX6_isCalledAhead 92 = .ok (.aload 5, 2) := by decide +kernel
theorem dX6_isCalledAhead_94 : decode cX6_isCalledAhead 94 = .ok (.getfield 200, 3) := by decide +kernel
theorem dX6_isCalledAhead_97 : decode cX6_isCalledAhead 97 = .ok (.aload 6, 2) := by decide +kernel
theorem dX6_isCalledAhead_99 : decode cX6_isCalledAhead 99 = .ok (.getfield 200, 3) := by decide +kernel
theorem dX6_isCalledAhead_102 : decode cX6_isCalledAhead 102 = .ok (.if_icmp .le 7, 3) := by decide +kernel
theorem dX6_isCalledAhead_105 : decode cX6_isCalledAhead 105 = .ok (.iconst 1, 1) := by decide +kernel
theorem dX6_isCalledAhead_106 : decode cX6_isCalledAhead 106 = .ok (.goto 4, 3) := by decide +kernel
theorem dX6_isCalledAhead_109 : decode cX6_isCalledAhead 109 = .ok (.iconst 0, 1) := by decide +kernel
theorem dX6_isCalledAhead_110 : decode cX6_isCalledAhead 110 = .ok (.ireturn, 1) := by decide +kernel
theorem dX6_endDayOf_0 : decode cX6_endDayOf 0 = .ok (.aload_n 0, 1) := by decide +kernel
theorem dX6_endDayOf_1 : decode cX6_endDayOf 1 = .ok (.iload_n 1, 1) := by decide +kernel
theorem dX6_endDayOf_2 : decode cX6_endDayOf 2 = .ok (.invokevirtual 75, 3) := by decide +kernel
theorem dX6_endDayOf_5 : decode cX6_endDayOf 5 = .ok (.astore_n 2, 1) := by decide +kernel
theorem dX6_endDayOf_6 : decode cX6_endDayOf 6 = .ok (.aload_n 2, 1) := by decide +kernel
theorem dX6_endDayOf_7 : decode cX6_endDayOf 7 = .ok (.ifnonnull 4, 3) := by decide +kernel
theorem dX6_endDayOf_10 : decode cX6_endDayOf 10 = .ok (.return_, 1) := by decide +kernel
theorem dX6_endDayOf_11 : decode cX6_endDayOf 11 = .ok (.aload_n 0, 1) := by decide +kernel
theorem dX6_endDayOf_12 : decode cX6_endDayOf 12 = .ok (.aload_n 2, 1) := by decide +kernel
theorem dX6_endDayOf_13 : decode cX6_endDayOf 13 = .ok (.getfield 176, 3) := by decide +kernel
theorem dX6_endDayOf_16 : decode cX6_endDayOf 16 = .ok (.invokevirtual 102, 3) := by decide +kernel
theorem dX6_endDayOf_19 : decode cX6_endDayOf 19 = .ok (.astore_n 3, 1) := by decide +kernel
theorem dX6_endDayOf_20 : decode cX6_endDayOf 20 = .ok (.aload_n 2, 1) := by decide +kernel
theorem dX6_endDayOf_21 : decode cX6_endDayOf 21 = .ok (.getfield 173, 3) := by decide +kernel
theorem dX6_endDayOf_24 : decode cX6_endDayOf 24 = .ok (.iconst 1, 1) := by decide +kernel
theorem dX6_endDayOf_25 : decode cX6_endDayOf 25 = .ok (.if_icmp .ne 29, 3) := by decide +kernel
theorem dX6_endDayOf_28 : decode cX6_endDayOf 28 = .ok (.aload_n 3, 1) := by decide +kernel
theorem dX6_endDayOf_29 : decode cX6_endDayOf 29 = .ok (.ifnull 25, 3) := by decide +kernel
theorem dX6_endDayOf_32 : decode cX6_endDayOf 32 = .ok (.aload_n 2, 1) := by decide +kernel
theorem dX6_endDayOf_33 : decode cX6_endDayOf 33 = .ok (.aload_n 3, 1) := by decide +kernel
theorem dX6_endDayOf_34 : decode cX6_endDayOf 34 = .ok (.aload_n 0, 1) := by decide +kernel
theorem dX6_endDayOf_35 : decode cX6_endDayOf 35 = .ok (.getfield 19, 3) := by decide +kernel
theorem dX6_endDayOf_38 : decode cX6_endDayOf 38 = .ok (.invokevirtual 225, 3) := by decide +kernel
theorem dX6_endDayOf_41 : decode cX6_endDayOf 41 = .ok (.aload_n 0, 1) := by decide +kernel
theorem dX6_endDayOf_42 : decode cX6_endDayOf 42 = .ok (.getfield 38, 3) := by decide +kernel
theorem dX6_endDayOf_45 : decode cX6_endDayOf 45 = .ok (.iload_n 1, 1) := by decide +kernel
theorem dX6_endDayOf_46 : decode cX6_endDayOf 46 = .ok (.aload_n 3, 1) := by decide +kernel
theorem dX6_endDayOf_47 : decode cX6_endDayOf 47 = .ok (.aload_n 0, 1) := by decide +kernel
theorem dX6_endDayOf_48 : decode cX6_endDayOf 48 = .ok (.getfield 106, 3) := by decide +kernel
theorem dX6_endDayOf_51 : decode cX6_endDayOf 51 = .ok (.invokevirtual 229, 3) := by decide +kernel
theorem dX6_endDayOf_54 : decode cX6_endDayOf 54 = .ok (.aload_n 2, 1) := by decide +kernel
theorem dX6_endDayOf_55 : decode cX6_endDayOf 55 = .ok (.invokevirtual 233, 3) := by decide +kernel
theorem dX6_endDayOf_58 : decode cX6_endDayOf 58 = .ok (.return_, 1) := by decide +kernel
