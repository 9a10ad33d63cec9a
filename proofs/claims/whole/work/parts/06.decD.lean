theorem dX7_init_0 : decode cX7_init 0 = .ok (.aload_n 0, 1) := by decide +kernel
theorem dX7_init_1 : decode cX7_init 1 = .ok (.invokespecial 1, 3) := by decide +kernel
theorem dX7_init_4 : decode cX7_init 4 = .ok (.aload_n 0, 1) := by decide +kernel
theorem dX7_init_5 : decode cX7_init 5 = .ok (.bipush 60, 2) := by decide +kernel
theorem dX7_init_7 : decode cX7_init 7 = .ok (.newarray .byte, 2) := by decide +kernel
theorem dX7_init_9 : decode cX7_init 9 = .ok (.putfield 7, 3) := by decide +kernel
theorem dX7_init_12 : decode cX7_init 12 = .ok (.aload_n 0, 1) := by decide +kernel
theorem dX7_init_13 : decode cX7_init 13 = .ok (.bipush 7, 2) := by decide +kernel
theorem dX7_init_15 : decode cX7_init 15 = .ok (.newarray .int, 2) := by decide +kernel
theorem dX7_init_17 : decode cX7_init 17 = .ok (.putfield 13, 3) := by decide +kernel
theorem dX7_init_20 : decode cX7_init 20 = .ok (.aload_n 0, 1) := by decide +kernel
theorem dX7_init_21 : decode cX7_init 21 = .ok (.bipush 7, 2) := by decide +kernel
theorem dX7_init_23 : decode cX7_init 23 = .ok (.newarray .int, 2) := by decide +kernel
theorem dX7_init_25 : decode cX7_init 25 = .ok (.putfield 17, 3) := by decide +kernel
theorem dX7_init_28 : decode cX7_init 28 = .ok (.aload_n 0, 1) := by decide +kernel
theorem dX7_init_29 : decode cX7_init 29 = .ok (.bipush 12, 2) := by decide +kernel
theorem dX7_init_31 : decode cX7_init 31 = .ok (.newarray .int, 2) := by decide +kernel
theorem dX7_init_33 : decode cX7_init 33 = .ok (.putfield 20, 3) := by decide +kernel
theorem dX7_init_36 : decode cX7_init 36 = .ok (.aload_n 0, 1) := by decide +kernel
theorem dX7_init_37 : decode cX7_init 37 = .ok (.bipush 12, 2) := by decide +kernel
theorem dX7_init_39 : decode cX7_init 39 = .ok (.newarray .int, 2) := by decide +kernel
theorem dX7_init_41 : decode cX7_init 41 = .ok (.putfield 23, 3) := by decide +kernel
theorem dX7_init_44 : decode cX7_init 44 = .ok (.aload_n 0, 1) := by decide +kernel
theorem dX7_init_45 : decode cX7_init 45 = .ok (.bipush 12, 2) := by decide +kernel
theorem dX7_init_47 : decode cX7_init 47 = .ok (.newarray .int, 2) := by decide +kernel
theorem dX7_init_49 : decode cX7_init 49 = .ok (.putfield 26, 3) := by decide +kernel
theorem dX7_init_52 : decode cX7_init 52 = .ok (.aload_n 0, 1) := by decide +kernel
theorem dX7_init_53 : decode cX7_init 53 = .ok (.bipush 72, 2) := by decide +kernel
theorem dX7_init_55 : decode cX7_init 55 = .ok (.newarray .int, 2) := by decide +kernel
theorem dX7_init_57 : decode cX7_init 57 = .ok (.putfield 29, 3) := by decide +kernel
theorem dX7_init_60 : decode cX7_init 60 = .ok (.aload_n 0, 1) := by decide +kernel
theorem dX7_init_61 : decode cX7_init 61 = .ok (.bipush 12, 2) := by decide +kernel
theorem dX7_init_63 : decode cX7_init 63 = .ok (.newarray .int, 2) := by decide +kernel
theorem dX7_init_65 : decode cX7_init 65 = .ok (.putfield 32, 3) := by decide +kernel
theorem dX7_init_68 : decode cX7_init 68 = .ok (.aload_n 0, 1) := by decide +kernel
theorem dX7_init_69 : decode cX7_init 69 = .ok (.bipush 12, 2) := by decide +kernel
theorem dX7_init_71 : decode cX7_init 71 = .ok (.newarray .int, 2) := by decide +kernel
theorem dX7_init_73 : decode cX7_init 73 = .ok (.putfield 35, 3) := by decide +kernel
theorem dX7_init_76 : decode cX7_init 76 = .ok (.aload_n 0, 1) := by decide +kernel
theorem dX7_init_77 : decode cX7_init 77 = .ok (.bipush 12, 2) := by decide +kernel
theorem dX7_init_79 : decode cX7_init 79 = .ok (.newarray .int, 2) := by decide +kernel
theorem dX7_init_81 : decode cX7_init 81 = .ok (.putfield 38, 3) := by decide +kernel
theorem dX7_init_84 : decode cX7_init 84 = .ok (.aload_n 0, 1) := by decide +kernel
theorem dX7_init_85 : decode cX7_init 85 = .ok (.bipush 12, 2) := by decide +kernel
theorem dX7_init_87 : decode cX7_init 87 = .ok (.newarray .int, 2) := by decide +kernel
theorem dX7_init_89 : decode cX7_init 89 = .ok (.putfield 41, 3) := by decide +kernel
theorem dX7_init_92 : decode cX7_init 92 = .ok (.aload_n 0, 1) := by decide +kernel
theorem dX7_init_93 : decode cX7_init 93 = .ok (.bipush 12, 2) := by decide +kernel
theorem dX7_init_95 : decode cX7_init 95 = .ok (.newarray .int, 2) := by decide +kernel
theorem dX7_init_97 : decode cX7_init 97 = .ok (.putfield 44, 3) := by decide +kernel
theorem dX7_init_100 : decode cX7_init 100 = .ok (.aload_n 0, 1) := by decide +kernel
theorem dX7_init_101 : decode cX7_init 101 = .ok (.bipush 12, 2) := by decide +kernel
theorem dX7_init_103 : decode cX7_init 103 = .ok (.newarray .int, 2) := by decide +kernel
theorem dX7_init_105 : decode cX7_init 105 = .ok (.putfield 47, 3) := by decide +kernel
theorem dX7_init_108 : decode cX7_init 108 = .ok (.aload_n 0, 1) := by decide +kernel
theorem dX7_init_109 : decode cX7_init 109 = .ok (.bipush 12, 2) := by decide +kernel
theorem dX7_init_111 : decode cX7_init 111 = .ok (.newarray .long, 2) := by decide +kernel
theorem dX7_init_113 : decode cX7_init 113 = .ok (.putfield 50, 3) := by decide +kernel
theorem dX7_init_116 : decode cX7_init 116 = .ok (.aload_n 0, 1) := by decide +kernel
theorem dX7_init_117 : decode cX7_init 117 = .ok (.bipush 10, 2) := by decide +kernel
theorem dX7_init_119 : decode cX7_init 119 = .ok (.newarray .int, 2) := by decide +kernel
theorem dX7_init_121 : decode cX7_init 121 = .ok (.putfield 54, 3) := by decide +kernel
theorem dX7_init_124 : decode cX7_init 124 = .ok (.aload_n 0, 1) := by decide +kernel
theorem dX7_init_125 : decode cX7_init 125 = .ok (.bipush 10, 2) := by decide +kernel
theorem dX7_init_127 : decode cX7_init 127 = .ok (.newarray .int, 2) := by decide +kernel
theorem dX7_init_129 : decode cX7_init 129 = .ok (.putfield 57, 3) := by decide +kernel
theorem dX7_init_132 : decode cX7_init 132 = .ok (.aload_n 0, 1) := by decide +kernel
theorem dX7_init_133 : decode cX7_init 133 = .ok (.bipush 10, 2) := by decide +kernel
theorem dX7_init_135 : decode cX7_init 135 = .ok (.newarray .int, 2) := by decide +kernel
theorem dX7_init_137 : decode cX7_init 137 = .ok (.putfield 60, 3) := by decide +kernel
theorem dX7_init_140 : decode cX7_init 140 = .ok (.aload_n 0, 1) := by decide +kernel
theorem dX7_init_141 : decode cX7_init 141 = .ok (.bipush 10, 2) := by decide +kernel
theorem dX7_init_143 : decode cX7_init 143 = .ok (.newarray .int, 2) := by decide +kernel
theorem dX7_init_145 : decode cX7_init 145 = .ok (.putfield 63, 3) := by decide +kernel
theorem dX7_init_148 : decode cX7_init 148 = .ok (.aload_n 0, 1) := by decide +kernel
theorem dX7_init_149 : decode cX7_init 149 = .ok (.bipush 10, 2) := by decide +kernel
theorem dX7_init_151 : decode cX7_init 151 = .ok (.newarray .int, 2) := by decide +kernel
theorem dX7_init_153 : decode cX7_init 153 = .ok (.putfield 66, 3) := by decide +kernel
theorem dX7_init_156 : decode cX7_init 156 = .ok (.aload_n 0, 1) := by decide +kernel
theorem dX7_init_157 : decode cX7_init 157 = .ok (.sipush 400, 3) := by decide +kernel
theorem dX7_init_160 : decode cX7_init 160 = .ok (.newarray .int, 2) := by decide +kernel
theorem dX7_init_162 : decode cX7_init 162 = .ok (.putfield 69, 3) := by decide +kernel
theorem dX7_init_165 : decode cX7_init 165 = .ok (.aload_n 0, 1) := by decide +kernel
theorem dX7_init_166 : decode cX7_init 166 = .ok (.sipush 400, 3) := by decide +kernel
theorem dX7_init_169 : decode cX7_init 169 = .ok (.newarray .int, 2) := by decide +kernel
theorem dX7_init_171 : decode cX7_init 171 = .ok (.putfield 72, 3) := by decide +kernel
theorem dX7_init_174 : decode cX7_init 174 = .ok (.aload_n 0, 1) := by decide +kernel
theorem dX7_init_175 : decode cX7_init 175 = .ok (.sipush 400, 3) := by decide +kernel
theorem dX7_init_178 : decode cX7_init 178 = .ok (.newarray .int, 2) := by decide +kernel
theorem dX7_init_180 : decode cX7_init 180 = .ok (.putfield 75, 3) := by decide +kernel
theorem dX7_init_183 : decode cX7_init 183 = .ok (.aload_n 0, 1) := by decide +kernel
theorem dX7_init_184 : decode cX7_init 184 = .ok (.ldc 78, 2) := by decide +kernel
theorem dX7_init_186 : decode cX7_init 186 = .ok (.newarray .int, 2) := by decide +kernel
theorem dX7_init_188 : decode cX7_init 188 = .ok (.putfield 79, 3) := by decide +kernel
theorem dX7_init_191 : decode cX7_init 191 = .ok (.aload_n 0, 1) := by decide +kernel
theorem dX7_init_192 : decode cX7_init 192 = .ok (.bipush 10, 2) := by decide +kernel
theorem dX7_init_194 : decode cX7_init 194 = .ok (.newarray .int, 2) := by decide +kernel
theorem dX7_init_196 : decode cX7_init 196 = .ok (.putfield 82, 3) := by decide +kernel
theorem dX7_init_199 : decode cX7_init 199 = .ok (.aload_n 0, 1) := by decide +kernel
theorem dX7_init_200 : decode cX7_init 200 = .ok (.getfield 13, 3) := by decide +kernel
theorem dX7_init_203 : decode cX7_init 203 = .ok (.invokestatic 85, 3) := by decide +kernel
theorem dX7_init_206 : decode cX7_init 206 = .ok (.return_, 1) := by decide +kernel
theorem dX7_lies_0 : decode cX7_lies 0 = .ok (.iload_n 0, 1) := by decide +kernel
theorem dX7_lies_1 : decode cX7_lies 1 = .ok (.iload_n 1, 1) := by decide +kernel
theorem dX7_lies_2 : decode cX7_lies 2 = .ok (.if_icmp .lt 12, 3) := by decide +kernel
theorem dX7_lies_5 : decode cX7_lies 5 = .ok (.iload_n 0, 1) := by decide +kernel
theorem dX7_lies_6 : decode cX7_lies 6 = .ok (.iload_n 2, 1) := by decide +kernel
theorem dX7_lies_7 : decode cX7_lies 7 = .ok (.if_icmp .gt 7, 3) := by decide +kernel
theorem dX7_lies_10 : decode cX7_lies 10 = .ok (.iconst 1, 1) := by decide +kernel
theorem dX7_lies_11 : decode cX7_lies 11 = .ok (.goto 4, 3) := by decide +kernel
theorem dX7_lies_14 : decode cX7_lies 14 = .ok (.iconst 0, 1) := by decide +kernel
theorem dX7_lies_15 : decode cX7_lies 15 = .ok (.ireturn, 1) := by decide +kernel
theorem dX7_has_0 : decode cX7_has 0 = .ok (.iload_n 0, 1) := by decide +kernel
theorem dX7_has_1 : decode cX7_has 1 = .ok (.iload_n 1, 1) := by decide +kernel
theorem dX7_has_2 : decode cX7_has 2 = .ok (.ishr, 1) := by decide +kernel
theorem dX7_has_3 : decode cX7_has 3 = .ok (.iconst 1, 1) := by decide +kernel
theorem dX7_has_4 : decode cX7_has 4 = .ok (.iand, 1) := by decide +kernel
theorem dX7_has_5 : decode cX7_has 5 = .ok (.iconst 1, 1) := by decide +kernel
theorem dX7_has_6 : decode cX7_has 6 = .ok (.if_icmp .ne 7, 3) := by decide +kernel
theorem dX7_has_9 : decode cX7_has 9 = .ok (.iconst 1, 1) := by decide +kernel
theorem dX7_has_10 : decode cX7_has 10 = .ok (.goto 4, 3) := by decide +kernel
theorem dX7_has_13 : decode cX7_has 13 = .ok (.iconst 0, 1) := by decide +kernel
theorem dX7_has_14 : decode cX7_has 14 = .ok (.ireturn, 1) := by decide +kernel
theorem dX7_sizeOf_0 : decode cX7_sizeOf 0 = .ok (.iconst 0, 1) := by decide +kernel
theorem dX7_sizeOf_1 : decode cX7_sizeOf 1 = .ok (.istore_n 1, 1) := by decide +kernel
theorem dX7_sizeOf_2 : decode cX7_sizeOf 2 = .ok (.iload_n 0, 1) := by decide +kernel
theorem dX7_sizeOf_3 : decode cX7_sizeOf 3 = .ok (.istore_n 2, 1) := by decide +kernel
theorem dX7_sizeOf_4 : decode cX7_sizeOf 4 = .ok (.iload_n 2, 1) := by decide +kernel
theorem dX7_sizeOf_5 : decode cX7_sizeOf 5 = .ok (.ifCond .eq 15, 3) := by decide +kernel
theorem dX7_sizeOf_8 : decode cX7_sizeOf 8 = .ok (.iinc 1 1, 3) := by decide +kernel
theorem dX7_sizeOf_11 : decode cX7_sizeOf 11 = .ok (.iload_n 2, 1) := by decide +kernel
theorem dX7_sizeOf_12 : decode cX7_sizeOf 12 = .ok (.iload_n 2, 1) := by decide +kernel
theorem dX7_sizeOf_13 : decode cX7_sizeOf 13 = .ok (.iconst 1, 1) := by decide +kernel
theorem dX7_sizeOf_14 : decode cX7_sizeOf 14 = .ok (.isub, 1) := by decide +kernel
theorem dX7_sizeOf_15 : decode cX7_sizeOf 15 = .ok (.iand, 1) := by decide +kernel
theorem dX7_sizeOf_16 : decode cX7_sizeOf 16 = .ok (.istore_n 2, 1) := by decide +kernel
theorem dX7_sizeOf_17 : decode cX7_sizeOf 17 = .ok (.goto (-13), 3) := by decide +kernel
theorem dX7_sizeOf_20 : decode cX7_sizeOf 20 = .ok (.iload_n 1, 1) := by decide +kernel
theorem dX7_sizeOf_21 : decode cX7_sizeOf 21 = .ok (.ireturn, 1) := by decide +kernel
theorem dX7_push_0 : decode cX7_push 0 = .ok (.bipush 24, 2) := by decide +kernel
theorem dX7_push_2 : decode cX7_push 2 = .ok (.istore_n 2, 1) := by decide +kernel
theorem dX7_push_3 : decode cX7_push 3 = .ok (.iload_n 2, 1) := by decide +kernel
theorem dX7_push_4 : decode cX7_push 4 = .ok (.ifCond .lt 32, 3) := by decide +kernel
theorem dX7_push_7 : decode cX7_push 7 = .ok (.aload_n 0, 1) := by decide +kernel
theorem dX7_push_8 : decode cX7_push 8 = .ok (.getfield 7, 3) := by decide +kernel
theorem dX7_push_11 : decode cX7_push 11 = .ok (.aload_n 0, 1) := by decide +kernel
theorem dX7_push_12 : decode cX7_push 12 = .ok (.getfield 89, 3) := by decide +kernel
theorem dX7_push_15 : decode cX7_push 15 = .ok (.iload_n 1, 1) := by decide +kernel
theorem dX7_push_16 : decode cX7_push 16 = .ok (.iload_n 2, 1) := by decide +kernel
theorem dX7_push_17 : decode cX7_push 17 = .ok (.ishr, 1) := by decide +kernel
theorem dX7_push_18 : decode cX7_push 18 = .ok (.i2b, 1) := by decide +kernel
theorem dX7_push_19 : decode cX7_push 19 = .ok (.bastore, 1) := by decide +kernel
theorem dX7_push_20 : decode cX7_push 20 = .ok (.aload_n 0, 1) := by decide +kernel
theorem dX7_push_21 : decode cX7_push 21 = .ok (.dup, 1) := by decide +kernel
theorem dX7_push_22 : decode cX7_push 22 = .ok (.getfield 89, 3) := by decide +kernel
theorem dX7_push_25 : decode cX7_push 25 = .ok (.iconst 1, 1) := by decide +kernel
theorem dX7_push_26 : decode cX7_push 26 = .ok (.iadd, 1) := by decide +kernel
theorem dX7_push_27 : decode cX7_push 27 = .ok (.putfield 89, 3) := by decide +kernel
theorem dX7_push_30 : decode cX7_push 30 = .ok (.iinc 2 (-8), 3) := by decide +kernel
theorem dX7_push_33 : decode cX7_push 33 = .ok (.goto (-30), 3) := by decide +kernel
theorem dX7_push_36 : decode cX7_push 36 = .ok (.return_, 1) := by decide +kernel
theorem dX7_feed_0 : decode cX7_feed 0 = .ok (.aload_n 0, 1) := by decide +kernel
theorem dX7_feed_1 : decode cX7_feed 1 = .ok (.getfield 89, 3) := by decide +kernel
theorem dX7_feed_4 : decode cX7_feed 4 = .ok (.bipush 20, 2) := by decide +kernel
theorem dX7_feed_6 : decode cX7_feed 6 = .ok (.iadd, 1) := by decide +kernel
theorem dX7_feed_7 : decode cX7_feed 7 = .ok (.bipush 60, 2) := by decide +kernel
theorem dX7_feed_9 : decode cX7_feed 9 = .ok (.if_icmp .le 5, 3) := by decide +kernel
theorem dX7_feed_12 : decode cX7_feed 12 = .ok (.iconst (-1), 1) := by decide +kernel
theorem dX7_feed_13 : decode cX7_feed 13 = .ok (.ireturn, 1) := by decide +kernel
theorem dX7_feed_14 : decode cX7_feed 14 = .ok (.aload_n 0, 1) := by decide +kernel
theorem dX7_feed_15 : decode cX7_feed 15 = .ok (.iload_n 1, 1) := by decide +kernel
theorem dX7_feed_16 : decode cX7_feed 16 = .ok (.invokevirtual 93, 3) := by decide +kernel
theorem dX7_feed_19 : decode cX7_feed 19 = .ok (.aload_n 0, 1) := by decide +kernel
theorem dX7_feed_20 : decode cX7_feed 20 = .ok (.iload_n 2, 1) := by decide +kernel
theorem dX7_feed_21 : decode cX7_feed 21 = .ok (.invokevirtual 93, 3) := by decide +kernel
theorem dX7_feed_24 : decode cX7_feed 24 = .ok (.aload_n 0, 1) := by decide +kernel
theorem dX7_feed_25 : decode cX7_feed 25 = .ok (.iload_n 3, 1) := by decide +kernel
theorem dX7_feed_26 : decode cX7_feed 26 = .ok (.invokevirtual 93, 3) := by decide +kernel
theorem dX7_feed_29 : decode cX7_feed 29 = .ok (.aload_n 0, 1) := by decide +kernel
theorem dX7_feed_30 : decode cX7_feed 30 = .ok (.iload 4, 2) := by decide +kernel
theorem dX7_feed_32 : decode cX7_feed 32 = .ok (.invokevirtual 93, 3) := by decide +kernel
theorem dX7_feed_35 : decode cX7_feed 35 = .ok (.aload_n 0, 1) := by decide +kernel
theorem dX7_feed_36 : decode cX7_feed 36 = .ok (.iload 5, 2) := by decide +kernel
theorem dX7_feed_38 : decode cX7_feed 38 = .ok (.invokevirtual 93, 3) := by decide +kernel
theorem dX7_feed_41 : decode cX7_feed 41 = .ok (.aload_n 0, 1) := by decide +kernel
theorem dX7_feed_42 : decode cX7_feed 42 = .ok (.getfield 89, 3) := by decide +kernel
theorem dX7_feed_45 : decode cX7_feed 45 = .ok (.ireturn, 1) := by decide +kernel
theorem dX7_asAtFirst_0 : decode cX7_asAtFirst 0 = .ok (.aload_n 0, 1) := by decide +kernel
theorem dX7_asAtFirst_1 : decode cX7_asAtFirst 1 = .ok (.iconst 0, 1) := by decide +kernel
theorem dX7_asAtFirst_2 : decode cX7_asAtFirst 2 = .ok (.bipush 60, 2) := by decide +kernel
theorem dX7_asAtFirst_4 : decode cX7_asAtFirst 4 = .ok (.iastore, 1) := by decide +kernel
theorem dX7_asAtFirst_5 : decode cX7_asAtFirst 5 = .ok (.aload_n 0, 1) := by decide +kernel
theorem dX7_asAtFirst_6 : decode cX7_asAtFirst 6 = .ok (.iconst 1, 1) := by decide +kernel
theorem dX7_asAtFirst_7 : decode cX7_asAtFirst 7 = .ok (.bipush 60, 2) := by decide +kernel
theorem dX7_asAtFirst_9 : decode cX7_asAtFirst 9 = .ok (.iastore, 1) := by decide +kernel
theorem dX7_asAtFirst_10 : decode cX7_asAtFirst 10 = .ok (.aload_n 0, 1) := by decide +kernel
theorem dX7_asAtFirst_11 : decode cX7_asAtFirst 11 = .ok (.iconst 2, 1) := by decide +kernel
theorem dX7_asAtFirst_12 : decode cX7_asAtFirst 12 = .ok (.iconst 5, 1) := by decide +kernel
theorem dX7_asAtFirst_13 : decode cX7_asAtFirst 13 = .ok (.iastore, 1) := by decide +kernel
theorem dX7_asAtFirst_14 : decode cX7_asAtFirst 14 = .ok (.aload_n 0, 1) := by decide +kernel
theorem dX7_asAtFirst_15 : decode cX7_asAtFirst 15 = .ok (.iconst 3, 1) := by decide +kernel
theorem dX7_asAtFirst_16 : decode cX7_asAtFirst 16 = .ok (.bipush 20, 2) := by decide +kernel
theorem dX7_asAtFirst_18 : decode cX7_asAtFirst 18 = .ok (.iastore, 1) := by decide +kernel
theorem dX7_asAtFirst_19 : decode cX7_asAtFirst 19 = .ok (.aload_n 0, 1) := by decide +kernel
theorem dX7_asAtFirst_20 : decode cX7_asAtFirst 20 = .ok (.iconst 4, 1) := by decide +kernel
theorem dX7_asAtFirst_21 : decode cX7_asAtFirst 21 = .ok (.sipush 2000, 3) := by decide +kernel
theorem dX7_asAtFirst_24 : decode cX7_asAtFirst 24 = .ok (.iastore, 1) := by decide +kernel
theorem dX7_asAtFirst_25 : decode cX7_asAtFirst 25 = .ok (.aload_n 0, 1) := by decide +kernel
theorem dX7_asAtFirst_26 : decode cX7_asAtFirst 26 = .ok (.iconst 5, 1) := by decide +kernel
theorem dX7_asAtFirst_27 : decode cX7_asAtFirst 27 = .ok (.sipush 300, 3) := by decide +kernel
theorem dX7_asAtFirst_30 : decode cX7_asAtFirst 30 = .ok (.iastore, 1) := by decide +kernel
theorem dX7_asAtFirst_31 : decode cX7_asAtFirst 31 = .ok (.aload_n 0, 1) := by decide +kernel
theorem dX7_asAtFirst_32 : decode cX7_asAtFirst 32 = .ok (.bipush 6, 2) := by decide +kernel
theorem dX7_asAtFirst_34 : decode cX7_asAtFirst 34 = .ok (.iconst 2, 1) := by decide +kernel
theorem dX7_asAtFirst_35 : decode cX7_asAtFirst 35 = .ok (.iastore, 1) := by decide +kernel
theorem dX7_asAtFirst_36 : decode cX7_asAtFirst 36 = .ok (.return_, 1) := by decide +kernel
theorem dX7_letter_0 : decode cX7_letter 0 = .ok (.iload_n 0, 1) := by decide +kernel
theorem dX7_letter_1 : decode cX7_letter 1 = .ok (.tableswitch 110 100 119 #[99, 110, 110, 110, 110, 110, 110, 110, 101, 110, 110, 110, 103, 105, 107, 97, 110, 110, 110, 95], 95) := by decide +kernel
theorem dX7_letter_96 : decode cX7_letter 96 = .ok (.iconst 0, 1) := by decide +kernel
theorem dX7_letter_97 : decode cX7_letter 97 = .ok (.ireturn, 1) := by decide +kernel
theorem dX7_letter_98 : decode cX7_letter 98 = .ok (.iconst 1, 1) := by decide +kernel
theorem dX7_letter_99 : decode cX7_letter 99 = .ok (.ireturn, 1) := by decide +kernel
theorem dX7_letter_100 : decode cX7_letter 100 = .ok (.iconst 2, 1) := by decide +kernel
theorem dX7_letter_101 : decode cX7_letter 101 = .ok (.ireturn, 1) := by decide +kernel
theorem dX7_letter_102 : decode cX7_letter 102 = .ok (.iconst 3, 1) := by decide +kernel
theorem dX7_letter_103 : decode cX7_letter 103 = .ok (.ireturn, 1) := by decide +kernel
theorem dX7_letter_104 : decode cX7_letter 104 = .ok (.iconst 4, 1) := by decide +kernel
theorem dX7_letter_105 : decode cX7_letter 105 = .ok (.ireturn, 1) := by decide +kernel
theorem dX7_letter_106 : decode cX7_letter 106 = .ok (.iconst 5, 1) := by decide +kernel
theorem dX7_letter_107 : decode cX7_letter 107 = .ok (.ireturn, 1) := by decide +kernel
theorem dX7_letter_108 : decode cX7_letter 108 = .ok (.bipush 6, 2) := by decide +kernel
theorem dX7_letter_110 : decode cX7_letter 110 = .ok (.ireturn, 1) := by decide +kernel
theorem dX7_letter_111 : decode cX7_letter 111 = .ok (.iconst (-1), 1) := by decide +kernel
theorem dX7_letter_112 : decode cX7_letter 112 = .ok (.ireturn, 1) := by decide +kernel
theorem dX7_canBe_0 : decode cX7_canBe 0 = .ok (.iload_n 0, 1) := by decide +kernel
theorem dX7_canBe_1 : decode cX7_canBe 1 = .ok (.tableswitch 88 0 6 #[43, 55, 68, 68, 88, 88, 80], 43) := by decide +kernel
theorem dX7_canBe_44 : decode cX7_canBe 44 = .ok (.iload_n 1, 1) := by decide +kernel
theorem dX7_canBe_45 : decode cX7_canBe 45 = .ok (.bipush 120, 2) := by decide +kernel
theorem dX7_canBe_47 : decode cX7_canBe 47 = .ok (.if_icmp .gt 7, 3) := by decide +kernel
theorem dX7_canBe_50 : decode cX7_canBe 50 = .ok (.iconst 1, 1) := by decide +kernel
theorem dX7_canBe_51 : decode cX7_canBe 51 = .ok (.goto 4, 3) := by decide +kernel
theorem dX7_canBe_54 : decode cX7_canBe 54 = .ok (.iconst 0, 1) := by decide +kernel
theorem dX7_canBe_55 : decode cX7_canBe 55 = .ok (.ireturn, 1) := by decide +kernel
theorem dX7_canBe_56 : decode cX7_canBe 56 = .ok (.iload_n 1, 1) := by decide +kernel
theorem dX7_canBe_57 : decode cX7_canBe 57 = .ok (.sipush 999, 3) := by decide +kernel
theorem dX7_canBe_60 : decode cX7_canBe 60 = .ok (.if_icmp .gt 7, 3) := by decide +kernel
theorem dX7_canBe_63 : decode cX7_canBe 63 = .ok (.iconst 1, 1) := by decide +kernel
theorem dX7_canBe_64 : decode cX7_canBe 64 = .ok (.goto 4, 3) := by decide +kernel
theorem dX7_canBe_67 : decode cX7_canBe 67 = .ok (.iconst 0, 1) := by decide +kernel
theorem dX7_canBe_68 : decode cX7_canBe 68 = .ok (.ireturn, 1) := by decide +kernel
theorem dX7_canBe_69 : decode cX7_canBe 69 = .ok (.iload_n 1, 1) := by decide +kernel
theorem dX7_canBe_70 : decode cX7_canBe 70 = .ok (.bipush 99, 2) := by decide +kernel
theorem dX7_canBe_72 : decode cX7_canBe 72 = .ok (.if_icmp .gt 7, 3) := by decide +kernel
theorem dX7_canBe_75 : decode cX7_canBe 75 = .ok (.iconst 1, 1) := by decide +kernel
theorem dX7_canBe_76 : decode cX7_canBe 76 = .ok (.goto 4, 3) := by decide +kernel
theorem dX7_canBe_79 : decode cX7_canBe 79 = .ok (.iconst 0, 1) := by decide +kernel
theorem dX7_canBe_80 : decode cX7_canBe 80 = .ok (.ireturn, 1) := by decide +kernel
theorem dX7_canBe_81 : decode cX7_canBe 81 = .ok (.iload_n 1, 1) := by decide +kernel
theorem dX7_canBe_82 : decode cX7_canBe 82 = .ok (.iconst 1, 1) := by decide +kernel
theorem dX7_canBe_83 : decode cX7_canBe 83 = .ok (.bipush 9, 2) := by decide +kernel
theorem dX7_canBe_85 : decode cX7_canBe 85 = .ok (.invokestatic 97, 3) := by decide +kernel
theorem dX7_canBe_88 : decode cX7_canBe 88 = .ok (.ireturn, 1) := by decide +kernel
theorem dX7_canBe_89 : decode cX7_canBe 89 = .ok (.iconst 1, 1) := by decide +kernel
theorem dX7_canBe_90 : decode cX7_canBe 90 = .ok (.ireturn, 1) := by decide +kernel
theorem dX7_at_0 : decode cX7_at 0 = .ok (.iload_n 1, 1) := by decide +kernel
theorem dX7_at_1 : decode cX7_at 1 = .ok (.iload_n 2, 1) := by decide +kernel
theorem dX7_at_2 : decode cX7_at 2 = .ok (.if_icmp .ge 16, 3) := by decide +kernel
theorem dX7_at_5 : decode cX7_at 5 = .ok (.aload_n 0, 1) := by decide +kernel
theorem dX7_at_6 : decode cX7_at 6 = .ok (.getfield 7, 3) := by decide +kernel
theorem dX7_at_9 : decode cX7_at 9 = .ok (.iload_n 1, 1) := by decide +kernel
theorem dX7_at_10 : decode cX7_at 10 = .ok (.baload, 1) := by decide +kernel
theorem dX7_at_11 : decode cX7_at 11 = .ok (.sipush 255, 3) := by decide +kernel
theorem dX7_at_14 : decode cX7_at 14 = .ok (.iand, 1) := by decide +kernel
theorem dX7_at_15 : decode cX7_at 15 = .ok (.goto 4, 3) := by decide +kernel
theorem dX7_at_18 : decode cX7_at 18 = .ok (.iconst 0, 1) := by decide +kernel
theorem dX7_at_19 : decode cX7_at 19 = .ok (.ireturn, 1) := by decide +kernel
theorem dX7_reads_0 : decode cX7_reads 0 = .ok (.aload_n 0, 1) := by decide +kernel
theorem dX7_reads_1 : decode cX7_reads 1 = .ok (.getfield 17, 3) := by decide +kernel
theorem dX7_reads_4 : decode cX7_reads 4 = .ok (.invokestatic 85, 3) := by decide +kernel
theorem dX7_reads_7 : decode cX7_reads 7 = .ok (.iconst 0, 1) := by decide +kernel
theorem dX7_reads_8 : decode cX7_reads 8 = .ok (.istore_n 2, 1) := by decide +kernel
theorem dX7_reads_9 : decode cX7_reads 9 = .ok (.iconst 0, 1) := by decide +kernel
theorem dX7_reads_10 : decode cX7_reads 10 = .ok (.istore_n 3, 1) := by decide +kernel
theorem dX7_reads_11 : decode cX7_reads 11 = .ok (.iload_n 3, 1) := by decide +kernel
theorem dX7_reads_12 : decode cX7_reads 12 = .ok (.iload_n 1, 1) := by decide +kernel
theorem dX7_reads_13 : decode cX7_reads 13 = .ok (.if_icmp .gt 168, 3) := by decide +kernel
theorem dX7_reads_16 : decode cX7_reads 16 = .ok (.aload_n 0, 1) := by decide +kernel
theorem dX7_reads_17 : decode cX7_reads 17 = .ok (.iload_n 2, 1) := by decide +kernel
theorem dX7_reads_18 : decode cX7_reads 18 = .ok (.iload_n 1, 1) := by decide +kernel
theorem dX7_reads_19 : decode cX7_reads 19 = .ok (.invokevirtual 101, 3) := by decide +kernel
theorem dX7_reads_22 : decode cX7_reads 22 = .ok (.invokestatic 105, 3) := by decide +kernel
theorem dX7_reads_25 : decode cX7_reads 25 = .ok (.istore 4, 2) := by decide +kernel
theorem dX7_reads_27 : decode cX7_reads 27 = .ok (.iload 4, 2) := by decide +kernel
theorem dX7_reads_29 : decode cX7_reads 29 = .ok (.iconst (-1), 1) := by decide +kernel
theorem dX7_reads_30 : decode cX7_reads 30 = .ok (.if_icmp .ne 8, 3) := by decide +kernel
theorem dX7_reads_33 : decode cX7_reads 33 = .ok (.bipush 100, 2) := by decide +kernel
theorem dX7_reads_35 : decode cX7_reads 35 = .ok (.iload_n 2, 1) := by decide +kernel
theorem dX7_reads_36 : decode cX7_reads 36 = .ok (.iadd, 1) := by decide +kernel
theorem dX7_reads_37 : decode cX7_reads 37 = .ok (.ireturn, 1) := by decide +kernel
theorem dX7_reads_38 : decode cX7_reads 38 = .ok (.iinc 2 1, 3) := by decide +kernel
theorem dX7_reads_41 : decode cX7_reads 41 = .ok (.aload_n 0, 1) := by decide +kernel
theorem dX7_reads_42 : decode cX7_reads 42 = .ok (.iload_n 2, 1) := by decide +kernel
theorem dX7_reads_43 : decode cX7_reads 43 = .ok (.iload_n 1, 1) := by decide +kernel
theorem dX7_reads_44 : decode cX7_reads 44 = .ok (.invokevirtual 101, 3) := by decide +kernel
theorem dX7_reads_47 : decode cX7_reads 47 = .ok (.bipush 48, 2) := by decide +kernel
theorem dX7_reads_49 : decode cX7_reads 49 = .ok (.bipush 57, 2) := by decide +kernel
theorem dX7_reads_51 : decode cX7_reads 51 = .ok (.invokestatic 97, 3) := by decide +kernel
theorem dX7_reads_54 : decode cX7_reads 54 = .ok (.ifCond .ne 9, 3) := by decide +kernel
theorem dX7_reads_57 : decode cX7_reads 57 = .ok (.sipush 200, 3) := by decide +kernel
theorem dX7_reads_60 : decode cX7_reads 60 = .ok (.iload_n 2, 1) := by decide +kernel
theorem dX7_reads_61 : decode cX7_reads 61 = .ok (.iadd, 1) := by decide +kernel
theorem dX7_reads_62 : decode cX7_reads 62 = .ok (.ireturn, 1) := by decide +kernel
theorem dX7_reads_63 : decode cX7_reads 63 = .ok (.iload_n 2, 1) := by decide +kernel
theorem dX7_reads_64 : decode cX7_reads 64 = .ok (.istore 5, 2) := by decide +kernel
theorem dX7_reads_66 : decode cX7_reads 66 = .ok (.iconst 0, 1) := by decide +kernel
theorem dX7_reads_67 : decode cX7_reads 67 = .ok (.istore 6, 2) := by decide +kernel
theorem dX7_reads_69 : decode cX7_reads 69 = .ok (.aload_n 0, 1) := by decide +kernel
theorem dX7_reads_70 : decode cX7_reads 70 = .ok (.iload_n 2, 1) := by decide +kernel
theorem dX7_reads_71 : decode cX7_reads 71 = .ok (.iload_n 1, 1) := by decide +kernel
theorem dX7_reads_72 : decode cX7_reads 72 = .ok (.invokevirtual 101, 3) := by decide +kernel
theorem dX7_reads_75 : decode cX7_reads 75 = .ok (.bipush 48, 2) := by decide +kernel
theorem dX7_reads_77 : decode cX7_reads 77 = .ok (.bipush 57, 2) := by decide +kernel
theorem dX7_reads_79 : decode cX7_reads 79 = .ok (.invokestatic 97, 3) := by decide +kernel
theorem dX7_reads_82 : decode cX7_reads 82 = .ok (.ifCond .eq 40, 3) := by decide +kernel
theorem dX7_reads_85 : decode cX7_reads 85 = .ok (.iload_n 2, 1) := by decide +kernel
theorem dX7_reads_86 : decode cX7_reads 86 = .ok (.iload 5, 2) := by decide +kernel
theorem dX7_reads_88 : decode cX7_reads 88 = .ok (.iconst 4, 1) := by decide +kernel
theorem dX7_reads_89 : decode cX7_reads 89 = .ok (.iadd, 1) := by decide +kernel
theorem dX7_reads_90 : decode cX7_reads 90 = .ok (.if_icmp .ne 9, 3) := by decide +kernel
theorem dX7_reads_93 : decode cX7_reads 93 = .ok (.sipush 300, 3) := by decide +kernel
theorem dX7_reads_96 : decode cX7_reads 96 = .ok (.iload_n 2, 1) := by decide +kernel
theorem dX7_reads_97 : decode cX7_reads 97 = .ok (.iadd, 1) := by decide +kernel
theorem dX7_reads_98 : decode cX7_reads 98 = .ok (.ireturn, 1) := by decide +kernel
theorem dX7_reads_99 : decode cX7_reads 99 = .ok (.bipush 10, 2) := by decide +kernel
theorem dX7_reads_101 : decode cX7_reads 101 = .ok (.iload 6, 2) := by decide +kernel
theorem dX7_reads_103 : decode cX7_reads 103 = .ok (.imul, 1) := by decide +kernel
theorem dX7_reads_104 : decode cX7_reads 104 = .ok (.aload_n 0, 1) := by decide +kernel
theorem dX7_reads_105 : decode cX7_reads 105 = .ok (.iload_n 2, 1) := by decide +kernel
theorem dX7_reads_106 : decode cX7_reads 106 = .ok (.iload_n 1, 1) := by decide +kernel
theorem dX7_reads_107 : decode cX7_reads 107 = .ok (.invokevirtual 101, 3) := by decide +kernel
theorem dX7_reads_110 : decode cX7_reads 110 = .ok (.iadd, 1) := by decide +kernel
theorem dX7_reads_111 : decode cX7_reads 111 = .ok (.bipush 48, 2) := by decide +kernel
theorem dX7_reads_113 : decode cX7_reads 113 = .ok (.isub, 1) := by decide +kernel
theorem dX7_reads_114 : decode cX7_reads 114 = .ok (.istore 6, 2) := by decide +kernel
theorem dX7_reads_116 : decode cX7_reads 116 = .ok (.iinc 2 1, 3) := by decide +kernel
theorem dX7_reads_119 : decode cX7_reads 119 = .ok (.goto (-50), 3) := by decide +kernel
theorem dX7_reads_122 : decode cX7_reads 122 = .ok (.iload 4, 2) := by decide +kernel
theorem dX7_reads_124 : decode cX7_reads 124 = .ok (.iload 6, 2) := by decide +kernel
theorem dX7_reads_126 : decode cX7_reads 126 = .ok (.invokestatic 109, 3) := by decide +kernel
theorem dX7_reads_129 : decode cX7_reads 129 = .ok (.ifCond .ne 10, 3) := by decide +kernel
theorem dX7_reads_132 : decode cX7_reads 132 = .ok (.sipush 400, 3) := by decide +kernel
theorem dX7_reads_135 : decode cX7_reads 135 = .ok (.iload 5, 2) := by decide +kernel
theorem dX7_reads_137 : decode cX7_reads 137 = .ok (.iadd, 1) := by decide +kernel
theorem dX7_reads_138 : decode cX7_reads 138 = .ok (.ireturn, 1) := by decide +kernel
theorem dX7_reads_139 : decode cX7_reads 139 = .ok (.aload_n 0, 1) := by decide +kernel
theorem dX7_reads_140 : decode cX7_reads 140 = .ok (.getfield 17, 3) := by decide +kernel
theorem dX7_reads_143 : decode cX7_reads 143 = .ok (.iload 4, 2) := by decide +kernel
theorem dX7_reads_145 : decode cX7_reads 145 = .ok (.iload 6, 2) := by decide +kernel
theorem dX7_reads_147 : decode cX7_reads 147 = .ok (.iastore, 1) := by decide +kernel
theorem dX7_reads_148 : decode cX7_reads 148 = .ok (.iload_n 2, 1) := by decide +kernel
theorem dX7_reads_149 : decode cX7_reads 149 = .ok (.iload_n 1, 1) := by decide +kernel
theorem dX7_reads_150 : decode cX7_reads 150 = .ok (.if_icmp .ne 5, 3) := by decide +kernel
theorem dX7_reads_153 : decode cX7_reads 153 = .ok (.iconst 0, 1) := by decide +kernel
theorem dX7_reads_154 : decode cX7_reads 154 = .ok (.ireturn, 1) := by decide +kernel
theorem dX7_reads_155 : decode cX7_reads 155 = .ok (.aload_n 0, 1) := by decide +kernel
theorem dX7_reads_156 : decode cX7_reads 156 = .ok (.iload_n 2, 1) := by decide +kernel
theorem dX7_reads_157 : decode cX7_reads 157 = .ok (.iload_n 1, 1) := by decide +kernel
theorem dX7_reads_158 : decode cX7_reads 158 = .ok (.invokevirtual 101, 3) := by decide +kernel
theorem dX7_reads_161 : decode cX7_reads 161 = .ok (.bipush 59, 2) := by decide +kernel
theorem dX7_reads_163 : decode cX7_reads 163 = .ok (.if_icmp .eq 9, 3) := by decide +kernel
theorem dX7_reads_166 : decode cX7_reads 166 = .ok (.sipush 500, 3) := by decide +kernel
theorem dX7_reads_169 : decode cX7_reads 169 = .ok (.iload_n 2, 1) := by decide +kernel
theorem dX7_reads_170 : decode cX7_reads 170 = .ok (.iadd, 1) := by decide +kernel
theorem dX7_reads_171 : decode cX7_reads 171 = .ok (.ireturn, 1) := by decide +kernel
theorem dX7_reads_172 : decode cX7_reads 172 = .ok (.iinc 2 1, 3) := by decide +kernel
theorem dX7_reads_175 : decode cX7_reads 175 = .ok (.iinc 3 1, 3) := by decide +kernel
theorem dX7_reads_178 : decode cX7_reads 178 = .ok (.goto (-167), 3) := by decide +kernel
theorem dX7_reads_181 : decode cX7_reads 181 = .ok (.bipush 100, 2) := by decide +kernel
theorem dX7_reads_183 : decode cX7_reads 183 = .ok (.iload_n 2, 1) := by decide +kernel
theorem dX7_reads_184 : decode cX7_reads 184 = .ok (.iadd, 1) := by decide +kernel
theorem dX7_reads_185 : decode cX7_reads 185 = .ok (.ireturn, 1) := by decide +kernel
theorem dX7_rules_0 : decode cX7_rules 0 = .ok (.iload_n 1, 1) := by decide +kernel
theorem dX7_rules_1 : decode cX7_rules 1 = .ok (.ifCond .lt 11, 3) := by decide +kernel
theorem dX7_rules_4 : decode cX7_rules 4 = .ok (.iload_n 1, 1) := by decide +kernel
theorem dX7_rules_5 : decode cX7_rules 5 = .ok (.aload_n 0, 1) := by decide +kernel
theorem dX7_rules_6 : decode cX7_rules 6 = .ok (.getfield 89, 3) := by decide +kernel
theorem dX7_rules_9 : decode cX7_rules 9 = .ok (.if_icmp .le 5, 3) := by decide +kernel
theorem dX7_rules_12 : decode cX7_rules 12 = .ok (.iconst (-1), 1) := by decide +kernel
theorem dX7_rules_13 : decode cX7_rules 13 = .ok (.ireturn, 1) := by decide +kernel
theorem dX7_rules_14 : decode cX7_rules 14 = .ok (.aload_n 0, 1) := by decide +kernel
theorem dX7_rules_15 : decode cX7_rules 15 = .ok (.iconst 0, 1) := by decide +kernel
theorem dX7_rules_16 : decode cX7_rules 16 = .ok (.putfield 89, 3) := by decide +kernel
theorem dX7_rules_19 : decode cX7_rules 19 = .ok (.aload_n 0, 1) := by decide +kernel
theorem dX7_rules_20 : decode cX7_rules 20 = .ok (.iload_n 1, 1) := by decide +kernel
theorem dX7_rules_21 : decode cX7_rules 21 = .ok (.invokevirtual 113, 3) := by decide +kernel
theorem dX7_rules_24 : decode cX7_rules 24 = .ok (.istore_n 2, 1) := by decide +kernel
theorem dX7_rules_25 : decode cX7_rules 25 = .ok (.iconst 0, 1) := by decide +kernel
theorem dX7_rules_26 : decode cX7_rules 26 = .ok (.istore_n 3, 1) := by decide +kernel
theorem dX7_rules_27 : decode cX7_rules 27 = .ok (.iload_n 3, 1) := by decide +kernel
theorem dX7_rules_28 : decode cX7_rules 28 = .ok (.bipush 7, 2) := by decide +kernel
theorem dX7_rules_30 : decode cX7_rules 30 = .ok (.if_icmp .ge 25, 3) := by decide +kernel
theorem dX7_rules_33 : decode cX7_rules 33 = .ok (.iload_n 2, 1) := by decide +kernel
theorem dX7_rules_34 : decode cX7_rules 34 = .ok (.ifCond .ne 21, 3) := by decide +kernel
theorem dX7_rules_37 : decode cX7_rules 37 = .ok (.aload_n 0, 1) := by decide +kernel
theorem dX7_rules_38 : decode cX7_rules 38 = .ok (.getfield 13, 3) := by decide +kernel
theorem dX7_rules_41 : decode cX7_rules 41 = .ok (.iload_n 3, 1) := by decide +kernel
theorem dX7_rules_42 : decode cX7_rules 42 = .ok (.aload_n 0, 1) := by decide +kernel
theorem dX7_rules_43 : decode cX7_rules 43 = .ok (.getfield 17, 3) := by decide +kernel
theorem dX7_rules_46 : decode cX7_rules 46 = .ok (.iload_n 3, 1) := by decide +kernel
theorem dX7_rules_47 : decode cX7_rules 47 = .ok (.iaload, 1) := by decide +kernel
theorem dX7_rules_48 : decode cX7_rules 48 = .ok (.iastore, 1) := by decide +kernel
theorem dX7_rules_49 : decode cX7_rules 49 = .ok (.iinc 3 1, 3) := by decide +kernel
theorem dX7_rules_52 : decode cX7_rules 52 = .ok (.goto (-25), 3) := by decide +kernel
theorem dX7_rules_55 : decode cX7_rules 55 = .ok (.aload_n 0, 1) := by decide +kernel
theorem dX7_rules_56 : decode cX7_rules 56 = .ok (.iconst 0, 1) := by decide +kernel
theorem dX7_rules_57 : decode cX7_rules 57 = .ok (.putfield 116, 3) := by decide +kernel
theorem dX7_rules_60 : decode cX7_rules 60 = .ok (.iload_n 2, 1) := by decide +kernel
theorem dX7_rules_61 : decode cX7_rules 61 = .ok (.ireturn, 1) := by decide +kernel
theorem dX7_isTeacher_0 : decode cX7_isTeacher 0 = .ok (.iload_n 1, 1) := by decide +kernel
theorem dX7_isTeacher_1 : decode cX7_isTeacher 1 = .ok (.iconst 0, 1) := by decide +kernel
theorem dX7_isTeacher_2 : decode cX7_isTeacher 2 = .ok (.aload_n 0, 1) := by decide +kernel
theorem dX7_isTeacher_3 : decode cX7_isTeacher 3 = .ok (.getfield 120, 3) := by decide +kernel
theorem dX7_isTeacher_6 : decode cX7_isTeacher 6 = .ok (.iconst 1, 1) := by decide +kernel
theorem dX7_isTeacher_7 : decode cX7_isTeacher 7 = .ok (.isub, 1) := by decide +kernel
theorem dX7_isTeacher_8 : decode cX7_isTeacher 8 = .ok (.invokestatic 97, 3) := by decide +kernel
theorem dX7_isTeacher_11 : decode cX7_isTeacher 11 = .ok (.ireturn, 1) := by decide +kernel
theorem dX7_isGap_0 : decode cX7_isGap 0 = .ok (.iload_n 1, 1) := by decide +kernel
theorem dX7_isGap_1 : decode cX7_isGap 1 = .ok (.iconst 0, 1) := by decide +kernel
theorem dX7_isGap_2 : decode cX7_isGap 2 = .ok (.aload_n 0, 1) := by decide +kernel
theorem dX7_isGap_3 : decode cX7_isGap 3 = .ok (.getfield 123, 3) := by decide +kernel
theorem dX7_isGap_6 : decode cX7_isGap 6 = .ok (.iconst 1, 1) := by decide +kernel
theorem dX7_isGap_7 : decode cX7_isGap 7 = .ok (.isub, 1) := by decide +kernel
theorem dX7_isGap_8 : decode cX7_isGap 8 = .ok (.invokestatic 97, 3) := by decide +kernel
theorem dX7_isGap_11 : decode cX7_isGap 11 = .ok (.ireturn, 1) := by decide +kernel
theorem dX7_teacher_0 : decode cX7_teacher 0 = .ok (.aload_n 0, 1) := by decide +kernel
theorem dX7_teacher_1 : decode cX7_teacher 1 = .ok (.getfield 120, 3) := by decide +kernel
theorem dX7_teacher_4 : decode cX7_teacher 4 = .ok (.bipush 12, 2) := by decide +kernel
theorem dX7_teacher_6 : decode cX7_teacher 6 = .ok (.if_icmp .eq 35, 3) := by decide +kernel
theorem dX7_teacher_9 : decode cX7_teacher 9 = .ok (.iload_n 1, 1) := by decide +kernel
theorem dX7_teacher_10 : decode cX7_teacher 10 = .ok (.iconst 0, 1) := by decide +kernel
theorem dX7_teacher_11 : decode cX7_teacher 11 = .ok (.sipush 255, 3) := by decide +kernel
theorem dX7_teacher_14 : decode cX7_teacher 14 = .ok (.invokestatic 97, 3) := by decide +kernel
theorem dX7_teacher_17 : decode cX7_teacher 17 = .ok (.ifCond .eq 24, 3) := by decide +kernel
theorem dX7_teacher_20 : decode cX7_teacher 20 = .ok (.iload_n 2, 1) := by decide +kernel
theorem dX7_teacher_21 : decode cX7_teacher 21 = .ok (.iconst 0, 1) := by decide +kernel
theorem dX7_teacher_22 : decode cX7_teacher 22 = .ok (.bipush 15, 2) := by decide +kernel
theorem dX7_teacher_24 : decode cX7_teacher 24 = .ok (.invokestatic 97, 3) := by decide +kernel
theorem dX7_teacher_27 : decode cX7_teacher 27 = .ok (.ifCond .eq 14, 3) := by decide +kernel
theorem dX7_teacher_30 : decode cX7_teacher 30 = .ok (.iload_n 3, 1) := by decide +kernel
theorem dX7_teacher_31 : decode cX7_teacher 31 = .ok (.iconst 0, 1) := by decide +kernel
theorem dX7_teacher_32 : decode cX7_teacher 32 = .ok (.sipush 3000, 3) := by decide +kernel
theorem dX7_teacher_35 : decode cX7_teacher 35 = .ok (.invokestatic 97, 3) := by decide +kernel
theorem dX7_teacher_38 : decode cX7_teacher 38 = .ok (.ifCond .ne 5, 3) := by decide +kernel
theorem dX7_teacher_41 : decode cX7_teacher 41 = .ok (.iconst (-1), 1) := by decide +kernel
theorem dX7_teacher_42 : decode cX7_teacher 42 = .ok (.ireturn, 1) := by decide +kernel
theorem dX7_teacher_43 : decode cX7_teacher 43 = .ok (.aload_n 0, 1) := by decide +kernel
theorem dX7_teacher_44 : decode cX7_teacher 44 = .ok (.getfield 20, 3) := by decide +kernel
theorem dX7_teacher_47 : decode cX7_teacher 47 = .ok (.aload_n 0, 1) := by decide +kernel
theorem dX7_teacher_48 : decode cX7_teacher 48 = .ok (.getfield 120, 3) := by decide +kernel
theorem dX7_teacher_51 : decode cX7_teacher 51 = .ok (.iload_n 1, 1) := by decide +kernel
theorem dX7_teacher_52 : decode cX7_teacher 52 = .ok (.iastore, 1) := by decide +kernel
theorem dX7_teacher_53 : decode cX7_teacher 53 = .ok (.aload_n 0, 1) := by decide +kernel
theorem dX7_teacher_54 : decode cX7_teacher 54 = .ok (.getfield 23, 3) := by decide +kernel
theorem dX7_teacher_57 : decode cX7_teacher 57 = .ok (.aload_n 0, 1) := by decide +kernel
theorem dX7_teacher_58 : decode cX7_teacher 58 = .ok (.getfield 120, 3) := by decide +kernel
theorem dX7_teacher_61 : decode cX7_teacher 61 = .ok (.iload_n 2, 1) := by decide +kernel
theorem dX7_teacher_62 : decode cX7_teacher 62 = .ok (.iastore, 1) := by decide +kernel
theorem dX7_teacher_63 : decode cX7_teacher 63 = .ok (.aload_n 0, 1) := by decide +kernel
theorem dX7_teacher_64 : decode cX7_teacher 64 = .ok (.getfield 26, 3) := by decide +kernel
theorem dX7_teacher_67 : decode cX7_teacher 67 = .ok (.aload_n 0, 1) := by decide +kernel
theorem dX7_teacher_68 : decode cX7_teacher 68 = .ok (.getfield 120, 3) := by decide +kernel
theorem dX7_teacher_71 : decode cX7_teacher 71 = .ok (.iload_n 3, 1) := by decide +kernel
theorem dX7_teacher_72 : decode cX7_teacher 72 = .ok (.iastore, 1) := by decide +kernel
theorem dX7_teacher_73 : decode cX7_teacher 73 = .ok (.aload_n 0, 1) := by decide +kernel
theorem dX7_teacher_74 : decode cX7_teacher 74 = .ok (.getfield 41, 3) := by decide +kernel
theorem dX7_teacher_77 : decode cX7_teacher 77 = .ok (.aload_n 0, 1) := by decide +kernel
theorem dX7_teacher_78 : decode cX7_teacher 78 = .ok (.getfield 120, 3) := by decide +kernel
theorem dX7_teacher_81 : decode cX7_teacher 81 = .ok (.iconst (-1), 1) := by decide +kernel
theorem dX7_teacher_82 : decode cX7_teacher 82 = .ok (.iastore, 1) := by decide +kernel
theorem dX7_teacher_83 : decode cX7_teacher 83 = .ok (.iconst 0, 1) := by decide +kernel
theorem dX7_teacher_84 : decode cX7_teacher 84 = .ok (.istore 4, 2) := by decide +kernel
theorem dX7_teacher_86 : decode cX7_teacher 86 = .ok (.iload 4, 2) := by decide +kernel
theorem dX7_teacher_88 : decode cX7_teacher 88 = .ok (.bipush 6, 2) := by decide +kernel
theorem dX7_teacher_90 : decode cX7_teacher 90 = .ok (.if_icmp .ge 26, 3) := by decide +kernel
theorem dX7_teacher_93 : decode cX7_teacher 93 = .ok (.aload_n 0, 1) := by decide +kernel
theorem dX7_teacher_94 : decode cX7_teacher 94 = .ok (.getfield 29, 3) := by decide +kernel
theorem dX7_teacher_97 : decode cX7_teacher 97 = .ok (.bipush 6, 2) := by decide +kernel
theorem dX7_teacher_99 : decode cX7_teacher 99 = .ok (.aload_n 0, 1) := by decide +kernel
theorem dX7_teacher_100 : decode cX7_teacher 100 = .ok (.getfield 120, 3) := by decide +kernel
theorem dX7_teacher_103 : decode cX7_teacher 103 = .ok (.imul, 1) := by decide +kernel
theorem dX7_teacher_104 : decode cX7_teacher 104 = .ok (.iload 4, 2) := by decide +kernel
theorem dX7_teacher_106 : decode cX7_teacher 106 = .ok (.iadd, 1) := by decide +kernel
theorem dX7_teacher_107 : decode cX7_teacher 107 = .ok (.bipush 30, 2) := by decide +kernel
theorem dX7_teacher_109 : decode cX7_teacher 109 = .ok (.iastore, 1) := by decide +kernel
theorem dX7_teacher_110 : decode cX7_teacher 110 = .ok (.iinc 4 1, 3) := by decide +kernel
theorem dX7_teacher_113 : decode cX7_teacher 113 = .ok (.goto (-27), 3) := by decide +kernel
theorem dX7_teacher_116 : decode cX7_teacher 116 = .ok (.aload_n 0, 1) := by decide +kernel
theorem dX7_teacher_117 : decode cX7_teacher 117 = .ok (.dup, 1) := by decide +kernel
theorem dX7_teacher_118 : decode cX7_teacher 118 = .ok (.getfield 120, 3) := by decide +kernel
theorem dX7_teacher_121 : decode cX7_teacher 121 = .ok (.iconst 1, 1) := by decide +kernel
theorem dX7_teacher_122 : decode cX7_teacher 122 = .ok (.iadd, 1) := by decide +kernel
theorem dX7_teacher_123 : decode cX7_teacher 123 = .ok (.putfield 120, 3) := by decide +kernel
theorem dX7_teacher_126 : decode cX7_teacher 126 = .ok (.aload_n 0, 1) := by decide +kernel
theorem dX7_teacher_127 : decode cX7_teacher 127 = .ok (.iconst 0, 1) := by decide +kernel
theorem dX7_teacher_128 : decode cX7_teacher 128 = .ok (.putfield 116, 3) := by decide +kernel
theorem dX7_teacher_131 : decode cX7_teacher 131 = .ok (.aload_n 0, 1) := by decide +kernel
theorem dX7_teacher_132 : decode cX7_teacher 132 = .ok (.getfield 120, 3) := by decide +kernel
theorem dX7_teacher_135 : decode cX7_teacher 135 = .ok (.iconst 1, 1) := by decide +kernel
theorem dX7_teacher_136 : decode cX7_teacher 136 = .ok (.isub, 1) := by decide +kernel
theorem dX7_teacher_137 : decode cX7_teacher 137 = .ok (.ireturn, 1) := by decide +kernel
theorem dX7_way_0 : decode cX7_way 0 = .ok (.aload_n 0, 1) := by decide +kernel
theorem dX7_way_1 : decode cX7_way 1 = .ok (.iload_n 1, 1) := by decide +kernel
theorem dX7_way_2 : decode cX7_way 2 = .ok (.invokevirtual 126, 3) := by decide +kernel
theorem dX7_way_5 : decode cX7_way 5 = .ok (.ifCond .eq 23, 3) := by decide +kernel
theorem dX7_way_8 : decode cX7_way 8 = .ok (.iload_n 2, 1) := by decide +kernel
theorem dX7_way_9 : decode cX7_way 9 = .ok (.iconst 0, 1) := by decide +kernel
theorem dX7_way_10 : decode cX7_way 10 = .ok (.iconst 5, 1) := by decide +kernel
theorem dX7_way_11 : decode cX7_way 11 = .ok (.invokestatic 97, 3) := by decide +kernel
theorem dX7_way_14 : decode cX7_way 14 = .ok (.ifCond .eq 14, 3) := by decide +kernel
theorem dX7_way_17 : decode cX7_way 17 = .ok (.iload_n 3, 1) := by decide +kernel
theorem dX7_way_18 : decode cX7_way 18 = .ok (.iconst 0, 1) := by decide +kernel
theorem dX7_way_19 : decode cX7_way 19 = .ok (.sipush 200, 3) := by decide +kernel
theorem dX7_way_22 : decode cX7_way 22 = .ok (.invokestatic 97, 3) := by decide +kernel
theorem dX7_way_25 : decode cX7_way 25 = .ok (.ifCond .ne 5, 3) := by decide +kernel
theorem dX7_way_28 : decode cX7_way 28 = .ok (.iconst 0, 1) := by decide +kernel
theorem dX7_way_29 : decode cX7_way 29 = .ok (.ireturn, 1) := by decide +kernel
theorem dX7_way_30 : decode cX7_way 30 = .ok (.aload_n 0, 1) := by decide +kernel
theorem dX7_way_31 : decode cX7_way 31 = .ok (.getfield 29, 3) := by decide +kernel
theorem dX7_way_34 : decode cX7_way 34 = .ok (.bipush 6, 2) := by decide +kernel
theorem dX7_way_36 : decode cX7_way 36 = .ok (.iload_n 1, 1) := by decide +kernel
theorem dX7_way_37 : decode cX7_way 37 = .ok (.imul, 1) := by decide +kernel
theorem dX7_way_38 : decode cX7_way 38 = .ok (.iload_n 2, 1) := by decide +kernel
theorem dX7_way_39 : decode cX7_way 39 = .ok (.iadd, 1) := by decide +kernel
theorem dX7_way_40 : decode cX7_way 40 = .ok (.iload_n 3, 1) := by decide +kernel
theorem dX7_way_41 : decode cX7_way 41 = .ok (.iastore, 1) := by decide +kernel
theorem dX7_way_42 : decode cX7_way 42 = .ok (.aload_n 0, 1) := by decide +kernel
theorem dX7_way_43 : decode cX7_way 43 = .ok (.iconst 0, 1) := by decide +kernel
theorem dX7_way_44 : decode cX7_way 44 = .ok (.putfield 116, 3) := by decide +kernel
theorem dX7_way_47 : decode cX7_way 47 = .ok (.iconst 1, 1) := by decide +kernel
theorem dX7_way_48 : decode cX7_way 48 = .ok (.ireturn, 1) := by decide +kernel
theorem dX7_likes_0 : decode cX7_likes 0 = .ok (.aload_n 0, 1) := by decide +kernel
theorem dX7_likes_1 : decode cX7_likes 1 = .ok (.iload_n 1, 1) := by decide +kernel
theorem dX7_likes_2 : decode cX7_likes 2 = .ok (.invokevirtual 126, 3) := by decide +kernel
theorem dX7_likes_5 : decode cX7_likes 5 = .ok (.ifCond .eq 23, 3) := by decide +kernel
theorem dX7_likes_8 : decode cX7_likes 8 = .ok (.iload_n 2, 1) := by decide +kernel
theorem dX7_likes_9 : decode cX7_likes 9 = .ok (.iconst 0, 1) := by decide +kernel
theorem dX7_likes_10 : decode cX7_likes 10 = .ok (.bipush 63, 2) := by decide +kernel
theorem dX7_likes_12 : decode cX7_likes 12 = .ok (.invokestatic 97, 3) := by decide +kernel
theorem dX7_likes_15 : decode cX7_likes 15 = .ok (.ifCond .eq 13, 3) := by decide +kernel
theorem dX7_likes_18 : decode cX7_likes 18 = .ok (.iload_n 3, 1) := by decide +kernel
theorem dX7_likes_19 : decode cX7_likes 19 = .ok (.iconst 0, 1) := by decide +kernel
theorem dX7_likes_20 : decode cX7_likes 20 = .ok (.bipush 63, 2) := by decide +kernel
theorem dX7_likes_22 : decode cX7_likes 22 = .ok (.invokestatic 97, 3) := by decide +kernel
theorem dX7_likes_25 : decode cX7_likes 25 = .ok (.ifCond .ne 5, 3) := by decide +kernel
theorem dX7_likes_28 : decode cX7_likes 28 = .ok (.iconst 0, 1) := by decide +kernel
theorem dX7_likes_29 : decode cX7_likes 29 = .ok (.ireturn, 1) := by decide +kernel
theorem dX7_likes_30 : decode cX7_likes 30 = .ok (.aload_n 0, 1) := by decide +kernel
theorem dX7_likes_31 : decode cX7_likes 31 = .ok (.getfield 32, 3) := by decide +kernel
theorem dX7_likes_34 : decode cX7_likes 34 = .ok (.iload_n 1, 1) := by decide +kernel
theorem dX7_likes_35 : decode cX7_likes 35 = .ok (.iload_n 2, 1) := by decide +kernel
theorem dX7_likes_36 : decode cX7_likes 36 = .ok (.iastore, 1) := by decide +kernel
theorem dX7_likes_37 : decode cX7_likes 37 = .ok (.aload_n 0, 1) := by decide +kernel
theorem dX7_likes_38 : decode cX7_likes 38 = .ok (.getfield 35, 3) := by decide +kernel
theorem dX7_likes_41 : decode cX7_likes 41 = .ok (.iload_n 1, 1) := by decide +kernel
theorem dX7_likes_42 : decode cX7_likes 42 = .ok (.iload_n 3, 1) := by decide +kernel
theorem dX7_likes_43 : decode cX7_likes 43 = .ok (.iastore, 1) := by decide +kernel
theorem dX7_likes_44 : decode cX7_likes 44 = .ok (.aload_n 0, 1) := by decide +kernel
theorem dX7_likes_45 : decode cX7_likes 45 = .ok (.iconst 0, 1) := by decide +kernel
theorem dX7_likes_46 : decode cX7_likes 46 = .ok (.putfield 116, 3) := by decide +kernel
theorem dX7_likes_49 : decode cX7_likes 49 = .ok (.iconst 1, 1) := by decide +kernel
theorem dX7_likes_50 : decode cX7_likes 50 = .ok (.ireturn, 1) := by decide +kernel
theorem dX7_gap_0 : decode cX7_gap 0 = .ok (.aload_n 0, 1) := by decide +kernel
theorem dX7_gap_1 : decode cX7_gap 1 = .ok (.getfield 123, 3) := by decide +kernel
theorem dX7_gap_4 : decode cX7_gap 4 = .ok (.bipush 10, 2) := by decide +kernel
theorem dX7_gap_6 : decode cX7_gap 6 = .ok (.if_icmp .eq 53, 3) := by decide +kernel
theorem dX7_gap_9 : decode cX7_gap 9 = .ok (.iload_n 1, 1) := by decide +kernel
theorem dX7_gap_10 : decode cX7_gap 10 = .ok (.iconst 0, 1) := by decide +kernel
theorem dX7_gap_11 : decode cX7_gap 11 = .ok (.iconst 5, 1) := by decide +kernel
theorem dX7_gap_12 : decode cX7_gap 12 = .ok (.invokestatic 97, 3) := by decide +kernel
theorem dX7_gap_15 : decode cX7_gap 15 = .ok (.ifCond .eq 44, 3) := by decide +kernel
theorem dX7_gap_18 : decode cX7_gap 18 = .ok (.iload_n 2, 1) := by decide +kernel
theorem dX7_gap_19 : decode cX7_gap 19 = .ok (.iconst 0, 1) := by decide +kernel
theorem dX7_gap_20 : decode cX7_gap 20 = .ok (.bipush 15, 2) := by decide +kernel
theorem dX7_gap_22 : decode cX7_gap 22 = .ok (.invokestatic 97, 3) := by decide +kernel
theorem dX7_gap_25 : decode cX7_gap 25 = .ok (.ifCond .eq 34, 3) := by decide +kernel
theorem dX7_gap_28 : decode cX7_gap 28 = .ok (.iload_n 3, 1) := by decide +kernel
theorem dX7_gap_29 : decode cX7_gap 29 = .ok (.iconst 0, 1) := by decide +kernel
theorem dX7_gap_30 : decode cX7_gap 30 = .ok (.bipush 7, 2) := by decide +kernel
theorem dX7_gap_32 : decode cX7_gap 32 = .ok (.invokestatic 97, 3) := by decide +kernel
theorem dX7_gap_35 : decode cX7_gap 35 = .ok (.ifCond .eq 24, 3) := by decide +kernel
theorem dX7_gap_38 : decode cX7_gap 38 = .ok (.iload 4, 2) := by decide +kernel
theorem dX7_gap_40 : decode cX7_gap 40 = .ok (.iconst 0, 1) := by decide +kernel
theorem dX7_gap_41 : decode cX7_gap 41 = .ok (.iconst 3, 1) := by decide +kernel
theorem dX7_gap_42 : decode cX7_gap 42 = .ok (.invokestatic 97, 3) := by decide +kernel
theorem dX7_gap_45 : decode cX7_gap 45 = .ok (.ifCond .eq 14, 3) := by decide +kernel
theorem dX7_gap_48 : decode cX7_gap 48 = .ok (.iload 5, 2) := by decide +kernel
theorem dX7_gap_50 : decode cX7_gap 50 = .ok (.iconst 1, 1) := by decide +kernel
theorem dX7_gap_51 : decode cX7_gap 51 = .ok (.bipush 8, 2) := by decide +kernel
theorem dX7_gap_53 : decode cX7_gap 53 = .ok (.invokestatic 97, 3) := by decide +kernel
theorem dX7_gap_56 : decode cX7_gap 56 = .ok (.ifCond .ne 5, 3) := by decide +kernel
theorem dX7_gap_59 : decode cX7_gap 59 = .ok (.iconst (-1), 1) := by decide +kernel
theorem dX7_gap_60 : decode cX7_gap 60 = .ok (.ireturn, 1) := by decide +kernel
theorem dX7_gap_61 : decode cX7_gap 61 = .ok (.aload_n 0, 1) := by decide +kernel
theorem dX7_gap_62 : decode cX7_gap 62 = .ok (.getfield 54, 3) := by decide +kernel
theorem dX7_gap_65 : decode cX7_gap 65 = .ok (.aload_n 0, 1) := by decide +kernel
theorem dX7_gap_66 : decode cX7_gap 66 = .ok (.getfield 123, 3) := by decide +kernel
theorem dX7_gap_69 : decode cX7_gap 69 = .ok (.iload_n 1, 1) := by decide +kernel
theorem dX7_gap_70 : decode cX7_gap 70 = .ok (.iastore, 1) := by decide +kernel
theorem dX7_gap_71 : decode cX7_gap 71 = .ok (.aload_n 0, 1) := by decide +kernel
theorem dX7_gap_72 : decode cX7_gap 72 = .ok (.getfield 57, 3) := by decide +kernel
theorem dX7_gap_75 : decode cX7_gap 75 = .ok (.aload_n 0, 1) := by decide +kernel
theorem dX7_gap_76 : decode cX7_gap 76 = .ok (.getfield 123, 3) := by decide +kernel
theorem dX7_gap_79 : decode cX7_gap 79 = .ok (.iload_n 2, 1) := by decide +kernel
theorem dX7_gap_80 : decode cX7_gap 80 = .ok (.iastore, 1) := by decide +kernel
theorem dX7_gap_81 : decode cX7_gap 81 = .ok (.aload_n 0, 1) := by decide +kernel
theorem dX7_gap_82 : decode cX7_gap 82 = .ok (.getfield 60, 3) := by decide +kernel
theorem dX7_gap_85 : decode cX7_gap 85 = .ok (.aload_n 0, 1) := by decide +kernel
theorem dX7_gap_86 : decode cX7_gap 86 = .ok (.getfield 123, 3) := by decide +kernel
theorem dX7_gap_89 : decode cX7_gap 89 = .ok (.iload_n 3, 1) := by decide +kernel
theorem dX7_gap_90 : decode cX7_gap 90 = .ok (.iastore, 1) := by decide +kernel
theorem dX7_gap_91 : decode cX7_gap 91 = .ok (.aload_n 0, 1) := by decide +kernel
theorem dX7_gap_92 : decode cX7_gap 92 = .ok (.getfield 63, 3) := by decide +kernel
theorem dX7_gap_95 : decode cX7_gap 95 = .ok (.aload_n 0, 1) := by decide +kernel
theorem dX7_gap_96 : decode cX7_gap 96 = .ok (.getfield 123, 3) := by decide +kernel
theorem dX7_gap_99 : decode cX7_gap 99 = .ok (.iload 4, 2) := by decide +kernel
theorem dX7_gap_101 : decode cX7_gap 101 = .ok (.iastore, 1) := by decide +kernel
theorem dX7_gap_102 : decode cX7_gap 102 = .ok (.aload_n 0, 1) := by decide +kernel
theorem dX7_gap_103 : decode cX7_gap 103 = .ok (.getfield 66, 3) := by decide +kernel
theorem dX7_gap_106 : decode cX7_gap 106 = .ok (.aload_n 0, 1) := by decide +kernel
theorem dX7_gap_107 : decode cX7_gap 107 = .ok (.getfield 123, 3) := by decide +kernel
theorem dX7_gap_110 : decode cX7_gap 110 = .ok (.iload 5, 2) := by decide +kernel
theorem dX7_gap_112 : decode cX7_gap 112 = .ok (.iastore, 1) := by decide +kernel
theorem dX7_gap_113 : decode cX7_gap 113 = .ok (.aload_n 0, 1) := by decide +kernel
theorem dX7_gap_114 : decode cX7_gap 114 = .ok (.dup, 1) := by decide +kernel
theorem dX7_gap_115 : decode cX7_gap 115 = .ok (.getfield 123, 3) := by decide +kernel
theorem dX7_gap_118 : decode cX7_gap 118 = .ok (.iconst 1, 1) := by decide +kernel
theorem dX7_gap_119 : decode cX7_gap 119 = .ok (.iadd, 1) := by decide +kernel
theorem dX7_gap_120 : decode cX7_gap 120 = .ok (.putfield 123, 3) := by decide +kernel
theorem dX7_gap_123 : decode cX7_gap 123 = .ok (.aload_n 0, 1) := by decide +kernel
theorem dX7_gap_124 : decode cX7_gap 124 = .ok (.iconst 0, 1) := by decide +kernel
theorem dX7_gap_125 : decode cX7_gap 125 = .ok (.putfield 116, 3) := by decide +kernel
theorem dX7_gap_128 : decode cX7_gap 128 = .ok (.aload_n 0, 1) := by decide +kernel
theorem dX7_gap_129 : decode cX7_gap 129 = .ok (.getfield 123, 3) := by decide +kernel
theorem dX7_gap_132 : decode cX7_gap 132 = .ok (.iconst 1, 1) := by decide +kernel
theorem dX7_gap_133 : decode cX7_gap 133 = .ok (.isub, 1) := by decide +kernel
theorem dX7_gap_134 : decode cX7_gap 134 = .ok (.ireturn, 1) := by decide +kernel
theorem dX7_canFill_0 : decode cX7_canFill 0 = .ok (.aload_n 0, 1) := by decide +kernel
theorem dX7_canFill_1 : decode cX7_canFill 1 = .ok (.getfield 23, 3) := by decide +kernel
theorem dX7_canFill_4 : decode cX7_canFill 4 = .ok (.iload_n 1, 1) := by decide +kernel
theorem dX7_canFill_5 : decode cX7_canFill 5 = .ok (.iaload, 1) := by decide +kernel
theorem dX7_canFill_6 : decode cX7_canFill 6 = .ok (.aload_n 0, 1) := by decide +kernel
theorem dX7_canFill_7 : decode cX7_canFill 7 = .ok (.getfield 63, 3) := by decide +kernel
theorem dX7_canFill_10 : decode cX7_canFill 10 = .ok (.iload_n 2, 1) := by decide +kernel
theorem dX7_canFill_11 : decode cX7_canFill 11 = .ok (.iaload, 1) := by decide +kernel
theorem dX7_canFill_12 : decode cX7_canFill 12 = .ok (.invokestatic 130, 3) := by decide +kernel
theorem dX7_canFill_15 : decode cX7_canFill 15 = .ok (.ifCond .eq 63, 3) := by decide +kernel
theorem dX7_canFill_18 : decode cX7_canFill 18 = .ok (.aload_n 0, 1) := by decide +kernel
theorem dX7_canFill_19 : decode cX7_canFill 19 = .ok (.getfield 35, 3) := by decide +kernel
theorem dX7_canFill_22 : decode cX7_canFill 22 = .ok (.iload_n 1, 1) := by decide +kernel
theorem dX7_canFill_23 : decode cX7_canFill 23 = .ok (.iaload, 1) := by decide +kernel
theorem dX7_canFill_24 : decode cX7_canFill 24 = .ok (.aload_n 0, 1) := by decide +kernel
theorem dX7_canFill_25 : decode cX7_canFill 25 = .ok (.getfield 54, 3) := by decide +kernel
theorem dX7_canFill_28 : decode cX7_canFill 28 = .ok (.iload_n 2, 1) := by decide +kernel
theorem dX7_canFill_29 : decode cX7_canFill 29 = .ok (.iaload, 1) := by decide +kernel
theorem dX7_canFill_30 : decode cX7_canFill 30 = .ok (.invokestatic 130, 3) := by decide +kernel
theorem dX7_canFill_33 : decode cX7_canFill 33 = .ok (.ifCond .ne 45, 3) := by decide +kernel
theorem dX7_canFill_36 : decode cX7_canFill 36 = .ok (.aload_n 0, 1) := by decide +kernel
theorem dX7_canFill_37 : decode cX7_canFill 37 = .ok (.getfield 29, 3) := by decide +kernel
theorem dX7_canFill_40 : decode cX7_canFill 40 = .ok (.bipush 6, 2) := by decide +kernel
theorem dX7_canFill_42 : decode cX7_canFill 42 = .ok (.iload_n 1, 1) := by decide +kernel
theorem dX7_canFill_43 : decode cX7_canFill 43 = .ok (.imul, 1) := by decide +kernel
theorem dX7_canFill_44 : decode cX7_canFill 44 = .ok (.aload_n 0, 1) := by decide +kernel
theorem dX7_canFill_45 : decode cX7_canFill 45 = .ok (.getfield 54, 3) := by decide +kernel
theorem dX7_canFill_48 : decode cX7_canFill 48 = .ok (.iload_n 2, 1) := by decide +kernel
theorem dX7_canFill_49 : decode cX7_canFill 49 = .ok (.iaload, 1) := by decide +kernel
theorem dX7_canFill_50 : decode cX7_canFill 50 = .ok (.iadd, 1) := by decide +kernel
theorem dX7_canFill_51 : decode cX7_canFill 51 = .ok (.iaload, 1) := by decide +kernel
theorem dX7_canFill_52 : decode cX7_canFill 52 = .ok (.aload_n 0, 1) := by decide +kernel
theorem dX7_canFill_53 : decode cX7_canFill 53 = .ok (.getfield 13, 3) := by decide +kernel
theorem dX7_canFill_56 : decode cX7_canFill 56 = .ok (.iconst 0, 1) := by decide +kernel
theorem dX7_canFill_57 : decode cX7_canFill 57 = .ok (.iaload, 1) := by decide +kernel
theorem dX7_canFill_58 : decode cX7_canFill 58 = .ok (.if_icmp .gt 20, 3) := by decide +kernel
theorem dX7_canFill_61 : decode cX7_canFill 61 = .ok (.aload_n 0, 1) := by decide +kernel
theorem dX7_canFill_62 : decode cX7_canFill 62 = .ok (.getfield 26, 3) := by decide +kernel
theorem dX7_canFill_65 : decode cX7_canFill 65 = .ok (.iload_n 1, 1) := by decide +kernel
theorem dX7_canFill_66 : decode cX7_canFill 66 = .ok (.iaload, 1) := by decide +kernel
theorem dX7_canFill_67 : decode cX7_canFill 67 = .ok (.aload_n 0, 1) := by decide +kernel
theorem dX7_canFill_68 : decode cX7_canFill 68 = .ok (.getfield 133, 3) := by decide +kernel
theorem dX7_canFill_71 : decode cX7_canFill 71 = .ok (.if_icmp .lt 7, 3) := by decide +kernel
theorem dX7_canFill_74 : decode cX7_canFill 74 = .ok (.iconst 1, 1) := by decide +kernel
theorem dX7_canFill_75 : decode cX7_canFill 75 = .ok (.goto 4, 3) := by decide +kernel
theorem dX7_canFill_78 : decode cX7_canFill 78 = .ok (.iconst 0, 1) := by decide +kernel
theorem dX7_canFill_79 : decode cX7_canFill 79 = .ok (.ireturn, 1) := by decide +kernel
theorem dX7_costOf_0 : decode cX7_costOf 0 = .ok (.aload_n 0, 1) := by decide +kernel
theorem dX7_costOf_1 : decode cX7_costOf 1 = .ok (.getfield 29, 3) := by decide +kernel
theorem dX7_costOf_4 : decode cX7_costOf 4 = .ok (.bipush 6, 2) := by decide +kernel
theorem dX7_costOf_6 : decode cX7_costOf 6 = .ok (.iload_n 1, 1) := by decide +kernel
theorem dX7_costOf_7 : decode cX7_costOf 7 = .ok (.imul, 1) := by decide +kernel
theorem dX7_costOf_8 : decode cX7_costOf 8 = .ok (.aload_n 0, 1) := by decide +kernel
theorem dX7_costOf_9 : decode cX7_costOf 9 = .ok (.getfield 54, 3) := by decide +kernel
theorem dX7_costOf_12 : decode cX7_costOf 12 = .ok (.iload_n 2, 1) := by decide +kernel
theorem dX7_costOf_13 : decode cX7_costOf 13 = .ok (.iaload, 1) := by decide +kernel
theorem dX7_costOf_14 : decode cX7_costOf 14 = .ok (.iadd, 1) := by decide +kernel
theorem dX7_costOf_15 : decode cX7_costOf 15 = .ok (.iaload, 1) := by decide +kernel
theorem dX7_costOf_16 : decode cX7_costOf 16 = .ok (.aload_n 0, 1) := by decide +kernel
theorem dX7_costOf_17 : decode cX7_costOf 17 = .ok (.getfield 20, 3) := by decide +kernel
theorem dX7_costOf_20 : decode cX7_costOf 20 = .ok (.iload_n 1, 1) := by decide +kernel
theorem dX7_costOf_21 : decode cX7_costOf 21 = .ok (.iaload, 1) := by decide +kernel
theorem dX7_costOf_22 : decode cX7_costOf 22 = .ok (.aload_n 0, 1) := by decide +kernel
theorem dX7_costOf_23 : decode cX7_costOf 23 = .ok (.getfield 60, 3) := by decide +kernel
theorem dX7_costOf_26 : decode cX7_costOf 26 = .ok (.iload_n 2, 1) := by decide +kernel
theorem dX7_costOf_27 : decode cX7_costOf 27 = .ok (.iaload, 1) := by decide +kernel
theorem dX7_costOf_28 : decode cX7_costOf 28 = .ok (.invokestatic 130, 3) := by decide +kernel
theorem dX7_costOf_31 : decode cX7_costOf 31 = .ok (.ifCond .eq 7, 3) := by decide +kernel
theorem dX7_costOf_34 : decode cX7_costOf 34 = .ok (.iconst 0, 1) := by decide +kernel
theorem dX7_costOf_35 : decode cX7_costOf 35 = .ok (.goto 9, 3) := by decide +kernel
theorem dX7_costOf_38 : decode cX7_costOf 38 = .ok (.aload_n 0, 1) := by decide +kernel
theorem dX7_costOf_39 : decode cX7_costOf 39 = .ok (.getfield 13, 3) := by decide +kernel
theorem dX7_costOf_42 : decode cX7_costOf 42 = .ok (.iconst 1, 1) := by decide +kernel
theorem dX7_costOf_43 : decode cX7_costOf 43 = .ok (.iaload, 1) := by decide +kernel
theorem dX7_costOf_44 : decode cX7_costOf 44 = .ok (.iadd, 1) := by decide +kernel
theorem dX7_costOf_45 : decode cX7_costOf 45 = .ok (.aload_n 0, 1) := by decide +kernel
theorem dX7_costOf_46 : decode cX7_costOf 46 = .ok (.getfield 13, 3) := by decide +kernel
theorem dX7_costOf_49 : decode cX7_costOf 49 = .ok (.iconst 2, 1) := by decide +kernel
theorem dX7_costOf_50 : decode cX7_costOf 50 = .ok (.iaload, 1) := by decide +kernel
theorem dX7_costOf_51 : decode cX7_costOf 51 = .ok (.aload_n 0, 1) := by decide +kernel
theorem dX7_costOf_52 : decode cX7_costOf 52 = .ok (.getfield 47, 3) := by decide +kernel
theorem dX7_costOf_55 : decode cX7_costOf 55 = .ok (.iload_n 1, 1) := by decide +kernel
theorem dX7_costOf_56 : decode cX7_costOf 56 = .ok (.iaload, 1) := by decide +kernel
theorem dX7_costOf_57 : decode cX7_costOf 57 = .ok (.imul, 1) := by decide +kernel
theorem dX7_costOf_58 : decode cX7_costOf 58 = .ok (.iadd, 1) := by decide +kernel
theorem dX7_costOf_59 : decode cX7_costOf 59 = .ok (.aload_n 0, 1) := by decide +kernel
theorem dX7_costOf_60 : decode cX7_costOf 60 = .ok (.getfield 32, 3) := by decide +kernel
theorem dX7_costOf_63 : decode cX7_costOf 63 = .ok (.iload_n 1, 1) := by decide +kernel
theorem dX7_costOf_64 : decode cX7_costOf 64 = .ok (.iaload, 1) := by decide +kernel
theorem dX7_costOf_65 : decode cX7_costOf 65 = .ok (.aload_n 0, 1) := by decide +kernel
theorem dX7_costOf_66 : decode cX7_costOf 66 = .ok (.getfield 54, 3) := by decide +kernel
theorem dX7_costOf_69 : decode cX7_costOf 69 = .ok (.iload_n 2, 1) := by decide +kernel
theorem dX7_costOf_70 : decode cX7_costOf 70 = .ok (.iaload, 1) := by decide +kernel
theorem dX7_costOf_71 : decode cX7_costOf 71 = .ok (.invokestatic 130, 3) := by decide +kernel
theorem dX7_costOf_74 : decode cX7_costOf 74 = .ok (.ifCond .eq 12, 3) := by decide +kernel
theorem dX7_costOf_77 : decode cX7_costOf 77 = .ok (.aload_n 0, 1) := by decide +kernel
theorem dX7_costOf_78 : decode cX7_costOf 78 = .ok (.getfield 13, 3) := by decide +kernel
theorem dX7_costOf_81 : decode cX7_costOf 81 = .ok (.iconst 3, 1) := by decide +kernel
theorem dX7_costOf_82 : decode cX7_costOf 82 = .ok (.iaload, 1) := by decide +kernel
theorem dX7_costOf_83 : decode cX7_costOf 83 = .ok (.goto 4, 3) := by decide +kernel
theorem dX7_costOf_86 : decode cX7_costOf 86 = .ok (.iconst 0, 1) := by decide +kernel
theorem dX7_costOf_87 : decode cX7_costOf 87 = .ok (.isub, 1) := by decide +kernel
theorem dX7_costOf_88 : decode cX7_costOf 88 = .ok (.istore_n 3, 1) := by decide +kernel
theorem dX7_costOf_89 : decode cX7_costOf 89 = .ok (.iload_n 3, 1) := by decide +kernel
theorem dX7_costOf_90 : decode cX7_costOf 90 = .ok (.ifCond .ge 7, 3) := by decide +kernel
theorem dX7_costOf_93 : decode cX7_costOf 93 = .ok (.iconst 0, 1) := by decide +kernel
theorem dX7_costOf_94 : decode cX7_costOf 94 = .ok (.goto 4, 3) := by decide +kernel
theorem dX7_costOf_97 : decode cX7_costOf 97 = .ok (.iload_n 3, 1) := by decide +kernel
theorem dX7_costOf_98 : decode cX7_costOf 98 = .ok (.ireturn, 1) := by decide +kernel
theorem dX7_can_0 : decode cX7_can 0 = .ok (.aload_n 0, 1) := by decide +kernel
theorem dX7_can_1 : decode cX7_can 1 = .ok (.iload_n 1, 1) := by decide +kernel
theorem dX7_can_2 : decode cX7_can 2 = .ok (.invokevirtual 126, 3) := by decide +kernel
theorem dX7_can_5 : decode cX7_can 5 = .ok (.ifCond .eq 11, 3) := by decide +kernel
theorem dX7_can_8 : decode cX7_can 8 = .ok (.aload_n 0, 1) := by decide +kernel
theorem dX7_can_9 : decode cX7_can 9 = .ok (.iload_n 2, 1) := by decide +kernel
theorem dX7_can_10 : decode cX7_can 10 = .ok (.invokevirtual 136, 3) := by decide +kernel
theorem dX7_can_13 : decode cX7_can 13 = .ok (.ifCond .ne 7, 3) := by decide +kernel
theorem dX7_can_16 : decode cX7_can 16 = .ok (.iconst (-1), 1) := by decide +kernel
theorem dX7_can_17 : decode cX7_can 17 = .ok (.goto 17, 3) := by decide +kernel
theorem dX7_can_20 : decode cX7_can 20 = .ok (.aload_n 0, 1) := by decide +kernel
theorem dX7_can_21 : decode cX7_can 21 = .ok (.iload_n 1, 1) := by decide +kernel
theorem dX7_can_22 : decode cX7_can 22 = .ok (.iload_n 2, 1) := by decide +kernel
theorem dX7_can_23 : decode cX7_can 23 = .ok (.invokevirtual 139, 3) := by decide +kernel
theorem dX7_can_26 : decode cX7_can 26 = .ok (.ifCond .eq 7, 3) := by decide +kernel
theorem dX7_can_29 : decode cX7_can 29 = .ok (.iconst 1, 1) := by decide +kernel
theorem dX7_can_30 : decode cX7_can 30 = .ok (.goto 4, 3) := by decide +kernel
theorem dX7_can_33 : decode cX7_can 33 = .ok (.iconst 0, 1) := by decide +kernel
theorem dX7_can_34 : decode cX7_can 34 = .ok (.ireturn, 1) := by decide +kernel
theorem dX7_cost_0 : decode cX7_cost 0 = .ok (.aload_n 0, 1) := by decide +kernel
theorem dX7_cost_1 : decode cX7_cost 1 = .ok (.iload_n 1, 1) := by decide +kernel
theorem dX7_cost_2 : decode cX7_cost 2 = .ok (.invokevirtual 126, 3) := by decide +kernel
theorem dX7_cost_5 : decode cX7_cost 5 = .ok (.ifCond .eq 29, 3) := by decide +kernel
theorem dX7_cost_8 : decode cX7_cost 8 = .ok (.aload_n 0, 1) := by decide +kernel
theorem dX7_cost_9 : decode cX7_cost 9 = .ok (.iload_n 2, 1) := by decide +kernel
theorem dX7_cost_10 : decode cX7_cost 10 = .ok (.invokevirtual 136, 3) := by decide +kernel
theorem dX7_cost_13 : decode cX7_cost 13 = .ok (.ifCond .eq 21, 3) := by decide +kernel
theorem dX7_cost_16 : decode cX7_cost 16 = .ok (.aload_n 0, 1) := by decide +kernel
theorem dX7_cost_17 : decode cX7_cost 17 = .ok (.iload_n 1, 1) := by decide +kernel
theorem dX7_cost_18 : decode cX7_cost 18 = .ok (.iload_n 2, 1) := by decide +kernel
theorem dX7_cost_19 : decode cX7_cost 19 = .ok (.invokevirtual 139, 3) := by decide +kernel
theorem dX7_cost_22 : decode cX7_cost 22 = .ok (.ifCond .eq 12, 3) := by decide +kernel
theorem dX7_cost_25 : decode cX7_cost 25 = .ok (.aload_n 0, 1) := by decide +kernel
theorem dX7_cost_26 : decode cX7_cost 26 = .ok (.iload_n 1, 1) := by decide +kernel
theorem dX7_cost_27 : decode cX7_cost 27 = .ok (.iload_n 2, 1) := by decide +kernel
theorem dX7_cost_28 : decode cX7_cost 28 = .ok (.invokevirtual 142, 3) := by decide +kernel
theorem dX7_cost_31 : decode cX7_cost 31 = .ok (.goto 4, 3) := by decide +kernel
theorem dX7_cost_34 : decode cX7_cost 34 = .ok (.iconst (-1), 1) := by decide +kernel
theorem dX7_cost_35 : decode cX7_cost 35 = .ok (.ireturn, 1) := by decide +kernel
theorem dX7_senderOf_0 : decode cX7_senderOf 0 = .ok (.iconst 0, 1) := by decide +kernel
theorem dX7_senderOf_1 : decode cX7_senderOf 1 = .ok (.istore_n 2, 1) := by decide +kernel
theorem dX7_senderOf_2 : decode cX7_senderOf 2 = .ok (.iload_n 2, 1) := by decide +kernel
theorem dX7_senderOf_3 : decode cX7_senderOf 3 = .ok (.aload_n 0, 1) := by decide +kernel
theorem dX7_senderOf_4 : decode cX7_senderOf 4 = .ok (.getfield 120, 3) := by decide +kernel
theorem dX7_senderOf_7 : decode cX7_senderOf 7 = .ok (.if_icmp .ge 31, 3) := by decide +kernel
theorem dX7_senderOf_10 : decode cX7_senderOf 10 = .ok (.aload_n 0, 1) := by decide +kernel
theorem dX7_senderOf_11 : decode cX7_senderOf 11 = .ok (.getfield 38, 3) := by decide +kernel
theorem dX7_senderOf_14 : decode cX7_senderOf 14 = .ok (.iload_n 2, 1) := by decide +kernel
theorem dX7_senderOf_15 : decode cX7_senderOf 15 = .ok (.iaload, 1) := by decide +kernel
theorem dX7_senderOf_16 : decode cX7_senderOf 16 = .ok (.iconst 1, 1) := by decide +kernel
theorem dX7_senderOf_17 : decode cX7_senderOf 17 = .ok (.if_icmp .ne 15, 3) := by decide +kernel
theorem dX7_senderOf_20 : decode cX7_senderOf 20 = .ok (.aload_n 0, 1) := by decide +kernel
theorem dX7_senderOf_21 : decode cX7_senderOf 21 = .ok (.getfield 41, 3) := by decide +kernel
theorem dX7_senderOf_24 : decode cX7_senderOf 24 = .ok (.iload_n 2, 1) := by decide +kernel
theorem dX7_senderOf_25 : decode cX7_senderOf 25 = .ok (.iaload, 1) := by decide +kernel
theorem dX7_senderOf_26 : decode cX7_senderOf 26 = .ok (.iload_n 1, 1) := by decide +kernel
theorem dX7_senderOf_27 : decode cX7_senderOf 27 = .ok (.if_icmp .ne 5, 3) := by decide +kernel
theorem dX7_senderOf_30 : decode cX7_senderOf 30 = .ok (.iload_n 2, 1) := by decide +kernel
theorem dX7_senderOf_31 : decode cX7_senderOf 31 = .ok (.ireturn, 1) := by decide +kernel
theorem dX7_senderOf_32 : decode cX7_senderOf 32 = .ok (.iinc 2 1, 3) := by decide +kernel
theorem dX7_senderOf_35 : decode cX7_senderOf 35 = .ok (.goto (-33), 3) := by decide +kernel
theorem dX7_senderOf_38 : decode cX7_senderOf 38 = .ok (.iconst (-1), 1) := by decide +kernel
theorem dX7_senderOf_39 : decode cX7_senderOf 39 = .ok (.ireturn, 1) := by decide +kernel
theorem dX7_goes_0 : decode cX7_goes 0 = .ok (.aload_n 0, 1) := by decide +kernel
theorem dX7_goes_1 : decode cX7_goes 1 = .ok (.getfield 38, 3) := by decide +kernel
theorem dX7_goes_4 : decode cX7_goes 4 = .ok (.iload_n 1, 1) := by decide +kernel
theorem dX7_goes_5 : decode cX7_goes 5 = .ok (.iaload, 1) := by decide +kernel
theorem dX7_goes_6 : decode cX7_goes 6 = .ok (.ifCond .ne 16, 3) := by decide +kernel
theorem dX7_goes_9 : decode cX7_goes 9 = .ok (.aload_n 0, 1) := by decide +kernel
theorem dX7_goes_10 : decode cX7_goes 10 = .ok (.iload_n 1, 1) := by decide +kernel
theorem dX7_goes_11 : decode cX7_goes 11 = .ok (.iload_n 2, 1) := by decide +kernel
theorem dX7_goes_12 : decode cX7_goes 12 = .ok (.invokevirtual 139, 3) := by decide +kernel
theorem dX7_goes_15 : decode cX7_goes 15 = .ok (.ifCond .eq 7, 3) := by decide +kernel
theorem dX7_goes_18 : decode cX7_goes 18 = .ok (.iconst 1, 1) := by decide +kernel
theorem dX7_goes_19 : decode cX7_goes 19 = .ok (.goto 4, 3) := by decide +kernel
theorem dX7_goes_22 : decode cX7_goes 22 = .ok (.iconst 0, 1) := by decide +kernel
theorem dX7_goes_23 : decode cX7_goes 23 = .ok (.ireturn, 1) := by decide +kernel
theorem dX7_worth_0 : decode cX7_worth 0 = .ok (.ldc 145, 2) := by decide +kernel
theorem dX7_worth_2 : decode cX7_worth 2 = .ok (.aload_n 0, 1) := by decide +kernel
theorem dX7_worth_3 : decode cX7_worth 3 = .ok (.iload_n 1, 1) := by decide +kernel
theorem dX7_worth_4 : decode cX7_worth 4 = .ok (.iload_n 2, 1) := by decide +kernel
theorem dX7_worth_5 : decode cX7_worth 5 = .ok (.invokevirtual 142, 3) := by decide +kernel
theorem dX7_worth_8 : decode cX7_worth 8 = .ok (.isub, 1) := by decide +kernel
theorem dX7_worth_9 : decode cX7_worth 9 = .ok (.aload_n 0, 1) := by decide +kernel
theorem dX7_worth_10 : decode cX7_worth 10 = .ok (.getfield 79, 3) := by decide +kernel
theorem dX7_worth_13 : decode cX7_worth 13 = .ok (.sipush 4096, 3) := by decide +kernel
theorem dX7_worth_16 : decode cX7_worth 16 = .ok (.iload_n 2, 1) := by decide +kernel
theorem dX7_worth_17 : decode cX7_worth 17 = .ok (.iconst 1, 1) := by decide +kernel
theorem dX7_worth_18 : decode cX7_worth 18 = .ok (.iadd, 1) := by decide +kernel
theorem dX7_worth_19 : decode cX7_worth 19 = .ok (.imul, 1) := by decide +kernel
theorem dX7_worth_20 : decode cX7_worth 20 = .ok (.iload_n 3, 1) := by decide +kernel
theorem dX7_worth_21 : decode cX7_worth 21 = .ok (.iconst 1, 1) := by decide +kernel
theorem dX7_worth_22 : decode cX7_worth 22 = .ok (.iload_n 1, 1) := by decide +kernel
theorem dX7_worth_23 : decode cX7_worth 23 = .ok (.ishl, 1) := by decide +kernel
theorem dX7_worth_24 : decode cX7_worth 24 = .ok (.ior, 1) := by decide +kernel
theorem dX7_worth_25 : decode cX7_worth 25 = .ok (.iadd, 1) := by decide +kernel
theorem dX7_worth_26 : decode cX7_worth 26 = .ok (.iaload, 1) := by decide +kernel
theorem dX7_worth_27 : decode cX7_worth 27 = .ok (.iadd, 1) := by decide +kernel
theorem dX7_worth_28 : decode cX7_worth 28 = .ok (.ireturn, 1) := by decide +kernel
theorem dX7_works_0 : decode cX7_works 0 = .ok (.aload_n 0, 1) := by decide +kernel
theorem dX7_works_1 : decode cX7_works 1 = .ok (.getfield 116, 3) := by decide +kernel
theorem dX7_works_4 : decode cX7_works 4 = .ok (.ifCond .eq 4, 3) := by decide +kernel
theorem dX7_works_7 : decode cX7_works 7 = .ok (.return_, 1) := by decide +kernel
theorem dX7_works_8 : decode cX7_works 8 = .ok (.aload_n 0, 1) := by decide +kernel
theorem dX7_works_9 : decode cX7_works 9 = .ok (.iconst 1, 1) := by decide +kernel
theorem dX7_works_10 : decode cX7_works 10 = .ok (.putfield 116, 3) := by decide +kernel
theorem dX7_works_13 : decode cX7_works 13 = .ok (.iconst 0, 1) := by decide +kernel
theorem dX7_works_14 : decode cX7_works 14 = .ok (.istore_n 1, 1) := by decide +kernel
theorem dX7_works_15 : decode cX7_works 15 = .ok (.iload_n 1, 1) := by decide +kernel
theorem dX7_works_16 : decode cX7_works 16 = .ok (.iconst 1, 1) := by decide +kernel
theorem dX7_works_17 : decode cX7_works 17 = .ok (.aload_n 0, 1) := by decide +kernel
theorem dX7_works_18 : decode cX7_works 18 = .ok (.getfield 120, 3) := by decide +kernel
theorem dX7_works_21 : decode cX7_works 21 = .ok (.ishl, 1) := by decide +kernel
theorem dX7_works_22 : decode cX7_works 22 = .ok (.if_icmp .ge 25, 3) := by decide +kernel
theorem dX7_works_25 : decode cX7_works 25 = .ok (.aload_n 0, 1) := by decide +kernel
theorem dX7_works_26 : decode cX7_works 26 = .ok (.getfield 79, 3) := by decide +kernel
theorem dX7_works_29 : decode cX7_works 29 = .ok (.sipush 4096, 3) := by decide +kernel
theorem dX7_works_32 : decode cX7_works 32 = .ok (.aload_n 0, 1) := by decide +kernel
theorem dX7_works_33 : decode cX7_works 33 = .ok (.getfield 123, 3) := by decide +kernel
theorem dX7_works_36 : decode cX7_works 36 = .ok (.imul, 1) := by decide +kernel
theorem dX7_works_37 : decode cX7_works 37 = .ok (.iload_n 1, 1) := by decide +kernel
theorem dX7_works_38 : decode cX7_works 38 = .ok (.iadd, 1) := by decide +kernel
theorem dX7_works_39 : decode cX7_works 39 = .ok (.iconst 0, 1) := by decide +kernel
theorem dX7_works_40 : decode cX7_works 40 = .ok (.iastore, 1) := by decide +kernel
theorem dX7_works_41 : decode cX7_works 41 = .ok (.iinc 1 1, 3) := by decide +kernel
theorem dX7_works_44 : decode cX7_works 44 = .ok (.goto (-29), 3) := by decide +kernel
theorem dX7_works_47 : decode cX7_works 47 = .ok (.aload_n 0, 1) := by decide +kernel
theorem dX7_works_48 : decode cX7_works 48 = .ok (.getfield 123, 3) := by decide +kernel
theorem dX7_works_51 : decode cX7_works 51 = .ok (.iconst 1, 1) := by decide +kernel
theorem dX7_works_52 : decode cX7_works 52 = .ok (.isub, 1) := by decide +kernel
theorem dX7_works_53 : decode cX7_works 53 = .ok (.istore_n 1, 1) := by decide +kernel
theorem dX7_works_54 : decode cX7_works 54 = .ok (.iload_n 1, 1) := by decide +kernel
theorem dX7_works_55 : decode cX7_works 55 = .ok (.ifCond .lt 142, 3) := by decide +kernel
theorem dX7_works_58 : decode cX7_works 58 = .ok (.aload_n 0, 1) := by decide +kernel
theorem dX7_works_59 : decode cX7_works 59 = .ok (.iload_n 1, 1) := by decide +kernel
theorem dX7_works_60 : decode cX7_works 60 = .ok (.invokevirtual 146, 3) := by decide +kernel
theorem dX7_works_63 : decode cX7_works 63 = .ok (.iconst (-1), 1) := by decide +kernel
theorem dX7_works_64 : decode cX7_works 64 = .ok (.if_icmp .ne 7, 3) := by decide +kernel
theorem dX7_works_67 : decode cX7_works 67 = .ok (.iconst 1, 1) := by decide +kernel
theorem dX7_works_68 : decode cX7_works 68 = .ok (.goto 4, 3) := by decide +kernel
theorem dX7_works_71 : decode cX7_works 71 = .ok (.iconst 0, 1) := by decide +kernel
theorem dX7_works_72 : decode cX7_works 72 = .ok (.istore_n 2, 1) := by decide +kernel
theorem dX7_works_73 : decode cX7_works 73 = .ok (.iconst 0, 1) := by decide +kernel
theorem dX7_works_74 : decode cX7_works 74 = .ok (.istore_n 3, 1) := by decide +kernel
theorem dX7_works_75 : decode cX7_works 75 = .ok (.iload_n 3, 1) := by decide +kernel
theorem dX7_works_76 : decode cX7_works 76 = .ok (.iconst 1, 1) := by decide +kernel
theorem dX7_works_77 : decode cX7_works 77 = .ok (.aload_n 0, 1) := by decide +kernel
theorem dX7_works_78 : decode cX7_works 78 = .ok (.getfield 120, 3) := by decide +kernel
theorem dX7_works_81 : decode cX7_works 81 = .ok (.ishl, 1) := by decide +kernel
theorem dX7_works_82 : decode cX7_works 82 = .ok (.if_icmp .ge 109, 3) := by decide +kernel
theorem dX7_works_85 : decode cX7_works 85 = .ok (.aload_n 0, 1) := by decide +kernel
theorem dX7_works_86 : decode cX7_works 86 = .ok (.getfield 79, 3) := by decide +kernel
theorem dX7_works_89 : decode cX7_works 89 = .ok (.sipush 4096, 3) := by decide +kernel
theorem dX7_works_92 : decode cX7_works 92 = .ok (.iload_n 1, 1) := by decide +kernel
theorem dX7_works_93 : decode cX7_works 93 = .ok (.iconst 1, 1) := by decide +kernel
theorem dX7_works_94 : decode cX7_works 94 = .ok (.iadd, 1) := by decide +kernel
theorem dX7_works_95 : decode cX7_works 95 = .ok (.imul, 1) := by decide +kernel
theorem dX7_works_96 : decode cX7_works 96 = .ok (.iload_n 3, 1) := by decide +kernel
theorem dX7_works_97 : decode cX7_works 97 = .ok (.iadd, 1) := by decide +kernel
theorem dX7_works_98 : decode cX7_works 98 = .ok (.iaload, 1) := by decide +kernel
theorem dX7_works_99 : decode cX7_works 99 = .ok (.istore 4, 2) := by decide +kernel
theorem dX7_works_101 : decode cX7_works 101 = .ok (.iconst 0, 1) := by decide +kernel
theorem dX7_works_102 : decode cX7_works 102 = .ok (.istore 5, 2) := by decide +kernel
theorem dX7_works_104 : decode cX7_works 104 = .ok (.iload 5, 2) := by decide +kernel
theorem dX7_works_106 : decode cX7_works 106 = .ok (.aload_n 0, 1) := by decide +kernel
theorem dX7_works_107 : decode cX7_works 107 = .ok (.getfield 120, 3) := by decide +kernel
theorem dX7_works_110 : decode cX7_works 110 = .ok (.if_icmp .ge 61, 3) := by decide +kernel
theorem dX7_works_113 : decode cX7_works 113 = .ok (.iload_n 2, 1) := by decide +kernel
theorem dX7_works_114 : decode cX7_works 114 = .ok (.ifCond .eq 57, 3) := by decide +kernel
theorem dX7_works_117 : decode cX7_works 117 = .ok (.iload_n 3, 1) := by decide +kernel
theorem dX7_works_118 : decode cX7_works 118 = .ok (.iload 5, 2) := by decide +kernel
theorem dX7_works_120 : decode cX7_works 120 = .ok (.invokestatic 130, 3) := by decide +kernel
theorem dX7_works_123 : decode cX7_works 123 = .ok (.ifCond .ne 42, 3) := by decide +kernel
theorem dX7_works_126 : decode cX7_works 126 = .ok (.aload_n 0, 1) := by decide +kernel
theorem dX7_works_127 : decode cX7_works 127 = .ok (.iload 5, 2) := by decide +kernel
theorem dX7_works_129 : decode cX7_works 129 = .ok (.iload_n 1, 1) := by decide +kernel
theorem dX7_works_130 : decode cX7_works 130 = .ok (.invokevirtual 149, 3) := by decide +kernel
theorem dX7_works_133 : decode cX7_works 133 = .ok (.ifCond .ne 6, 3) := by decide +kernel
theorem dX7_works_136 : decode cX7_works 136 = .ok (.goto 29, 3) := by decide +kernel
theorem dX7_works_139 : decode cX7_works 139 = .ok (.aload_n 0, 1) := by decide +kernel
theorem dX7_works_140 : decode cX7_works 140 = .ok (.iload 5, 2) := by decide +kernel
theorem dX7_works_142 : decode cX7_works 142 = .ok (.iload_n 1, 1) := by decide +kernel
theorem dX7_works_143 : decode cX7_works 143 = .ok (.iload_n 3, 1) := by decide +kernel
theorem dX7_works_144 : decode cX7_works 144 = .ok (.invokevirtual 152, 3) := by decide +kernel
theorem dX7_works_147 : decode cX7_works 147 = .ok (.istore 6, 2) := by decide +kernel
theorem dX7_works_149 : decode cX7_works 149 = .ok (.iload 6, 2) := by decide +kernel
theorem dX7_works_151 : decode cX7_works 151 = .ok (.iload 4, 2) := by decide +kernel
theorem dX7_works_153 : decode cX7_works 153 = .ok (.if_icmp .le 8, 3) := by decide +kernel
theorem dX7_works_156 : decode cX7_works 156 = .ok (.iload 6, 2) := by decide +kernel
theorem dX7_works_158 : decode cX7_works 158 = .ok (.goto 5, 3) := by decide +kernel
theorem dX7_works_161 : decode cX7_works 161 = .ok (.iload 4, 2) := by decide +kernel
theorem dX7_works_163 : decode cX7_works 163 = .ok (.istore 4, 2) := by decide +kernel
theorem dX7_works_165 : decode cX7_works 165 = .ok (.iinc 5 1, 3) := by decide +kernel
theorem dX7_works_168 : decode cX7_works 168 = .ok (.goto (-64), 3) := by decide +kernel
theorem dX7_works_171 : decode cX7_works 171 = .ok (.aload_n 0, 1) := by decide +kernel
theorem dX7_works_172 : decode cX7_works 172 = .ok (.getfield 79, 3) := by decide +kernel
theorem dX7_works_175 : decode cX7_works 175 = .ok (.sipush 4096, 3) := by decide +kernel
theorem dX7_works_178 : decode cX7_works 178 = .ok (.iload_n 1, 1) := by decide +kernel
theorem dX7_works_179 : decode cX7_works 179 = .ok (.imul, 1) := by decide +kernel
theorem dX7_works_180 : decode cX7_works 180 = .ok (.iload_n 3, 1) := by decide +kernel
theorem dX7_works_181 : decode cX7_works 181 = .ok (.iadd, 1) := by decide +kernel
theorem dX7_works_182 : decode cX7_works 182 = .ok (.iload 4, 2) := by decide +kernel
theorem dX7_works_184 : decode cX7_works 184 = .ok (.iastore, 1) := by decide +kernel
theorem dX7_works_185 : decode cX7_works 185 = .ok (.iinc 3 1, 3) := by decide +kernel
theorem dX7_works_188 : decode cX7_works 188 = .ok (.goto (-113), 3) := by decide +kernel
theorem dX7_works_191 : decode cX7_works 191 = .ok (.iinc 1 (-1), 3) := by decide +kernel
theorem dX7_works_194 : decode cX7_works 194 = .ok (.goto (-140), 3) := by decide +kernel
theorem dX7_works_197 : decode cX7_works 197 = .ok (.aload_n 0, 1) := by decide +kernel
theorem dX7_works_198 : decode cX7_works 198 = .ok (.iconst 0, 1) := by decide +kernel
theorem dX7_works_199 : decode cX7_works 199 = .ok (.putfield 156, 3) := by decide +kernel
theorem dX7_works_202 : decode cX7_works 202 = .ok (.aload_n 0, 1) := by decide +kernel
theorem dX7_works_203 : decode cX7_works 203 = .ok (.iconst 0, 1) := by decide +kernel
theorem dX7_works_204 : decode cX7_works 204 = .ok (.putfield 159, 3) := by decide +kernel
theorem dX7_works_207 : decode cX7_works 207 = .ok (.iconst 0, 1) := by decide +kernel
theorem dX7_works_208 : decode cX7_works 208 = .ok (.istore_n 1, 1) := by decide +kernel
theorem dX7_works_209 : decode cX7_works 209 = .ok (.iconst 0, 1) := by decide +kernel
theorem dX7_works_210 : decode cX7_works 210 = .ok (.istore_n 2, 1) := by decide +kernel
theorem dX7_works_211 : decode cX7_works 211 = .ok (.iload_n 2, 1) := by decide +kernel
theorem dX7_works_212 : decode cX7_works 212 = .ok (.aload_n 0, 1) := by decide +kernel
theorem dX7_works_213 : decode cX7_works 213 = .ok (.getfield 123, 3) := by decide +kernel
theorem dX7_works_216 : decode cX7_works 216 = .ok (.if_icmp .ge 167, 3) := by decide +kernel
theorem dX7_works_219 : decode cX7_works 219 = .ok (.aload_n 0, 1) := by decide +kernel
theorem dX7_works_220 : decode cX7_works 220 = .ok (.getfield 82, 3) := by decide +kernel
theorem dX7_works_223 : decode cX7_works 223 = .ok (.iload_n 2, 1) := by decide +kernel
theorem dX7_works_224 : decode cX7_works 224 = .ok (.iconst (-1), 1) := by decide +kernel
theorem dX7_works_225 : decode cX7_works 225 = .ok (.iastore, 1) := by decide +kernel
theorem dX7_works_226 : decode cX7_works 226 = .ok (.aload_n 0, 1) := by decide +kernel
theorem dX7_works_227 : decode cX7_works 227 = .ok (.iload_n 2, 1) := by decide +kernel
theorem dX7_works_228 : decode cX7_works 228 = .ok (.invokevirtual 146, 3) := by decide +kernel
theorem dX7_works_231 : decode cX7_works 231 = .ok (.iconst (-1), 1) := by decide +kernel
theorem dX7_works_232 : decode cX7_works 232 = .ok (.if_icmp .ne 7, 3) := by decide +kernel
theorem dX7_works_235 : decode cX7_works 235 = .ok (.iconst 1, 1) := by decide +kernel
theorem dX7_works_236 : decode cX7_works 236 = .ok (.goto 4, 3) := by decide +kernel
theorem dX7_works_239 : decode cX7_works 239 = .ok (.iconst 0, 1) := by decide +kernel
theorem dX7_works_240 : decode cX7_works 240 = .ok (.istore_n 3, 1) := by decide +kernel
theorem dX7_works_241 : decode cX7_works 241 = .ok (.iconst 0, 1) := by decide +kernel
theorem dX7_works_242 : decode cX7_works 242 = .ok (.istore 4, 2) := by decide +kernel
theorem dX7_works_244 : decode cX7_works 244 = .ok (.iload 4, 2) := by decide +kernel
theorem dX7_works_246 : decode cX7_works 246 = .ok (.aload_n 0, 1) := by decide +kernel
theorem dX7_works_247 : decode cX7_works 247 = .ok (.getfield 120, 3) := by decide +kernel
theorem dX7_works_250 : decode cX7_works 250 = .ok (.if_icmp .ge 73, 3) := by decide +kernel
theorem dX7_works_253 : decode cX7_works 253 = .ok (.iload_n 3, 1) := by decide +kernel
theorem dX7_works_254 : decode cX7_works 254 = .ok (.ifCond .eq 69, 3) := by decide +kernel
theorem dX7_works_257 : decode cX7_works 257 = .ok (.aload_n 0, 1) := by decide +kernel
theorem dX7_works_258 : decode cX7_works 258 = .ok (.getfield 82, 3) := by decide +kernel
theorem dX7_works_261 : decode cX7_works 261 = .ok (.iload_n 2, 1) := by decide +kernel
theorem dX7_works_262 : decode cX7_works 262 = .ok (.iaload, 1) := by decide +kernel
theorem dX7_works_263 : decode cX7_works 263 = .ok (.iconst (-1), 1) := by decide +kernel
theorem dX7_works_264 : decode cX7_works 264 = .ok (.if_icmp .ne 59, 3) := by decide +kernel
theorem dX7_works_267 : decode cX7_works 267 = .ok (.iload_n 1, 1) := by decide +kernel
theorem dX7_works_268 : decode cX7_works 268 = .ok (.iload 4, 2) := by decide +kernel
theorem dX7_works_270 : decode cX7_works 270 = .ok (.invokestatic 130, 3) := by decide +kernel
theorem dX7_works_273 : decode cX7_works 273 = .ok (.ifCond .ne 44, 3) := by decide +kernel
theorem dX7_works_276 : decode cX7_works 276 = .ok (.aload_n 0, 1) := by decide +kernel
theorem dX7_works_277 : decode cX7_works 277 = .ok (.iload 4, 2) := by decide +kernel
theorem dX7_works_279 : decode cX7_works 279 = .ok (.iload_n 2, 1) := by decide +kernel
theorem dX7_works_280 : decode cX7_works 280 = .ok (.invokevirtual 149, 3) := by decide +kernel
theorem dX7_works_283 : decode cX7_works 283 = .ok (.ifCond .eq 34, 3) := by decide +kernel
theorem dX7_works_286 : decode cX7_works 286 = .ok (.aload_n 0, 1) := by decide +kernel
theorem dX7_works_287 : decode cX7_works 287 = .ok (.iload 4, 2) := by decide +kernel
theorem dX7_works_289 : decode cX7_works 289 = .ok (.iload_n 2, 1) := by decide +kernel
theorem dX7_works_290 : decode cX7_works 290 = .ok (.iload_n 1, 1) := by decide +kernel
theorem dX7_works_291 : decode cX7_works 291 = .ok (.invokevirtual 152, 3) := by decide +kernel
theorem dX7_works_294 : decode cX7_works 294 = .ok (.aload_n 0, 1) := by decide +kernel
theorem dX7_works_295 : decode cX7_works 295 = .ok (.getfield 79, 3) := by decide +kernel
theorem dX7_works_298 : decode cX7_works 298 = .ok (.sipush 4096, 3) := by decide +kernel
theorem dX7_works_301 : decode cX7_works 301 = .ok (.iload_n 2, 1) := by decide +kernel
theorem dX7_works_302 : decode cX7_works 302 = .ok (.imul, 1) := by decide +kernel
theorem dX7_works_303 : decode cX7_works 303 = .ok (.iload_n 1, 1) := by decide +kernel
theorem dX7_works_304 : decode cX7_works 304 = .ok (.iadd, 1) := by decide +kernel
theorem dX7_works_305 : decode cX7_works 305 = .ok (.iaload, 1) := by decide +kernel
theorem dX7_works_306 : decode cX7_works 306 = .ok (.if_icmp .ne 11, 3) := by decide +kernel
theorem dX7_works_309 : decode cX7_works 309 = .ok (.aload_n 0, 1) := by decide +kernel
theorem dX7_works_310 : decode cX7_works 310 = .ok (.getfield 82, 3) := by decide +kernel
theorem dX7_works_313 : decode cX7_works 313 = .ok (.iload_n 2, 1) := by decide +kernel
theorem dX7_works_314 : decode cX7_works 314 = .ok (.iload 4, 2) := by decide +kernel
theorem dX7_works_316 : decode cX7_works 316 = .ok (.iastore, 1) := by decide +kernel
theorem dX7_works_317 : decode cX7_works 317 = .ok (.iinc 4 1, 3) := by decide +kernel
theorem dX7_works_320 : decode cX7_works 320 = .ok (.goto (-76), 3) := by decide +kernel
theorem dX7_works_323 : decode cX7_works 323 = .ok (.aload_n 0, 1) := by decide +kernel
theorem dX7_works_324 : decode cX7_works 324 = .ok (.getfield 82, 3) := by decide +kernel
theorem dX7_works_327 : decode cX7_works 327 = .ok (.iload_n 2, 1) := by decide +kernel
theorem dX7_works_328 : decode cX7_works 328 = .ok (.iaload, 1) := by decide +kernel
theorem dX7_works_329 : decode cX7_works 329 = .ok (.iconst (-1), 1) := by decide +kernel
theorem dX7_works_330 : decode cX7_works 330 = .ok (.if_icmp .ne 6, 3) := by decide +kernel
theorem dX7_works_333 : decode cX7_works 333 = .ok (.goto 44, 3) := by decide +kernel
theorem dX7_works_336 : decode cX7_works 336 = .ok (.iload_n 1, 1) := by decide +kernel
theorem dX7_works_337 : decode cX7_works 337 = .ok (.iconst 1, 1) := by decide +kernel
theorem dX7_works_338 : decode cX7_works 338 = .ok (.aload_n 0, 1) := by decide +kernel
theorem dX7_works_339 : decode cX7_works 339 = .ok (.getfield 82, 3) := by decide +kernel
theorem dX7_works_342 : decode cX7_works 342 = .ok (.iload_n 2, 1) := by decide +kernel
theorem dX7_works_343 : decode cX7_works 343 = .ok (.iaload, 1) := by decide +kernel
theorem dX7_works_344 : decode cX7_works 344 = .ok (.ishl, 1) := by decide +kernel
theorem dX7_works_345 : decode cX7_works 345 = .ok (.ior, 1) := by decide +kernel
theorem dX7_works_346 : decode cX7_works 346 = .ok (.istore_n 1, 1) := by decide +kernel
theorem dX7_works_347 : decode cX7_works 347 = .ok (.aload_n 0, 1) := by decide +kernel
theorem dX7_works_348 : decode cX7_works 348 = .ok (.dup, 1) := by decide +kernel
theorem dX7_works_349 : decode cX7_works 349 = .ok (.getfield 156, 3) := by decide +kernel
theorem dX7_works_352 : decode cX7_works 352 = .ok (.iconst 1, 1) := by decide +kernel
theorem dX7_works_353 : decode cX7_works 353 = .ok (.iadd, 1) := by decide +kernel
theorem dX7_works_354 : decode cX7_works 354 = .ok (.putfield 156, 3) := by decide +kernel
theorem dX7_works_357 : decode cX7_works 357 = .ok (.aload_n 0, 1) := by decide +kernel
theorem dX7_works_358 : decode cX7_works 358 = .ok (.dup, 1) := by decide +kernel
theorem dX7_works_359 : decode cX7_works 359 = .ok (.getfield 159, 3) := by decide +kernel
theorem dX7_works_362 : decode cX7_works 362 = .ok (.aload_n 0, 1) := by decide +kernel
theorem dX7_works_363 : decode cX7_works 363 = .ok (.aload_n 0, 1) := by decide +kernel
theorem dX7_works_364 : decode cX7_works 364 = .ok (.getfield 82, 3) := by decide +kernel
theorem dX7_works_367 : decode cX7_works 367 = .ok (.iload_n 2, 1) := by decide +kernel
theorem dX7_works_368 : decode cX7_works 368 = .ok (.iaload, 1) := by decide +kernel
theorem dX7_works_369 : decode cX7_works 369 = .ok (.iload_n 2, 1) := by decide +kernel
theorem dX7_works_370 : decode cX7_works 370 = .ok (.invokevirtual 142, 3) := by decide +kernel
theorem dX7_works_373 : decode cX7_works 373 = .ok (.iadd, 1) := by decide +kernel
theorem dX7_works_374 : decode cX7_works 374 = .ok (.putfield 159, 3) := by decide +kernel
theorem dX7_works_377 : decode cX7_works 377 = .ok (.iinc 2 1, 3) := by decide +kernel
theorem dX7_works_380 : decode cX7_works 380 = .ok (.goto (-169), 3) := by decide +kernel
theorem dX7_works_383 : decode cX7_works 383 = .ok (.return_, 1) := by decide +kernel
theorem dX7_match_0 : decode cX7_match 0 = .ok (.aload_n 0, 1) := by decide +kernel
theorem dX7_match_1 : decode cX7_match 1 = .ok (.invokevirtual 162, 3) := by decide +kernel
theorem dX7_match_4 : decode cX7_match 4 = .ok (.aload_n 0, 1) := by decide +kernel
theorem dX7_match_5 : decode cX7_match 5 = .ok (.getfield 156, 3) := by decide +kernel
theorem dX7_match_8 : decode cX7_match 8 = .ok (.ireturn, 1) := by decide +kernel
theorem dX7_costs_0 : decode cX7_costs 0 = .ok (.aload_n 0, 1) := by decide +kernel
theorem dX7_costs_1 : decode cX7_costs 1 = .ok (.invokevirtual 162, 3) := by decide +kernel
theorem dX7_costs_4 : decode cX7_costs 4 = .ok (.aload_n 0, 1) := by decide +kernel
theorem dX7_costs_5 : decode cX7_costs 5 = .ok (.getfield 159, 3) := by decide +kernel
theorem dX7_costs_8 : decode cX7_costs 8 = .ok (.ireturn, 1) := by decide +kernel
theorem dX7_who_0 : decode cX7_who 0 = .ok (.aload_n 0, 1) := by decide +kernel
theorem dX7_who_1 : decode cX7_who 1 = .ok (.iload_n 1, 1) := by decide +kernel
theorem dX7_who_2 : decode cX7_who 2 = .ok (.invokevirtual 136, 3) := by decide +kernel
theorem dX7_who_5 : decode cX7_who 5 = .ok (.ifCond .ne 5, 3) := by decide +kernel
theorem dX7_who_8 : decode cX7_who 8 = .ok (.iconst (-1), 1) := by decide +kernel
theorem dX7_who_9 : decode cX7_who 9 = .ok (.ireturn, 1) := by decide +kernel
theorem dX7_who_10 : decode cX7_who 10 = .ok (.aload_n 0, 1) := by decide +kernel
theorem dX7_who_11 : decode cX7_who 11 = .ok (.invokevirtual 162, 3) := by decide +kernel
theorem dX7_who_14 : decode cX7_who 14 = .ok (.aload_n 0, 1) := by decide +kernel
theorem dX7_who_15 : decode cX7_who 15 = .ok (.iload_n 1, 1) := by decide +kernel
theorem dX7_who_16 : decode cX7_who 16 = .ok (.invokevirtual 146, 3) := by decide +kernel
theorem dX7_who_19 : decode cX7_who 19 = .ok (.istore_n 2, 1) := by decide +kernel
theorem dX7_who_20 : decode cX7_who 20 = .ok (.iload_n 2, 1) := by decide +kernel
theorem dX7_who_21 : decode cX7_who 21 = .ok (.iconst (-1), 1) := by decide +kernel
theorem dX7_who_22 : decode cX7_who 22 = .ok (.if_icmp .ne 12, 3) := by decide +kernel
theorem dX7_who_25 : decode cX7_who 25 = .ok (.aload_n 0, 1) := by decide +kernel
theorem dX7_who_26 : decode cX7_who 26 = .ok (.getfield 82, 3) := by decide +kernel
theorem dX7_who_29 : decode cX7_who 29 = .ok (.iload_n 1, 1) := by decide +kernel
theorem dX7_who_30 : decode cX7_who 30 = .ok (.iaload, 1) := by decide +kernel
theorem dX7_who_31 : decode cX7_who 31 = .ok (.goto 4, 3) := by decide +kernel
theorem dX7_who_34 : decode cX7_who 34 = .ok (.iload_n 2, 1) := by decide +kernel
theorem dX7_who_35 : decode cX7_who 35 = .ok (.ireturn, 1) := by decide +kernel
theorem dX7_next_0 : decode cX7_next 0 = .ok (.aload_n 0, 1) := by decide +kernel
theorem dX7_next_1 : decode cX7_next 1 = .ok (.invokevirtual 162, 3) := by decide +kernel
theorem dX7_next_4 : decode cX7_next 4 = .ok (.iconst (-1), 1) := by decide +kernel
theorem dX7_next_5 : decode cX7_next 5 = .ok (.istore_n 1, 1) := by decide +kernel
theorem dX7_next_6 : decode cX7_next 6 = .ok (.iconst 0, 1) := by decide +kernel
theorem dX7_next_7 : decode cX7_next 7 = .ok (.istore_n 2, 1) := by decide +kernel
theorem dX7_next_8 : decode cX7_next 8 = .ok (.iload_n 2, 1) := by decide +kernel
theorem dX7_next_9 : decode cX7_next 9 = .ok (.aload_n 0, 1) := by decide +kernel
theorem dX7_next_10 : decode cX7_next 10 = .ok (.getfield 123, 3) := by decide +kernel
theorem dX7_next_13 : decode cX7_next 13 = .ok (.if_icmp .ge 94, 3) := by decide +kernel
theorem dX7_next_16 : decode cX7_next 16 = .ok (.aload_n 0, 1) := by decide +kernel
theorem dX7_next_17 : decode cX7_next 17 = .ok (.getfield 82, 3) := by decide +kernel
theorem dX7_next_20 : decode cX7_next 20 = .ok (.iload_n 2, 1) := by decide +kernel
theorem dX7_next_21 : decode cX7_next 21 = .ok (.iaload, 1) := by decide +kernel
theorem dX7_next_22 : decode cX7_next 22 = .ok (.iconst (-1), 1) := by decide +kernel
theorem dX7_next_23 : decode cX7_next 23 = .ok (.if_icmp .ne 6, 3) := by decide +kernel
theorem dX7_next_26 : decode cX7_next 26 = .ok (.goto 75, 3) := by decide +kernel
theorem dX7_next_29 : decode cX7_next 29 = .ok (.iload_n 1, 1) := by decide +kernel
theorem dX7_next_30 : decode cX7_next 30 = .ok (.iconst (-1), 1) := by decide +kernel
theorem dX7_next_31 : decode cX7_next 31 = .ok (.if_icmp .eq 68, 3) := by decide +kernel
theorem dX7_next_34 : decode cX7_next 34 = .ok (.aload_n 0, 1) := by decide +kernel
theorem dX7_next_35 : decode cX7_next 35 = .ok (.getfield 44, 3) := by decide +kernel
theorem dX7_next_38 : decode cX7_next 38 = .ok (.aload_n 0, 1) := by decide +kernel
theorem dX7_next_39 : decode cX7_next 39 = .ok (.getfield 82, 3) := by decide +kernel
theorem dX7_next_42 : decode cX7_next 42 = .ok (.iload_n 2, 1) := by decide +kernel
theorem dX7_next_43 : decode cX7_next 43 = .ok (.iaload, 1) := by decide +kernel
theorem dX7_next_44 : decode cX7_next 44 = .ok (.iaload, 1) := by decide +kernel
theorem dX7_next_45 : decode cX7_next 45 = .ok (.aload_n 0, 1) := by decide +kernel
theorem dX7_next_46 : decode cX7_next 46 = .ok (.getfield 44, 3) := by decide +kernel
theorem dX7_next_49 : decode cX7_next 49 = .ok (.aload_n 0, 1) := by decide +kernel
theorem dX7_next_50 : decode cX7_next 50 = .ok (.getfield 82, 3) := by decide +kernel
theorem dX7_next_53 : decode cX7_next 53 = .ok (.iload_n 1, 1) := by decide +kernel
theorem dX7_next_54 : decode cX7_next 54 = .ok (.iaload, 1) := by decide +kernel
theorem dX7_next_55 : decode cX7_next 55 = .ok (.iaload, 1) := by decide +kernel
theorem dX7_next_56 : decode cX7_next 56 = .ok (.if_icmp .lt 43, 3) := by decide +kernel
theorem dX7_next_59 : decode cX7_next 59 = .ok (.aload_n 0, 1) := by decide +kernel
theorem dX7_next_60 : decode cX7_next 60 = .ok (.getfield 44, 3) := by decide +kernel
theorem dX7_next_63 : decode cX7_next 63 = .ok (.aload_n 0, 1) := by decide +kernel
theorem dX7_next_64 : decode cX7_next 64 = .ok (.getfield 82, 3) := by decide +kernel
theorem dX7_next_67 : decode cX7_next 67 = .ok (.iload_n 2, 1) := by decide +kernel
theorem dX7_next_68 : decode cX7_next 68 = .ok (.iaload, 1) := by decide +kernel
theorem dX7_next_69 : decode cX7_next 69 = .ok (.iaload, 1) := by decide +kernel
theorem dX7_next_70 : decode cX7_next 70 = .ok (.aload_n 0, 1) := by decide +kernel
theorem dX7_next_71 : decode cX7_next 71 = .ok (.getfield 44, 3) := by decide +kernel
theorem dX7_next_74 : decode cX7_next 74 = .ok (.aload_n 0, 1) := by decide +kernel
theorem dX7_next_75 : decode cX7_next 75 = .ok (.getfield 82, 3) := by decide +kernel
theorem dX7_next_78 : decode cX7_next 78 = .ok (.iload_n 1, 1) := by decide +kernel
theorem dX7_next_79 : decode cX7_next 79 = .ok (.iaload, 1) := by decide +kernel
theorem dX7_next_80 : decode cX7_next 80 = .ok (.iaload, 1) := by decide +kernel
theorem dX7_next_81 : decode cX7_next 81 = .ok (.if_icmp .ne 20, 3) := by decide +kernel
theorem dX7_next_84 : decode cX7_next 84 = .ok (.aload_n 0, 1) := by decide +kernel
theorem dX7_next_85 : decode cX7_next 85 = .ok (.getfield 66, 3) := by decide +kernel
theorem dX7_next_88 : decode cX7_next 88 = .ok (.iload_n 2, 1) := by decide +kernel
theorem dX7_next_89 : decode cX7_next 89 = .ok (.iaload, 1) := by decide +kernel
theorem dX7_next_90 : decode cX7_next 90 = .ok (.aload_n 0, 1) := by decide +kernel
theorem dX7_next_91 : decode cX7_next 91 = .ok (.getfield 66, 3) := by decide +kernel
theorem dX7_next_94 : decode cX7_next 94 = .ok (.iload_n 1, 1) := by decide +kernel
theorem dX7_next_95 : decode cX7_next 95 = .ok (.iaload, 1) := by decide +kernel
theorem dX7_next_96 : decode cX7_next 96 = .ok (.if_icmp .le 5, 3) := by decide +kernel
theorem dX7_next_99 : decode cX7_next 99 = .ok (.iload_n 2, 1) := by decide +kernel
theorem dX7_next_100 : decode cX7_next 100 = .ok (.istore_n 1, 1) := by decide +kernel
theorem dX7_next_101 : decode cX7_next 101 = .ok (.iinc 2 1, 3) := by decide +kernel
theorem dX7_next_104 : decode cX7_next 104 = .ok (.goto (-96), 3) := by decide +kernel
theorem dX7_next_107 : decode cX7_next 107 = .ok (.iload_n 1, 1) := by decide +kernel
theorem dX7_next_108 : decode cX7_next 108 = .ok (.iconst (-1), 1) := by decide +kernel
theorem dX7_next_109 : decode cX7_next 109 = .ok (.if_icmp .ne 7, 3) := by decide +kernel
theorem dX7_next_112 : decode cX7_next 112 = .ok (.iconst (-1), 1) := by decide +kernel
theorem dX7_next_113 : decode cX7_next 113 = .ok (.goto 9, 3) := by decide +kernel
theorem dX7_next_116 : decode cX7_next 116 = .ok (.aload_n 0, 1) := by decide +kernel
theorem dX7_next_117 : decode cX7_next 117 = .ok (.getfield 82, 3) := by decide +kernel
theorem dX7_next_120 : decode cX7_next 120 = .ok (.iload_n 1, 1) := by decide +kernel
theorem dX7_next_121 : decode cX7_next 121 = .ok (.iaload, 1) := by decide +kernel
theorem dX7_next_122 : decode cX7_next 122 = .ok (.ireturn, 1) := by decide +kernel
theorem dX7_answer_0 : decode cX7_answer 0 = .ok (.aload_n 0, 1) := by decide +kernel
theorem dX7_answer_1 : decode cX7_answer 1 = .ok (.iload_n 1, 1) := by decide +kernel
theorem dX7_answer_2 : decode cX7_answer 2 = .ok (.invokevirtual 126, 3) := by decide +kernel
theorem dX7_answer_5 : decode cX7_answer 5 = .ok (.ifCond .eq 12, 3) := by decide +kernel
theorem dX7_answer_8 : decode cX7_answer 8 = .ok (.iload_n 2, 1) := by decide +kernel
theorem dX7_answer_9 : decode cX7_answer 9 = .ok (.iconst 0, 1) := by decide +kernel
theorem dX7_answer_10 : decode cX7_answer 10 = .ok (.iconst 2, 1) := by decide +kernel
theorem dX7_answer_11 : decode cX7_answer 11 = .ok (.invokestatic 97, 3) := by decide +kernel
theorem dX7_answer_14 : decode cX7_answer 14 = .ok (.ifCond .ne 5, 3) := by decide +kernel
theorem dX7_answer_17 : decode cX7_answer 17 = .ok (.iconst 0, 1) := by decide +kernel
theorem dX7_answer_18 : decode cX7_answer 18 = .ok (.ireturn, 1) := by decide +kernel
theorem dX7_answer_19 : decode cX7_answer 19 = .ok (.aload_n 0, 1) := by decide +kernel
theorem dX7_answer_20 : decode cX7_answer 20 = .ok (.invokevirtual 162, 3) := by decide +kernel
theorem dX7_answer_23 : decode cX7_answer 23 = .ok (.iconst (-1), 1) := by decide +kernel
theorem dX7_answer_24 : decode cX7_answer 24 = .ok (.istore_n 3, 1) := by decide +kernel
theorem dX7_answer_25 : decode cX7_answer 25 = .ok (.iconst 0, 1) := by decide +kernel
theorem dX7_answer_26 : decode cX7_answer 26 = .ok (.istore 4, 2) := by decide +kernel
theorem dX7_answer_28 : decode cX7_answer 28 = .ok (.iload 4, 2) := by decide +kernel
theorem dX7_answer_30 : decode cX7_answer 30 = .ok (.aload_n 0, 1) := by decide +kernel
theorem dX7_answer_31 : decode cX7_answer 31 = .ok (.getfield 123, 3) := by decide +kernel
theorem dX7_answer_34 : decode cX7_answer 34 = .ok (.if_icmp .ge 23, 3) := by decide +kernel
theorem dX7_answer_37 : decode cX7_answer 37 = .ok (.aload_n 0, 1) := by decide +kernel
theorem dX7_answer_38 : decode cX7_answer 38 = .ok (.getfield 82, 3) := by decide +kernel
theorem dX7_answer_41 : decode cX7_answer 41 = .ok (.iload 4, 2) := by decide +kernel
theorem dX7_answer_43 : decode cX7_answer 43 = .ok (.iaload, 1) := by decide +kernel
theorem dX7_answer_44 : decode cX7_answer 44 = .ok (.iload_n 1, 1) := by decide +kernel
theorem dX7_answer_45 : decode cX7_answer 45 = .ok (.if_icmp .ne 6, 3) := by decide +kernel
theorem dX7_answer_48 : decode cX7_answer 48 = .ok (.iload 4, 2) := by decide +kernel
theorem dX7_answer_50 : decode cX7_answer 50 = .ok (.istore_n 3, 1) := by decide +kernel
theorem dX7_answer_51 : decode cX7_answer 51 = .ok (.iinc 4 1, 3) := by decide +kernel
theorem dX7_answer_54 : decode cX7_answer 54 = .ok (.goto (-26), 3) := by decide +kernel
theorem dX7_answer_57 : decode cX7_answer 57 = .ok (.iload_n 3, 1) := by decide +kernel
theorem dX7_answer_58 : decode cX7_answer 58 = .ok (.iconst (-1), 1) := by decide +kernel
theorem dX7_answer_59 : decode cX7_answer 59 = .ok (.if_icmp .ne 5, 3) := by decide +kernel
theorem dX7_answer_62 : decode cX7_answer 62 = .ok (.iconst 0, 1) := by decide +kernel
theorem dX7_answer_63 : decode cX7_answer 63 = .ok (.ireturn, 1) := by decide +kernel
theorem dX7_answer_64 : decode cX7_answer 64 = .ok (.iload_n 2, 1) := by decide +kernel
theorem dX7_answer_65 : decode cX7_answer 65 = .ok (.ifCond .ne 20, 3) := by decide +kernel
theorem dX7_answer_68 : decode cX7_answer 68 = .ok (.aload_n 0, 1) := by decide +kernel
theorem dX7_answer_69 : decode cX7_answer 69 = .ok (.getfield 38, 3) := by decide +kernel
theorem dX7_answer_72 : decode cX7_answer 72 = .ok (.iload_n 1, 1) := by decide +kernel
theorem dX7_answer_73 : decode cX7_answer 73 = .ok (.iconst 1, 1) := by decide +kernel
theorem dX7_answer_74 : decode cX7_answer 74 = .ok (.iastore, 1) := by decide +kernel
theorem dX7_answer_75 : decode cX7_answer 75 = .ok (.aload_n 0, 1) := by decide +kernel
theorem dX7_answer_76 : decode cX7_answer 76 = .ok (.getfield 41, 3) := by decide +kernel
theorem dX7_answer_79 : decode cX7_answer 79 = .ok (.iload_n 1, 1) := by decide +kernel
theorem dX7_answer_80 : decode cX7_answer 80 = .ok (.iload_n 3, 1) := by decide +kernel
theorem dX7_answer_81 : decode cX7_answer 81 = .ok (.iastore, 1) := by decide +kernel
theorem dX7_answer_82 : decode cX7_answer 82 = .ok (.goto 55, 3) := by decide +kernel
theorem dX7_answer_85 : decode cX7_answer 85 = .ok (.iload_n 2, 1) := by decide +kernel
theorem dX7_answer_86 : decode cX7_answer 86 = .ok (.iconst 1, 1) := by decide +kernel
theorem dX7_answer_87 : decode cX7_answer 87 = .ok (.if_icmp .ne 13, 3) := by decide +kernel
theorem dX7_answer_90 : decode cX7_answer 90 = .ok (.aload_n 0, 1) := by decide +kernel
theorem dX7_answer_91 : decode cX7_answer 91 = .ok (.getfield 38, 3) := by decide +kernel
theorem dX7_answer_94 : decode cX7_answer 94 = .ok (.iload_n 1, 1) := by decide +kernel
theorem dX7_answer_95 : decode cX7_answer 95 = .ok (.iconst 2, 1) := by decide +kernel
theorem dX7_answer_96 : decode cX7_answer 96 = .ok (.iastore, 1) := by decide +kernel
theorem dX7_answer_97 : decode cX7_answer 97 = .ok (.goto 40, 3) := by decide +kernel
theorem dX7_answer_100 : decode cX7_answer 100 = .ok (.aload_n 0, 1) := by decide +kernel
theorem dX7_answer_101 : decode cX7_answer 101 = .ok (.getfield 44, 3) := by decide +kernel
theorem dX7_answer_104 : decode cX7_answer 104 = .ok (.iload_n 1, 1) := by decide +kernel
theorem dX7_answer_105 : decode cX7_answer 105 = .ok (.dup2, 1) := by decide +kernel
theorem dX7_answer_106 : decode cX7_answer 106 = .ok (.iaload, 1) := by decide +kernel
theorem dX7_answer_107 : decode cX7_answer 107 = .ok (.iconst 1, 1) := by decide +kernel
theorem dX7_answer_108 : decode cX7_answer 108 = .ok (.iadd, 1) := by decide +kernel
theorem dX7_answer_109 : decode cX7_answer 109 = .ok (.iastore, 1) := by decide +kernel
theorem dX7_answer_110 : decode cX7_answer 110 = .ok (.aload_n 0, 1) := by decide +kernel
theorem dX7_answer_111 : decode cX7_answer 111 = .ok (.getfield 38, 3) := by decide +kernel
theorem dX7_answer_114 : decode cX7_answer 114 = .ok (.iload_n 1, 1) := by decide +kernel
theorem dX7_answer_115 : decode cX7_answer 115 = .ok (.aload_n 0, 1) := by decide +kernel
theorem dX7_answer_116 : decode cX7_answer 116 = .ok (.getfield 44, 3) := by decide +kernel
theorem dX7_answer_119 : decode cX7_answer 119 = .ok (.iload_n 1, 1) := by decide +kernel
theorem dX7_answer_120 : decode cX7_answer 120 = .ok (.iaload, 1) := by decide +kernel
theorem dX7_answer_121 : decode cX7_answer 121 = .ok (.aload_n 0, 1) := by decide +kernel
theorem dX7_answer_122 : decode cX7_answer 122 = .ok (.getfield 13, 3) := by decide +kernel
theorem dX7_answer_125 : decode cX7_answer 125 = .ok (.bipush 6, 2) := by decide +kernel
theorem dX7_answer_127 : decode cX7_answer 127 = .ok (.iaload, 1) := by decide +kernel
theorem dX7_answer_128 : decode cX7_answer 128 = .ok (.if_icmp .lt 7, 3) := by decide +kernel
theorem dX7_answer_131 : decode cX7_answer 131 = .ok (.iconst 2, 1) := by decide +kernel
theorem dX7_answer_132 : decode cX7_answer 132 = .ok (.goto 4, 3) := by decide +kernel
theorem dX7_answer_135 : decode cX7_answer 135 = .ok (.iconst 0, 1) := by decide +kernel
theorem dX7_answer_136 : decode cX7_answer 136 = .ok (.iastore, 1) := by decide +kernel
theorem dX7_answer_137 : decode cX7_answer 137 = .ok (.aload_n 0, 1) := by decide +kernel
theorem dX7_answer_138 : decode cX7_answer 138 = .ok (.iconst 0, 1) := by decide +kernel
theorem dX7_answer_139 : decode cX7_answer 139 = .ok (.putfield 116, 3) := by decide +kernel
theorem dX7_answer_142 : decode cX7_answer 142 = .ok (.iconst 1, 1) := by decide +kernel
theorem dX7_answer_143 : decode cX7_answer 143 = .ok (.ireturn, 1) := by decide +kernel
theorem dX7_hall_0 : decode cX7_hall 0 = .ok (.aload_n 0, 1) := by decide +kernel
theorem dX7_hall_1 : decode cX7_hall 1 = .ok (.invokevirtual 162, 3) := by decide +kernel
theorem dX7_hall_4 : decode cX7_hall 4 = .ok (.iconst 0, 1) := by decide +kernel
theorem dX7_hall_5 : decode cX7_hall 5 = .ok (.istore_n 1, 1) := by decide +kernel
theorem dX7_hall_6 : decode cX7_hall 6 = .ok (.iconst 0, 1) := by decide +kernel
theorem dX7_hall_7 : decode cX7_hall 7 = .ok (.istore_n 2, 1) := by decide +kernel
theorem dX7_hall_8 : decode cX7_hall 8 = .ok (.iload_n 2, 1) := by decide +kernel
theorem dX7_hall_9 : decode cX7_hall 9 = .ok (.aload_n 0, 1) := by decide +kernel
theorem dX7_hall_10 : decode cX7_hall 10 = .ok (.getfield 123, 3) := by decide +kernel
theorem dX7_hall_13 : decode cX7_hall 13 = .ok (.if_icmp .ge 28, 3) := by decide +kernel
theorem dX7_hall_16 : decode cX7_hall 16 = .ok (.iload_n 1, 1) := by decide +kernel
theorem dX7_hall_17 : decode cX7_hall 17 = .ok (.aload_n 0, 1) := by decide +kernel
theorem dX7_hall_18 : decode cX7_hall 18 = .ok (.iload_n 2, 1) := by decide +kernel
theorem dX7_hall_19 : decode cX7_hall 19 = .ok (.invokevirtual 146, 3) := by decide +kernel
theorem dX7_hall_22 : decode cX7_hall 22 = .ok (.iconst (-1), 1) := by decide +kernel
theorem dX7_hall_23 : decode cX7_hall 23 = .ok (.if_icmp .ne 9, 3) := by decide +kernel
theorem dX7_hall_26 : decode cX7_hall 26 = .ok (.iconst 1, 1) := by decide +kernel
theorem dX7_hall_27 : decode cX7_hall 27 = .ok (.iload_n 2, 1) := by decide +kernel
theorem dX7_hall_28 : decode cX7_hall 28 = .ok (.ishl, 1) := by decide +kernel
theorem dX7_hall_29 : decode cX7_hall 29 = .ok (.goto 4, 3) := by decide +kernel
theorem dX7_hall_32 : decode cX7_hall 32 = .ok (.iconst 0, 1) := by decide +kernel
theorem dX7_hall_33 : decode cX7_hall 33 = .ok (.ior, 1) := by decide +kernel
theorem dX7_hall_34 : decode cX7_hall 34 = .ok (.istore_n 1, 1) := by decide +kernel
theorem dX7_hall_35 : decode cX7_hall 35 = .ok (.iinc 2 1, 3) := by decide +kernel
theorem dX7_hall_38 : decode cX7_hall 38 = .ok (.goto (-30), 3) := by decide +kernel
theorem dX7_hall_41 : decode cX7_hall 41 = .ok (.iload_n 1, 1) := by decide +kernel
theorem dX7_hall_42 : decode cX7_hall 42 = .ok (.invokestatic 165, 3) := by decide +kernel
theorem dX7_hall_45 : decode cX7_hall 45 = .ok (.aload_n 0, 1) := by decide +kernel
theorem dX7_hall_46 : decode cX7_hall 46 = .ok (.getfield 156, 3) := by decide +kernel
theorem dX7_hall_49 : decode cX7_hall 49 = .ok (.if_icmp .ne 5, 3) := by decide +kernel
theorem dX7_hall_52 : decode cX7_hall 52 = .ok (.iconst 0, 1) := by decide +kernel
theorem dX7_hall_53 : decode cX7_hall 53 = .ok (.ireturn, 1) := by decide +kernel
theorem dX7_hall_54 : decode cX7_hall 54 = .ok (.iconst 0, 1) := by decide +kernel
theorem dX7_hall_55 : decode cX7_hall 55 = .ok (.istore_n 2, 1) := by decide +kernel
theorem dX7_hall_56 : decode cX7_hall 56 = .ok (.iconst 1, 1) := by decide +kernel
theorem dX7_hall_57 : decode cX7_hall 57 = .ok (.istore_n 3, 1) := by decide +kernel
theorem dX7_hall_58 : decode cX7_hall 58 = .ok (.iload_n 3, 1) := by decide +kernel
theorem dX7_hall_59 : decode cX7_hall 59 = .ok (.iconst 1, 1) := by decide +kernel
theorem dX7_hall_60 : decode cX7_hall 60 = .ok (.aload_n 0, 1) := by decide +kernel
theorem dX7_hall_61 : decode cX7_hall 61 = .ok (.getfield 123, 3) := by decide +kernel
theorem dX7_hall_64 : decode cX7_hall 64 = .ok (.ishl, 1) := by decide +kernel
theorem dX7_hall_65 : decode cX7_hall 65 = .ok (.if_icmp .ge 135, 3) := by decide +kernel
theorem dX7_hall_68 : decode cX7_hall 68 = .ok (.iload_n 3, 1) := by decide +kernel
theorem dX7_hall_69 : decode cX7_hall 69 = .ok (.iload_n 1, 1) := by decide +kernel
theorem dX7_hall_70 : decode cX7_hall 70 = .ok (.iconst (-1), 1) := by decide +kernel
theorem dX7_hall_71 : decode cX7_hall 71 = .ok (.ixor, 1) := by decide +kernel
theorem dX7_hall_72 : decode cX7_hall 72 = .ok (.iand, 1) := by decide +kernel
theorem dX7_hall_73 : decode cX7_hall 73 = .ok (.ifCond .ne 121, 3) := by decide +kernel
theorem dX7_hall_76 : decode cX7_hall 76 = .ok (.iload_n 2, 1) := by decide +kernel
theorem dX7_hall_77 : decode cX7_hall 77 = .ok (.ifCond .eq 17, 3) := by decide +kernel
theorem dX7_hall_80 : decode cX7_hall 80 = .ok (.iload_n 3, 1) := by decide +kernel
theorem dX7_hall_81 : decode cX7_hall 81 = .ok (.invokestatic 165, 3) := by decide +kernel
theorem dX7_hall_84 : decode cX7_hall 84 = .ok (.iload_n 2, 1) := by decide +kernel
theorem dX7_hall_85 : decode cX7_hall 85 = .ok (.invokestatic 165, 3) := by decide +kernel
theorem dX7_hall_88 : decode cX7_hall 88 = .ok (.if_icmp .lt 6, 3) := by decide +kernel
theorem dX7_hall_91 : decode cX7_hall 91 = .ok (.goto 103, 3) := by decide +kernel
theorem dX7_hall_94 : decode cX7_hall 94 = .ok (.iconst 0, 1) := by decide +kernel
theorem dX7_hall_95 : decode cX7_hall 95 = .ok (.istore 4, 2) := by decide +kernel
theorem dX7_hall_97 : decode cX7_hall 97 = .ok (.iconst 0, 1) := by decide +kernel
theorem dX7_hall_98 : decode cX7_hall 98 = .ok (.istore 5, 2) := by decide +kernel
theorem dX7_hall_100 : decode cX7_hall 100 = .ok (.iload 5, 2) := by decide +kernel
theorem dX7_hall_102 : decode cX7_hall 102 = .ok (.aload_n 0, 1) := by decide +kernel
theorem dX7_hall_103 : decode cX7_hall 103 = .ok (.getfield 120, 3) := by decide +kernel
theorem dX7_hall_106 : decode cX7_hall 106 = .ok (.if_icmp .ge 77, 3) := by decide +kernel
theorem dX7_hall_109 : decode cX7_hall 109 = .ok (.iconst 0, 1) := by decide +kernel
theorem dX7_hall_110 : decode cX7_hall 110 = .ok (.istore 6, 2) := by decide +kernel
theorem dX7_hall_112 : decode cX7_hall 112 = .ok (.iconst 0, 1) := by decide +kernel
theorem dX7_hall_113 : decode cX7_hall 113 = .ok (.istore 7, 2) := by decide +kernel
theorem dX7_hall_115 : decode cX7_hall 115 = .ok (.iload 7, 2) := by decide +kernel
theorem dX7_hall_117 : decode cX7_hall 117 = .ok (.aload_n 0, 1) := by decide +kernel
theorem dX7_hall_118 : decode cX7_hall 118 = .ok (.getfield 123, 3) := by decide +kernel
theorem dX7_hall_121 : decode cX7_hall 121 = .ok (.if_icmp .ge 41, 3) := by decide +kernel
theorem dX7_hall_124 : decode cX7_hall 124 = .ok (.iload 6, 2) := by decide +kernel
theorem dX7_hall_126 : decode cX7_hall 126 = .ok (.ifCond .ne 23, 3) := by decide +kernel
theorem dX7_hall_129 : decode cX7_hall 129 = .ok (.iload_n 3, 1) := by decide +kernel
theorem dX7_hall_130 : decode cX7_hall 130 = .ok (.iload 7, 2) := by decide +kernel
theorem dX7_hall_132 : decode cX7_hall 132 = .ok (.invokestatic 130, 3) := by decide +kernel
theorem dX7_hall_135 : decode cX7_hall 135 = .ok (.ifCond .eq 18, 3) := by decide +kernel
theorem dX7_hall_138 : decode cX7_hall 138 = .ok (.aload_n 0, 1) := by decide +kernel
theorem dX7_hall_139 : decode cX7_hall 139 = .ok (.iload 5, 2) := by decide +kernel
theorem dX7_hall_141 : decode cX7_hall 141 = .ok (.iload 7, 2) := by decide +kernel
theorem dX7_hall_143 : decode cX7_hall 143 = .ok (.invokevirtual 149, 3) := by decide +kernel
theorem dX7_hall_146 : decode cX7_hall 146 = .ok (.ifCond .eq 7, 3) := by decide +kernel
theorem dX7_hall_149 : decode cX7_hall 149 = .ok (.iconst 1, 1) := by decide +kernel
theorem dX7_hall_150 : decode cX7_hall 150 = .ok (.goto 4, 3) := by decide +kernel
theorem dX7_hall_153 : decode cX7_hall 153 = .ok (.iconst 0, 1) := by decide +kernel
theorem dX7_hall_154 : decode cX7_hall 154 = .ok (.istore 6, 2) := by decide +kernel
theorem dX7_hall_156 : decode cX7_hall 156 = .ok (.iinc 7 1, 3) := by decide +kernel
theorem dX7_hall_159 : decode cX7_hall 159 = .ok (.goto (-44), 3) := by decide +kernel
theorem dX7_hall_162 : decode cX7_hall 162 = .ok (.iload 4, 2) := by decide +kernel
theorem dX7_hall_164 : decode cX7_hall 164 = .ok (.iload 6, 2) := by decide +kernel
theorem dX7_hall_166 : decode cX7_hall 166 = .ok (.ifCond .eq 7, 3) := by decide +kernel
theorem dX7_hall_169 : decode cX7_hall 169 = .ok (.iconst 1, 1) := by decide +kernel
theorem dX7_hall_170 : decode cX7_hall 170 = .ok (.goto 4, 3) := by decide +kernel
theorem dX7_hall_173 : decode cX7_hall 173 = .ok (.iconst 0, 1) := by decide +kernel
theorem dX7_hall_174 : decode cX7_hall 174 = .ok (.iadd, 1) := by decide +kernel
theorem dX7_hall_175 : decode cX7_hall 175 = .ok (.istore 4, 2) := by decide +kernel
theorem dX7_hall_177 : decode cX7_hall 177 = .ok (.iinc 5 1, 3) := by decide +kernel
theorem dX7_hall_180 : decode cX7_hall 180 = .ok (.goto (-80), 3) := by decide +kernel
theorem dX7_hall_183 : decode cX7_hall 183 = .ok (.iload 4, 2) := by decide +kernel
theorem dX7_hall_185 : decode cX7_hall 185 = .ok (.iload_n 3, 1) := by decide +kernel
theorem dX7_hall_186 : decode cX7_hall 186 = .ok (.invokestatic 165, 3) := by decide +kernel
theorem dX7_hall_189 : decode cX7_hall 189 = .ok (.if_icmp .ge 5, 3) := by decide +kernel
theorem dX7_hall_192 : decode cX7_hall 192 = .ok (.iload_n 3, 1) := by decide +kernel
theorem dX7_hall_193 : decode cX7_hall 193 = .ok (.istore_n 2, 1) := by decide +kernel
theorem dX7_hall_194 : decode cX7_hall 194 = .ok (.iinc 3 1, 3) := by decide +kernel
theorem dX7_hall_197 : decode cX7_hall 197 = .ok (.goto (-139), 3) := by decide +kernel
theorem dX7_hall_200 : decode cX7_hall 200 = .ok (.iload_n 2, 1) := by decide +kernel
theorem dX7_hall_201 : decode cX7_hall 201 = .ok (.ireturn, 1) := by decide +kernel
theorem dX7_goesBy_0 : decode cX7_goesBy 0 = .ok (.aload_n 0, 1) := by decide +kernel
theorem dX7_goesBy_1 : decode cX7_goesBy 1 = .ok (.getfield 41, 3) := by decide +kernel
theorem dX7_goesBy_4 : decode cX7_goesBy 4 = .ok (.iload_n 1, 1) := by decide +kernel
theorem dX7_goesBy_5 : decode cX7_goesBy 5 = .ok (.iaload, 1) := by decide +kernel
theorem dX7_goesBy_6 : decode cX7_goesBy 6 = .ok (.istore_n 2, 1) := by decide +kernel
theorem dX7_goesBy_7 : decode cX7_goesBy 7 = .ok (.aload_n 0, 1) := by decide +kernel
theorem dX7_goesBy_8 : decode cX7_goesBy 8 = .ok (.getfield 47, 3) := by decide +kernel
theorem dX7_goesBy_11 : decode cX7_goesBy 11 = .ok (.iload_n 1, 1) := by decide +kernel
theorem dX7_goesBy_12 : decode cX7_goesBy 12 = .ok (.dup2, 1) := by decide +kernel
theorem dX7_goesBy_13 : decode cX7_goesBy 13 = .ok (.iaload, 1) := by decide +kernel
theorem dX7_goesBy_14 : decode cX7_goesBy 14 = .ok (.iconst 1, 1) := by decide +kernel
theorem dX7_goesBy_15 : decode cX7_goesBy 15 = .ok (.iadd, 1) := by decide +kernel
theorem dX7_goesBy_16 : decode cX7_goesBy 16 = .ok (.iastore, 1) := by decide +kernel
theorem dX7_goesBy_17 : decode cX7_goesBy 17 = .ok (.aload_n 0, 1) := by decide +kernel
theorem dX7_goesBy_18 : decode cX7_goesBy 18 = .ok (.getfield 50, 3) := by decide +kernel
theorem dX7_goesBy_21 : decode cX7_goesBy 21 = .ok (.iload_n 1, 1) := by decide +kernel
theorem dX7_goesBy_22 : decode cX7_goesBy 22 = .ok (.dup2, 1) := by decide +kernel
theorem dX7_goesBy_23 : decode cX7_goesBy 23 = .ok (.laload, 1) := by decide +kernel
theorem dX7_goesBy_24 : decode cX7_goesBy 24 = .ok (.aload_n 0, 1) := by decide +kernel
theorem dX7_goesBy_25 : decode cX7_goesBy 25 = .ok (.getfield 66, 3) := by decide +kernel
theorem dX7_goesBy_28 : decode cX7_goesBy 28 = .ok (.iload_n 2, 1) := by decide +kernel
theorem dX7_goesBy_29 : decode cX7_goesBy 29 = .ok (.iaload, 1) := by decide +kernel
theorem dX7_goesBy_30 : decode cX7_goesBy 30 = .ok (.aload_n 0, 1) := by decide +kernel
theorem dX7_goesBy_31 : decode cX7_goesBy 31 = .ok (.getfield 13, 3) := by decide +kernel
theorem dX7_goesBy_34 : decode cX7_goesBy 34 = .ok (.iconst 4, 1) := by decide +kernel
theorem dX7_goesBy_35 : decode cX7_goesBy 35 = .ok (.iaload, 1) := by decide +kernel
theorem dX7_goesBy_36 : decode cX7_goesBy 36 = .ok (.aload_n 0, 1) := by decide +kernel
theorem dX7_goesBy_37 : decode cX7_goesBy 37 = .ok (.getfield 20, 3) := by decide +kernel
theorem dX7_goesBy_40 : decode cX7_goesBy 40 = .ok (.iload_n 1, 1) := by decide +kernel
theorem dX7_goesBy_41 : decode cX7_goesBy 41 = .ok (.iaload, 1) := by decide +kernel
theorem dX7_goesBy_42 : decode cX7_goesBy 42 = .ok (.aload_n 0, 1) := by decide +kernel
theorem dX7_goesBy_43 : decode cX7_goesBy 43 = .ok (.getfield 60, 3) := by decide +kernel
theorem dX7_goesBy_46 : decode cX7_goesBy 46 = .ok (.iload_n 2, 1) := by decide +kernel
theorem dX7_goesBy_47 : decode cX7_goesBy 47 = .ok (.iaload, 1) := by decide +kernel
theorem dX7_goesBy_48 : decode cX7_goesBy 48 = .ok (.invokestatic 130, 3) := by decide +kernel
theorem dX7_goesBy_51 : decode cX7_goesBy 51 = .ok (.ifCond .eq 12, 3) := by decide +kernel
theorem dX7_goesBy_54 : decode cX7_goesBy 54 = .ok (.aload_n 0, 1) := by decide +kernel
theorem dX7_goesBy_55 : decode cX7_goesBy 55 = .ok (.getfield 13, 3) := by decide +kernel
theorem dX7_goesBy_58 : decode cX7_goesBy 58 = .ok (.iconst 5, 1) := by decide +kernel
theorem dX7_goesBy_59 : decode cX7_goesBy 59 = .ok (.iaload, 1) := by decide +kernel
theorem dX7_goesBy_60 : decode cX7_goesBy 60 = .ok (.goto 4, 3) := by decide +kernel
theorem dX7_goesBy_63 : decode cX7_goesBy 63 = .ok (.iconst 0, 1) := by decide +kernel
theorem dX7_goesBy_64 : decode cX7_goesBy 64 = .ok (.iadd, 1) := by decide +kernel
theorem dX7_goesBy_65 : decode cX7_goesBy 65 = .ok (.imul, 1) := by decide +kernel
theorem dX7_goesBy_66 : decode cX7_goesBy 66 = .ok (.i2l, 1) := by decide +kernel
theorem dX7_goesBy_67 : decode cX7_goesBy 67 = .ok (.ladd, 1) := by decide +kernel
theorem dX7_goesBy_68 : decode cX7_goesBy 68 = .ok (.lastore, 1) := by decide +kernel
theorem dX7_goesBy_69 : decode cX7_goesBy 69 = .ok (.aload_n 0, 1) := by decide +kernel
theorem dX7_goesBy_70 : decode cX7_goesBy 70 = .ok (.getfield 168, 3) := by decide +kernel
theorem dX7_goesBy_73 : decode cX7_goesBy 73 = .ok (.sipush 400, 3) := by decide +kernel
theorem dX7_goesBy_76 : decode cX7_goesBy 76 = .ok (.irem, 1) := by decide +kernel
theorem dX7_goesBy_77 : decode cX7_goesBy 77 = .ok (.istore_n 3, 1) := by decide +kernel
theorem dX7_goesBy_78 : decode cX7_goesBy 78 = .ok (.aload_n 0, 1) := by decide +kernel
theorem dX7_goesBy_79 : decode cX7_goesBy 79 = .ok (.getfield 69, 3) := by decide +kernel
theorem dX7_goesBy_82 : decode cX7_goesBy 82 = .ok (.iload_n 3, 1) := by decide +kernel
theorem dX7_goesBy_83 : decode cX7_goesBy 83 = .ok (.iload_n 1, 1) := by decide +kernel
theorem dX7_goesBy_84 : decode cX7_goesBy 84 = .ok (.iastore, 1) := by decide +kernel
theorem dX7_goesBy_85 : decode cX7_goesBy 85 = .ok (.aload_n 0, 1) := by decide +kernel
theorem dX7_goesBy_86 : decode cX7_goesBy 86 = .ok (.getfield 72, 3) := by decide +kernel
theorem dX7_goesBy_89 : decode cX7_goesBy 89 = .ok (.iload_n 3, 1) := by decide +kernel
theorem dX7_goesBy_90 : decode cX7_goesBy 90 = .ok (.bipush 16, 2) := by decide +kernel
theorem dX7_goesBy_92 : decode cX7_goesBy 92 = .ok (.aload_n 0, 1) := by decide +kernel
theorem dX7_goesBy_93 : decode cX7_goesBy 93 = .ok (.getfield 54, 3) := by decide +kernel
theorem dX7_goesBy_96 : decode cX7_goesBy 96 = .ok (.iload_n 2, 1) := by decide +kernel
theorem dX7_goesBy_97 : decode cX7_goesBy 97 = .ok (.iaload, 1) := by decide +kernel
theorem dX7_goesBy_98 : decode cX7_goesBy 98 = .ok (.imul, 1) := by decide +kernel
theorem dX7_goesBy_99 : decode cX7_goesBy 99 = .ok (.aload_n 0, 1) := by decide +kernel
theorem dX7_goesBy_100 : decode cX7_goesBy 100 = .ok (.getfield 57, 3) := by decide +kernel
theorem dX7_goesBy_103 : decode cX7_goesBy 103 = .ok (.iload_n 2, 1) := by decide +kernel
theorem dX7_goesBy_104 : decode cX7_goesBy 104 = .ok (.iaload, 1) := by decide +kernel
theorem dX7_goesBy_105 : decode cX7_goesBy 105 = .ok (.iadd, 1) := by decide +kernel
theorem dX7_goesBy_106 : decode cX7_goesBy 106 = .ok (.iastore, 1) := by decide +kernel
theorem dX7_goesBy_107 : decode cX7_goesBy 107 = .ok (.aload_n 0, 1) := by decide +kernel
theorem dX7_goesBy_108 : decode cX7_goesBy 108 = .ok (.getfield 75, 3) := by decide +kernel
theorem dX7_goesBy_111 : decode cX7_goesBy 111 = .ok (.iload_n 3, 1) := by decide +kernel
theorem dX7_goesBy_112 : decode cX7_goesBy 112 = .ok (.aload_n 0, 1) := by decide +kernel
theorem dX7_goesBy_113 : decode cX7_goesBy 113 = .ok (.getfield 133, 3) := by decide +kernel
theorem dX7_goesBy_116 : decode cX7_goesBy 116 = .ok (.iastore, 1) := by decide +kernel
theorem dX7_goesBy_117 : decode cX7_goesBy 117 = .ok (.aload_n 0, 1) := by decide +kernel
theorem dX7_goesBy_118 : decode cX7_goesBy 118 = .ok (.dup, 1) := by decide +kernel
theorem dX7_goesBy_119 : decode cX7_goesBy 119 = .ok (.getfield 168, 3) := by decide +kernel
theorem dX7_goesBy_122 : decode cX7_goesBy 122 = .ok (.iconst 1, 1) := by decide +kernel
theorem dX7_goesBy_123 : decode cX7_goesBy 123 = .ok (.iadd, 1) := by decide +kernel
theorem dX7_goesBy_124 : decode cX7_goesBy 124 = .ok (.putfield 168, 3) := by decide +kernel
theorem dX7_goesBy_127 : decode cX7_goesBy 127 = .ok (.return_, 1) := by decide +kernel
theorem dX7_day_0 : decode cX7_day 0 = .ok (.aload_n 0, 1) := by decide +kernel
theorem dX7_day_1 : decode cX7_day 1 = .ok (.getfield 133, 3) := by decide +kernel
theorem dX7_day_4 : decode cX7_day 4 = .ok (.sipush 2000, 3) := by decide +kernel
theorem dX7_day_7 : decode cX7_day 7 = .ok (.if_icmp .ne 5, 3) := by decide +kernel
theorem dX7_day_10 : decode cX7_day 10 = .ok (.iconst (-1), 1) := by decide +kernel
theorem dX7_day_11 : decode cX7_day 11 = .ok (.ireturn, 1) := by decide +kernel
theorem dX7_day_12 : decode cX7_day 12 = .ok (.iconst 0, 1) := by decide +kernel
theorem dX7_day_13 : decode cX7_day 13 = .ok (.istore_n 1, 1) := by decide +kernel
theorem dX7_day_14 : decode cX7_day 14 = .ok (.iload_n 1, 1) := by decide +kernel
theorem dX7_day_15 : decode cX7_day 15 = .ok (.aload_n 0, 1) := by decide +kernel
theorem dX7_day_16 : decode cX7_day 16 = .ok (.getfield 120, 3) := by decide +kernel
theorem dX7_day_19 : decode cX7_day 19 = .ok (.if_icmp .ge 45, 3) := by decide +kernel
theorem dX7_day_22 : decode cX7_day 22 = .ok (.aload_n 0, 1) := by decide +kernel
theorem dX7_day_23 : decode cX7_day 23 = .ok (.getfield 38, 3) := by decide +kernel
theorem dX7_day_26 : decode cX7_day 26 = .ok (.iload_n 1, 1) := by decide +kernel
theorem dX7_day_27 : decode cX7_day 27 = .ok (.iaload, 1) := by decide +kernel
theorem dX7_day_28 : decode cX7_day 28 = .ok (.iconst 1, 1) := by decide +kernel
theorem dX7_day_29 : decode cX7_day 29 = .ok (.if_icmp .ne 8, 3) := by decide +kernel
theorem dX7_day_32 : decode cX7_day 32 = .ok (.aload_n 0, 1) := by decide +kernel
theorem dX7_day_33 : decode cX7_day 33 = .ok (.iload_n 1, 1) := by decide +kernel
theorem dX7_day_34 : decode cX7_day 34 = .ok (.invokevirtual 171, 3) := by decide +kernel
theorem dX7_day_37 : decode cX7_day 37 = .ok (.aload_n 0, 1) := by decide +kernel
theorem dX7_day_38 : decode cX7_day 38 = .ok (.getfield 38, 3) := by decide +kernel
theorem dX7_day_41 : decode cX7_day 41 = .ok (.iload_n 1, 1) := by decide +kernel
theorem dX7_day_42 : decode cX7_day 42 = .ok (.iconst 0, 1) := by decide +kernel
theorem dX7_day_43 : decode cX7_day 43 = .ok (.iastore, 1) := by decide +kernel
theorem dX7_day_44 : decode cX7_day 44 = .ok (.aload_n 0, 1) := by decide +kernel
theorem dX7_day_45 : decode cX7_day 45 = .ok (.getfield 41, 3) := by decide +kernel
theorem dX7_day_48 : decode cX7_day 48 = .ok (.iload_n 1, 1) := by decide +kernel
theorem dX7_day_49 : decode cX7_day 49 = .ok (.iconst (-1), 1) := by decide +kernel
theorem dX7_day_50 : decode cX7_day 50 = .ok (.iastore, 1) := by decide +kernel
theorem dX7_day_51 : decode cX7_day 51 = .ok (.aload_n 0, 1) := by decide +kernel
theorem dX7_day_52 : decode cX7_day 52 = .ok (.getfield 44, 3) := by decide +kernel
theorem dX7_day_55 : decode cX7_day 55 = .ok (.iload_n 1, 1) := by decide +kernel
theorem dX7_day_56 : decode cX7_day 56 = .ok (.iconst 0, 1) := by decide +kernel
theorem dX7_day_57 : decode cX7_day 57 = .ok (.iastore, 1) := by decide +kernel
theorem dX7_day_58 : decode cX7_day 58 = .ok (.iinc 1 1, 3) := by decide +kernel
theorem dX7_day_61 : decode cX7_day 61 = .ok (.goto (-47), 3) := by decide +kernel
theorem dX7_day_64 : decode cX7_day 64 = .ok (.aload_n 0, 1) := by decide +kernel
theorem dX7_day_65 : decode cX7_day 65 = .ok (.iconst 0, 1) := by decide +kernel
theorem dX7_day_66 : decode cX7_day 66 = .ok (.putfield 123, 3) := by decide +kernel
theorem dX7_day_69 : decode cX7_day 69 = .ok (.aload_n 0, 1) := by decide +kernel
theorem dX7_day_70 : decode cX7_day 70 = .ok (.dup, 1) := by decide +kernel
theorem dX7_day_71 : decode cX7_day 71 = .ok (.getfield 133, 3) := by decide +kernel
theorem dX7_day_74 : decode cX7_day 74 = .ok (.iconst 1, 1) := by decide +kernel
theorem dX7_day_75 : decode cX7_day 75 = .ok (.iadd, 1) := by decide +kernel
theorem dX7_day_76 : decode cX7_day 76 = .ok (.putfield 133, 3) := by decide +kernel
theorem dX7_day_79 : decode cX7_day 79 = .ok (.aload_n 0, 1) := by decide +kernel
theorem dX7_day_80 : decode cX7_day 80 = .ok (.iconst 0, 1) := by decide +kernel
theorem dX7_day_81 : decode cX7_day 81 = .ok (.putfield 116, 3) := by decide +kernel
theorem dX7_day_84 : decode cX7_day 84 = .ok (.aload_n 0, 1) := by decide +kernel
theorem dX7_day_85 : decode cX7_day 85 = .ok (.getfield 133, 3) := by decide +kernel
theorem dX7_day_88 : decode cX7_day 88 = .ok (.ireturn, 1) := by decide +kernel
theorem dX7_pay_0 : decode cX7_pay 0 = .ok (.aload_n 0, 1) := by decide +kernel
theorem dX7_pay_1 : decode cX7_pay 1 = .ok (.iload_n 1, 1) := by decide +kernel
theorem dX7_pay_2 : decode cX7_pay 2 = .ok (.invokevirtual 126, 3) := by decide +kernel
theorem dX7_pay_5 : decode cX7_pay 5 = .ok (.ifCond .eq 12, 3) := by decide +kernel
theorem dX7_pay_8 : decode cX7_pay 8 = .ok (.aload_n 0, 1) := by decide +kernel
theorem dX7_pay_9 : decode cX7_pay 9 = .ok (.getfield 50, 3) := by decide +kernel
theorem dX7_pay_12 : decode cX7_pay 12 = .ok (.iload_n 1, 1) := by decide +kernel
theorem dX7_pay_13 : decode cX7_pay 13 = .ok (.laload, 1) := by decide +kernel
theorem dX7_pay_14 : decode cX7_pay 14 = .ok (.goto 4, 3) := by decide +kernel
theorem dX7_pay_17 : decode cX7_pay 17 = .ok (.lconst 0, 1) := by decide +kernel
theorem dX7_pay_18 : decode cX7_pay 18 = .ok (.lreturn, 1) := by decide +kernel
theorem dX7_kept_0 : decode cX7_kept 0 = .ok (.aload_n 0, 1) := by decide +kernel
theorem dX7_kept_1 : decode cX7_kept 1 = .ok (.getfield 168, 3) := by decide +kernel
theorem dX7_kept_4 : decode cX7_kept 4 = .ok (.sipush 400, 3) := by decide +kernel
theorem dX7_kept_7 : decode cX7_kept 7 = .ok (.if_icmp .ge 10, 3) := by decide +kernel
theorem dX7_kept_10 : decode cX7_kept 10 = .ok (.aload_n 0, 1) := by decide +kernel
theorem dX7_kept_11 : decode cX7_kept 11 = .ok (.getfield 168, 3) := by decide +kernel
theorem dX7_kept_14 : decode cX7_kept 14 = .ok (.goto 6, 3) := by decide +kernel
theorem dX7_kept_17 : decode cX7_kept 17 = .ok (.sipush 400, 3) := by decide +kernel
theorem dX7_kept_20 : decode cX7_kept 20 = .ok (.ireturn, 1) := by decide +kernel
theorem dX7_strangers_0 : decode cX7_strangers 0 = .ok (.iload_n 1, 1) := by decide +kernel
theorem dX7_strangers_1 : decode cX7_strangers 1 = .ok (.iconst 0, 1) := by decide +kernel
theorem dX7_strangers_2 : decode cX7_strangers 2 = .ok (.iconst 5, 1) := by decide +kernel
theorem dX7_strangers_3 : decode cX7_strangers 3 = .ok (.invokestatic 97, 3) := by decide +kernel
theorem dX7_strangers_6 : decode cX7_strangers 6 = .ok (.ifCond .eq 13, 3) := by decide +kernel
theorem dX7_strangers_9 : decode cX7_strangers 9 = .ok (.iload_n 2, 1) := by decide +kernel
theorem dX7_strangers_10 : decode cX7_strangers 10 = .ok (.iconst 0, 1) := by decide +kernel
theorem dX7_strangers_11 : decode cX7_strangers 11 = .ok (.bipush 15, 2) := by decide +kernel
theorem dX7_strangers_13 : decode cX7_strangers 13 = .ok (.invokestatic 97, 3) := by decide +kernel
theorem dX7_strangers_16 : decode cX7_strangers 16 = .ok (.ifCond .ne 5, 3) := by decide +kernel
theorem dX7_strangers_19 : decode cX7_strangers 19 = .ok (.iconst (-1), 1) := by decide +kernel
theorem dX7_strangers_20 : decode cX7_strangers 20 = .ok (.ireturn, 1) := by decide +kernel
theorem dX7_strangers_21 : decode cX7_strangers 21 = .ok (.iconst 0, 1) := by decide +kernel
theorem dX7_strangers_22 : decode cX7_strangers 22 = .ok (.istore_n 3, 1) := by decide +kernel
theorem dX7_strangers_23 : decode cX7_strangers 23 = .ok (.iconst 0, 1) := by decide +kernel
theorem dX7_strangers_24 : decode cX7_strangers 24 = .ok (.istore 4, 2) := by decide +kernel
theorem dX7_strangers_26 : decode cX7_strangers 26 = .ok (.iload 4, 2) := by decide +kernel
theorem dX7_strangers_28 : decode cX7_strangers 28 = .ok (.aload_n 0, 1) := by decide +kernel
theorem dX7_strangers_29 : decode cX7_strangers 29 = .ok (.invokevirtual 174, 3) := by decide +kernel
theorem dX7_strangers_32 : decode cX7_strangers 32 = .ok (.if_icmp .ge 54, 3) := by decide +kernel
theorem dX7_strangers_35 : decode cX7_strangers 35 = .ok (.aload_n 0, 1) := by decide +kernel
theorem dX7_strangers_36 : decode cX7_strangers 36 = .ok (.getfield 72, 3) := by decide +kernel
theorem dX7_strangers_39 : decode cX7_strangers 39 = .ok (.iload 4, 2) := by decide +kernel
theorem dX7_strangers_41 : decode cX7_strangers 41 = .ok (.iaload, 1) := by decide +kernel
theorem dX7_strangers_42 : decode cX7_strangers 42 = .ok (.bipush 16, 2) := by decide +kernel
theorem dX7_strangers_44 : decode cX7_strangers 44 = .ok (.iload_n 1, 1) := by decide +kernel
theorem dX7_strangers_45 : decode cX7_strangers 45 = .ok (.imul, 1) := by decide +kernel
theorem dX7_strangers_46 : decode cX7_strangers 46 = .ok (.iload_n 2, 1) := by decide +kernel
theorem dX7_strangers_47 : decode cX7_strangers 47 = .ok (.iadd, 1) := by decide +kernel
theorem dX7_strangers_48 : decode cX7_strangers 48 = .ok (.if_icmp .ne 32, 3) := by decide +kernel
theorem dX7_strangers_51 : decode cX7_strangers 51 = .ok (.aload_n 0, 1) := by decide +kernel
theorem dX7_strangers_52 : decode cX7_strangers 52 = .ok (.getfield 75, 3) := by decide +kernel
theorem dX7_strangers_55 : decode cX7_strangers 55 = .ok (.iload 4, 2) := by decide +kernel
theorem dX7_strangers_57 : decode cX7_strangers 57 = .ok (.iaload, 1) := by decide +kernel
theorem dX7_strangers_58 : decode cX7_strangers 58 = .ok (.aload_n 0, 1) := by decide +kernel
theorem dX7_strangers_59 : decode cX7_strangers 59 = .ok (.getfield 133, 3) := by decide +kernel
theorem dX7_strangers_62 : decode cX7_strangers 62 = .ok (.bipush 30, 2) := by decide +kernel
theorem dX7_strangers_64 : decode cX7_strangers 64 = .ok (.isub, 1) := by decide +kernel
theorem dX7_strangers_65 : decode cX7_strangers 65 = .ok (.if_icmp .lt 15, 3) := by decide +kernel
theorem dX7_strangers_68 : decode cX7_strangers 68 = .ok (.iload_n 3, 1) := by decide +kernel
theorem dX7_strangers_69 : decode cX7_strangers 69 = .ok (.iconst 1, 1) := by decide +kernel
theorem dX7_strangers_70 : decode cX7_strangers 70 = .ok (.aload_n 0, 1) := by decide +kernel
theorem dX7_strangers_71 : decode cX7_strangers 71 = .ok (.getfield 69, 3) := by decide +kernel
theorem dX7_strangers_74 : decode cX7_strangers 74 = .ok (.iload 4, 2) := by decide +kernel
theorem dX7_strangers_76 : decode cX7_strangers 76 = .ok (.iaload, 1) := by decide +kernel
theorem dX7_strangers_77 : decode cX7_strangers 77 = .ok (.ishl, 1) := by decide +kernel
theorem dX7_strangers_78 : decode cX7_strangers 78 = .ok (.ior, 1) := by decide +kernel
theorem dX7_strangers_79 : decode cX7_strangers 79 = .ok (.istore_n 3, 1) := by decide +kernel
theorem dX7_strangers_80 : decode cX7_strangers 80 = .ok (.iinc 4 1, 3) := by decide +kernel
theorem dX7_strangers_83 : decode cX7_strangers 83 = .ok (.goto (-57), 3) := by decide +kernel
theorem dX7_strangers_86 : decode cX7_strangers 86 = .ok (.iload_n 3, 1) := by decide +kernel
theorem dX7_strangers_87 : decode cX7_strangers 87 = .ok (.invokestatic 165, 3) := by decide +kernel
theorem dX7_strangers_90 : decode cX7_strangers 90 = .ok (.ireturn, 1) := by decide +kernel
theorem dX7_look_0 : decode cX7_look 0 = .ok (.aload_n 0, 1) := by decide +kernel
theorem dX7_look_1 : decode cX7_look 1 = .ok (.iload_n 1, 1) := by decide +kernel
theorem dX7_look_2 : decode cX7_look 2 = .ok (.invokevirtual 126, 3) := by decide +kernel
theorem dX7_look_5 : decode cX7_look 5 = .ok (.ifCond .ne 5, 3) := by decide +kernel
theorem dX7_look_8 : decode cX7_look 8 = .ok (.iconst (-1), 1) := by decide +kernel
theorem dX7_look_9 : decode cX7_look 9 = .ok (.ireturn, 1) := by decide +kernel
theorem dX7_look_10 : decode cX7_look 10 = .ok (.iload_n 2, 1) := by decide +kernel
theorem dX7_look_11 : decode cX7_look 11 = .ok (.bipush 10, 2) := by decide +kernel
theorem dX7_look_13 : decode cX7_look 13 = .ok (.bipush 15, 2) := by decide +kernel
theorem dX7_look_15 : decode cX7_look 15 = .ok (.invokestatic 97, 3) := by decide +kernel
theorem dX7_look_18 : decode cX7_look 18 = .ok (.ifCond .eq 18, 3) := by decide +kernel
theorem dX7_look_21 : decode cX7_look 21 = .ok (.aload_n 0, 1) := by decide +kernel
theorem dX7_look_22 : decode cX7_look 22 = .ok (.getfield 29, 3) := by decide +kernel
theorem dX7_look_25 : decode cX7_look 25 = .ok (.bipush 6, 2) := by decide +kernel
theorem dX7_look_27 : decode cX7_look 27 = .ok (.iload_n 1, 1) := by decide +kernel
theorem dX7_look_28 : decode cX7_look 28 = .ok (.imul, 1) := by decide +kernel
theorem dX7_look_29 : decode cX7_look 29 = .ok (.iload_n 2, 1) := by decide +kernel
theorem dX7_look_30 : decode cX7_look 30 = .ok (.iadd, 1) := by decide +kernel
theorem dX7_look_31 : decode cX7_look 31 = .ok (.bipush 10, 2) := by decide +kernel
theorem dX7_look_33 : decode cX7_look 33 = .ok (.isub, 1) := by decide +kernel
theorem dX7_look_34 : decode cX7_look 34 = .ok (.iaload, 1) := by decide +kernel
theorem dX7_look_35 : decode cX7_look 35 = .ok (.ireturn, 1) := by decide +kernel
theorem dX7_look_36 : decode cX7_look 36 = .ok (.iload_n 2, 1) := by decide +kernel
theorem dX7_look_37 : decode cX7_look 37 = .ok (.tableswitch 114 0 8 #[51, 58, 65, 72, 79, 86, 93, 100, 107], 51) := by decide +kernel
theorem dX7_look_88 : decode cX7_look 88 = .ok (.aload_n 0, 1) := by decide +kernel
theorem dX7_look_89 : decode cX7_look 89 = .ok (.getfield 20, 3) := by decide +kernel
theorem dX7_look_92 : decode cX7_look 92 = .ok (.iload_n 1, 1) := by decide +kernel
theorem dX7_look_93 : decode cX7_look 93 = .ok (.iaload, 1) := by decide +kernel
theorem dX7_look_94 : decode cX7_look 94 = .ok (.ireturn, 1) := by decide +kernel
theorem dX7_look_95 : decode cX7_look 95 = .ok (.aload_n 0, 1) := by decide +kernel
theorem dX7_look_96 : decode cX7_look 96 = .ok (.getfield 23, 3) := by decide +kernel
theorem dX7_look_99 : decode cX7_look 99 = .ok (.iload_n 1, 1) := by decide +kernel
theorem dX7_look_100 : decode cX7_look 100 = .ok (.iaload, 1) := by decide +kernel
theorem dX7_look_101 : decode cX7_look 101 = .ok (.ireturn, 1) := by decide +kernel
theorem dX7_look_102 : decode cX7_look 102 = .ok (.aload_n 0, 1) := by decide +kernel
theorem dX7_look_103 : decode cX7_look 103 = .ok (.getfield 26, 3) := by decide +kernel
theorem dX7_look_106 : decode cX7_look 106 = .ok (.iload_n 1, 1) := by decide +kernel
theorem dX7_look_107 : decode cX7_look 107 = .ok (.iaload, 1) := by decide +kernel
theorem dX7_look_108 : decode cX7_look 108 = .ok (.ireturn, 1) := by decide +kernel
theorem dX7_look_109 : decode cX7_look 109 = .ok (.aload_n 0, 1) := by decide +kernel
theorem dX7_look_110 : decode cX7_look 110 = .ok (.getfield 38, 3) := by decide +kernel
theorem dX7_look_113 : decode cX7_look 113 = .ok (.iload_n 1, 1) := by decide +kernel
theorem dX7_look_114 : decode cX7_look 114 = .ok (.iaload, 1) := by decide +kernel
theorem dX7_look_115 : decode cX7_look 115 = .ok (.ireturn, 1) := by decide +kernel
theorem dX7_look_116 : decode cX7_look 116 = .ok (.aload_n 0, 1) := by decide +kernel
theorem dX7_look_117 : decode cX7_look 117 = .ok (.getfield 41, 3) := by decide +kernel
theorem dX7_look_120 : decode cX7_look 120 = .ok (.iload_n 1, 1) := by decide +kernel
theorem dX7_look_121 : decode cX7_look 121 = .ok (.iaload, 1) := by decide +kernel
theorem dX7_look_122 : decode cX7_look 122 = .ok (.ireturn, 1) := by decide +kernel
theorem dX7_look_123 : decode cX7_look 123 = .ok (.aload_n 0, 1) := by decide +kernel
theorem dX7_look_124 : decode cX7_look 124 = .ok (.getfield 44, 3) := by decide +kernel
theorem dX7_look_127 : decode cX7_look 127 = .ok (.iload_n 1, 1) := by decide +kernel
theorem dX7_look_128 : decode cX7_look 128 = .ok (.iaload, 1) := by decide +kernel
theorem dX7_look_129 : decode cX7_look 129 = .ok (.ireturn, 1) := by decide +kernel
theorem dX7_look_130 : decode cX7_look 130 = .ok (.aload_n 0, 1) := by decide +kernel
theorem dX7_look_131 : decode cX7_look 131 = .ok (.getfield 47, 3) := by decide +kernel
theorem dX7_look_134 : decode cX7_look 134 = .ok (.iload_n 1, 1) := by decide +kernel
theorem dX7_look_135 : decode cX7_look 135 = .ok (.iaload, 1) := by decide +kernel
theorem dX7_look_136 : decode cX7_look 136 = .ok (.ireturn, 1) := by decide +kernel
theorem dX7_look_137 : decode cX7_look 137 = .ok (.aload_n 0, 1) := by decide +kernel
theorem dX7_look_138 : decode cX7_look 138 = .ok (.getfield 32, 3) := by decide +kernel
theorem dX7_look_141 : decode cX7_look 141 = .ok (.iload_n 1, 1) := by decide +kernel
theorem dX7_look_142 : decode cX7_look 142 = .ok (.iaload, 1) := by decide +kernel
theorem dX7_look_143 : decode cX7_look 143 = .ok (.ireturn, 1) := by decide +kernel
theorem dX7_look_144 : decode cX7_look 144 = .ok (.aload_n 0, 1) := by decide +kernel
theorem dX7_look_145 : decode cX7_look 145 = .ok (.getfield 35, 3) := by decide +kernel
theorem dX7_look_148 : decode cX7_look 148 = .ok (.iload_n 1, 1) := by decide +kernel
theorem dX7_look_149 : decode cX7_look 149 = .ok (.iaload, 1) := by decide +kernel
theorem dX7_look_150 : decode cX7_look 150 = .ok (.ireturn, 1) := by decide +kernel
theorem dX7_look_151 : decode cX7_look 151 = .ok (.iconst (-1), 1) := by decide +kernel
theorem dX7_look_152 : decode cX7_look 152 = .ok (.ireturn, 1) := by decide +kernel
theorem dX7_about_0 : decode cX7_about 0 = .ok (.aload_n 0, 1) := by decide +kernel
theorem dX7_about_1 : decode cX7_about 1 = .ok (.iload_n 1, 1) := by decide +kernel
theorem dX7_about_2 : decode cX7_about 2 = .ok (.invokevirtual 136, 3) := by decide +kernel
theorem dX7_about_5 : decode cX7_about 5 = .ok (.ifCond .ne 5, 3) := by decide +kernel
theorem dX7_about_8 : decode cX7_about 8 = .ok (.iconst (-1), 1) := by decide +kernel
theorem dX7_about_9 : decode cX7_about 9 = .ok (.ireturn, 1) := by decide +kernel
theorem dX7_about_10 : decode cX7_about 10 = .ok (.iload_n 2, 1) := by decide +kernel
theorem dX7_about_11 : decode cX7_about 11 = .ok (.tableswitch 68 0 4 #[33, 40, 47, 54, 61], 33) := by decide +kernel
theorem dX7_about_44 : decode cX7_about 44 = .ok (.aload_n 0, 1) := by decide +kernel
theorem dX7_about_45 : decode cX7_about 45 = .ok (.getfield 54, 3) := by decide +kernel
theorem dX7_about_48 : decode cX7_about 48 = .ok (.iload_n 1, 1) := by decide +kernel
theorem dX7_about_49 : decode cX7_about 49 = .ok (.iaload, 1) := by decide +kernel
theorem dX7_about_50 : decode cX7_about 50 = .ok (.ireturn, 1) := by decide +kernel
theorem dX7_about_51 : decode cX7_about 51 = .ok (.aload_n 0, 1) := by decide +kernel
theorem dX7_about_52 : decode cX7_about 52 = .ok (.getfield 57, 3) := by decide +kernel
theorem dX7_about_55 : decode cX7_about 55 = .ok (.iload_n 1, 1) := by decide +kernel
theorem dX7_about_56 : decode cX7_about 56 = .ok (.iaload, 1) := by decide +kernel
theorem dX7_about_57 : decode cX7_about 57 = .ok (.ireturn, 1) := by decide +kernel
theorem dX7_about_58 : decode cX7_about 58 = .ok (.aload_n 0, 1) := by decide +kernel
theorem dX7_about_59 : decode cX7_about 59 = .ok (.getfield 60, 3) := by decide +kernel
theorem dX7_about_62 : decode cX7_about 62 = .ok (.iload_n 1, 1) := by decide +kernel
theorem dX7_about_63 : decode cX7_about 63 = .ok (.iaload, 1) := by decide +kernel
theorem dX7_about_64 : decode cX7_about 64 = .ok (.ireturn, 1) := by decide +kernel
theorem dX7_about_65 : decode cX7_about 65 = .ok (.aload_n 0, 1) := by decide +kernel
theorem dX7_about_66 : decode cX7_about 66 = .ok (.getfield 63, 3) := by decide +kernel
theorem dX7_about_69 : decode cX7_about 69 = .ok (.iload_n 1, 1) := by decide +kernel
theorem dX7_about_70 : decode cX7_about 70 = .ok (.iaload, 1) := by decide +kernel
theorem dX7_about_71 : decode cX7_about 71 = .ok (.ireturn, 1) := by decide +kernel
theorem dX7_about_72 : decode cX7_about 72 = .ok (.aload_n 0, 1) := by decide +kernel
theorem dX7_about_73 : decode cX7_about 73 = .ok (.getfield 66, 3) := by decide +kernel
theorem dX7_about_76 : decode cX7_about 76 = .ok (.iload_n 1, 1) := by decide +kernel
theorem dX7_about_77 : decode cX7_about 77 = .ok (.iaload, 1) := by decide +kernel
theorem dX7_about_78 : decode cX7_about 78 = .ok (.ireturn, 1) := by decide +kernel
theorem dX7_about_79 : decode cX7_about 79 = .ok (.iconst (-1), 1) := by decide +kernel
theorem dX7_about_80 : decode cX7_about 80 = .ok (.ireturn, 1) := by decide +kernel
theorem dX7_thoseWho_0 : decode cX7_thoseWho 0 = .ok (.iconst 0, 1) := by decide +kernel
theorem dX7_thoseWho_1 : decode cX7_thoseWho 1 = .ok (.istore_n 2, 1) := by decide +kernel
theorem dX7_thoseWho_2 : decode cX7_thoseWho 2 = .ok (.iconst 0, 1) := by decide +kernel
theorem dX7_thoseWho_3 : decode cX7_thoseWho 3 = .ok (.istore_n 3, 1) := by decide +kernel
theorem dX7_thoseWho_4 : decode cX7_thoseWho 4 = .ok (.iload_n 3, 1) := by decide +kernel
theorem dX7_thoseWho_5 : decode cX7_thoseWho 5 = .ok (.aload_n 0, 1) := by decide +kernel
theorem dX7_thoseWho_6 : decode cX7_thoseWho 6 = .ok (.getfield 120, 3) := by decide +kernel
theorem dX7_thoseWho_9 : decode cX7_thoseWho 9 = .ok (.if_icmp .ge 27, 3) := by decide +kernel
theorem dX7_thoseWho_12 : decode cX7_thoseWho 12 = .ok (.iload_n 2, 1) := by decide +kernel
theorem dX7_thoseWho_13 : decode cX7_thoseWho 13 = .ok (.aload_n 0, 1) := by decide +kernel
theorem dX7_thoseWho_14 : decode cX7_thoseWho 14 = .ok (.getfield 38, 3) := by decide +kernel
theorem dX7_thoseWho_17 : decode cX7_thoseWho 17 = .ok (.iload_n 3, 1) := by decide +kernel
theorem dX7_thoseWho_18 : decode cX7_thoseWho 18 = .ok (.iaload, 1) := by decide +kernel
theorem dX7_thoseWho_19 : decode cX7_thoseWho 19 = .ok (.iload_n 1, 1) := by decide +kernel
theorem dX7_thoseWho_20 : decode cX7_thoseWho 20 = .ok (.if_icmp .ne 7, 3) := by decide +kernel
theorem dX7_thoseWho_23 : decode cX7_thoseWho 23 = .ok (.iconst 1, 1) := by decide +kernel
theorem dX7_thoseWho_24 : decode cX7_thoseWho 24 = .ok (.goto 4, 3) := by decide +kernel
theorem dX7_thoseWho_27 : decode cX7_thoseWho 27 = .ok (.iconst 0, 1) := by decide +kernel
theorem dX7_thoseWho_28 : decode cX7_thoseWho 28 = .ok (.iadd, 1) := by decide +kernel
theorem dX7_thoseWho_29 : decode cX7_thoseWho 29 = .ok (.istore_n 2, 1) := by decide +kernel
theorem dX7_thoseWho_30 : decode cX7_thoseWho 30 = .ok (.iinc 3 1, 3) := by decide +kernel
theorem dX7_thoseWho_33 : decode cX7_thoseWho 33 = .ok (.goto (-29), 3) := by decide +kernel
theorem dX7_thoseWho_36 : decode cX7_thoseWho 36 = .ok (.iload_n 2, 1) := by decide +kernel
theorem dX7_thoseWho_37 : decode cX7_thoseWho 37 = .ok (.ireturn, 1) := by decide +kernel
theorem dX7_count_0 : decode cX7_count 0 = .ok (.iload_n 1, 1) := by decide +kernel
theorem dX7_count_1 : decode cX7_count 1 = .ok (.bipush 10, 2) := by decide +kernel
theorem dX7_count_3 : decode cX7_count 3 = .ok (.bipush 16, 2) := by decide +kernel
theorem dX7_count_5 : decode cX7_count 5 = .ok (.invokestatic 97, 3) := by decide +kernel
theorem dX7_count_8 : decode cX7_count 8 = .ok (.ifCond .eq 13, 3) := by decide +kernel
theorem dX7_count_11 : decode cX7_count 11 = .ok (.aload_n 0, 1) := by decide +kernel
theorem dX7_count_12 : decode cX7_count 12 = .ok (.getfield 13, 3) := by decide +kernel
theorem dX7_count_15 : decode cX7_count 15 = .ok (.iload_n 1, 1) := by decide +kernel
theorem dX7_count_16 : decode cX7_count 16 = .ok (.bipush 10, 2) := by decide +kernel
theorem dX7_count_18 : decode cX7_count 18 = .ok (.isub, 1) := by decide +kernel
theorem dX7_count_19 : decode cX7_count 19 = .ok (.iaload, 1) := by decide +kernel
theorem dX7_count_20 : decode cX7_count 20 = .ok (.ireturn, 1) := by decide +kernel
theorem dX7_count_21 : decode cX7_count 21 = .ok (.iload_n 1, 1) := by decide +kernel
theorem dX7_count_22 : decode cX7_count 22 = .ok (.tableswitch 79 0 6 #[42, 47, 52, 57, 63, 69, 74], 42) := by decide +kernel
theorem dX7_count_64 : decode cX7_count 64 = .ok (.aload_n 0, 1) := by decide +kernel
theorem dX7_count_65 : decode cX7_count 65 = .ok (.getfield 133, 3) := by decide +kernel
theorem dX7_count_68 : decode cX7_count 68 = .ok (.ireturn, 1) := by decide +kernel
theorem dX7_count_69 : decode cX7_count 69 = .ok (.aload_n 0, 1) := by decide +kernel
theorem dX7_count_70 : decode cX7_count 70 = .ok (.getfield 120, 3) := by decide +kernel
theorem dX7_count_73 : decode cX7_count 73 = .ok (.ireturn, 1) := by decide +kernel
theorem dX7_count_74 : decode cX7_count 74 = .ok (.aload_n 0, 1) := by decide +kernel
theorem dX7_count_75 : decode cX7_count 75 = .ok (.getfield 123, 3) := by decide +kernel
theorem dX7_count_78 : decode cX7_count 78 = .ok (.ireturn, 1) := by decide +kernel
theorem dX7_count_79 : decode cX7_count 79 = .ok (.aload_n 0, 1) := by decide +kernel
theorem dX7_count_80 : decode cX7_count 80 = .ok (.iconst 1, 1) := by decide +kernel
theorem dX7_count_81 : decode cX7_count 81 = .ok (.invokevirtual 178, 3) := by decide +kernel
theorem dX7_count_84 : decode cX7_count 84 = .ok (.ireturn, 1) := by decide +kernel
theorem dX7_count_85 : decode cX7_count 85 = .ok (.aload_n 0, 1) := by decide +kernel
theorem dX7_count_86 : decode cX7_count 86 = .ok (.iconst 2, 1) := by decide +kernel
theorem dX7_count_87 : decode cX7_count 87 = .ok (.invokevirtual 178, 3) := by decide +kernel
theorem dX7_count_90 : decode cX7_count 90 = .ok (.ireturn, 1) := by decide +kernel
theorem dX7_count_91 : decode cX7_count 91 = .ok (.aload_n 0, 1) := by decide +kernel
theorem dX7_count_92 : decode cX7_count 92 = .ok (.getfield 89, 3) := by decide +kernel
theorem dX7_count_95 : decode cX7_count 95 = .ok (.ireturn, 1) := by decide +kernel
theorem dX7_count_96 : decode cX7_count 96 = .ok (.aload_n 0, 1) := by decide +kernel
theorem dX7_count_97 : decode cX7_count 97 = .ok (.invokevirtual 174, 3) := by decide +kernel
theorem dX7_count_100 : decode cX7_count 100 = .ok (.ireturn, 1) := by decide +kernel
theorem dX7_count_101 : decode cX7_count 101 = .ok (.iconst (-1), 1) := by decide +kernel
theorem dX7_count_102 : decode cX7_count 102 = .ok (.ireturn, 1) := by decide +kernel
