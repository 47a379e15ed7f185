theorem dX7_init_0 : decode cX7_init 0 = .ok (.aload_n 0, 1) := by decide +kernel
theorem dX7_init_1 : decode cX7_init 1 = .ok (.invokespecial 1, 3) := by decide +kernel
theorem dX7_init_4 : decode cX7_init 4 = .ok (.aload_n 0, 1) := by decide +kernel
theorem dX7_init_5 : decode cX7_init 5 = .ok (.bipush 8, 2) := by decide +kernel
theorem dX7_init_7 : decode cX7_init 7 = .ok (.newarray .int, 2) := by decide +kernel
theorem dX7_init_9 : decode cX7_init 9 = .ok (.putfield 7, 3) := by decide +kernel
theorem dX7_init_12 : decode cX7_init 12 = .ok (.aload_n 0, 1) := by decide +kernel
theorem dX7_init_13 : decode cX7_init 13 = .ok (.bipush 8, 2) := by decide +kernel
theorem dX7_init_15 : decode cX7_init 15 = .ok (.newarray .int, 2) := by decide +kernel
theorem dX7_init_17 : decode cX7_init 17 = .ok (.putfield 13, 3) := by decide +kernel
theorem dX7_init_20 : decode cX7_init 20 = .ok (.aload_n 0, 1) := by decide +kernel
theorem dX7_init_21 : decode cX7_init 21 = .ok (.bipush 6, 2) := by decide +kernel
theorem dX7_init_23 : decode cX7_init 23 = .ok (.newarray .int, 2) := by decide +kernel
theorem dX7_init_25 : decode cX7_init 25 = .ok (.putfield 16, 3) := by decide +kernel
theorem dX7_init_28 : decode cX7_init 28 = .ok (.aload_n 0, 1) := by decide +kernel
theorem dX7_init_29 : decode cX7_init 29 = .ok (.bipush 6, 2) := by decide +kernel
theorem dX7_init_31 : decode cX7_init 31 = .ok (.newarray .int, 2) := by decide +kernel
theorem dX7_init_33 : decode cX7_init 33 = .ok (.putfield 19, 3) := by decide +kernel
theorem dX7_init_36 : decode cX7_init 36 = .ok (.aload_n 0, 1) := by decide +kernel
theorem dX7_init_37 : decode cX7_init 37 = .ok (.bipush 24, 2) := by decide +kernel
theorem dX7_init_39 : decode cX7_init 39 = .ok (.newarray .int, 2) := by decide +kernel
theorem dX7_init_41 : decode cX7_init 41 = .ok (.putfield 22, 3) := by decide +kernel
theorem dX7_init_44 : decode cX7_init 44 = .ok (.aload_n 0, 1) := by decide +kernel
theorem dX7_init_45 : decode cX7_init 45 = .ok (.bipush 42, 2) := by decide +kernel
theorem dX7_init_47 : decode cX7_init 47 = .ok (.newarray .int, 2) := by decide +kernel
theorem dX7_init_49 : decode cX7_init 49 = .ok (.putfield 25, 3) := by decide +kernel
theorem dX7_init_52 : decode cX7_init 52 = .ok (.aload_n 0, 1) := by decide +kernel
theorem dX7_init_53 : decode cX7_init 53 = .ok (.sipush 160, 3) := by decide +kernel
theorem dX7_init_56 : decode cX7_init 56 = .ok (.newarray .int, 2) := by decide +kernel
theorem dX7_init_58 : decode cX7_init 58 = .ok (.putfield 28, 3) := by decide +kernel
theorem dX7_init_61 : decode cX7_init 61 = .ok (.aload_n 0, 1) := by decide +kernel
theorem dX7_init_62 : decode cX7_init 62 = .ok (.bipush 24, 2) := by decide +kernel
theorem dX7_init_64 : decode cX7_init 64 = .ok (.newarray .int, 2) := by decide +kernel
theorem dX7_init_66 : decode cX7_init 66 = .ok (.putfield 31, 3) := by decide +kernel
theorem dX7_init_69 : decode cX7_init 69 = .ok (.aload_n 0, 1) := by decide +kernel
theorem dX7_init_70 : decode cX7_init 70 = .ok (.bipush 8, 2) := by decide +kernel
theorem dX7_init_72 : decode cX7_init 72 = .ok (.newarray .int, 2) := by decide +kernel
theorem dX7_init_74 : decode cX7_init 74 = .ok (.putfield 34, 3) := by decide +kernel
theorem dX7_init_77 : decode cX7_init 77 = .ok (.aload_n 0, 1) := by decide +kernel
theorem dX7_init_78 : decode cX7_init 78 = .ok (.bipush 8, 2) := by decide +kernel
theorem dX7_init_80 : decode cX7_init 80 = .ok (.newarray .int, 2) := by decide +kernel
theorem dX7_init_82 : decode cX7_init 82 = .ok (.putfield 37, 3) := by decide +kernel
theorem dX7_init_85 : decode cX7_init 85 = .ok (.aload_n 0, 1) := by decide +kernel
theorem dX7_init_86 : decode cX7_init 86 = .ok (.bipush 6, 2) := by decide +kernel
theorem dX7_init_88 : decode cX7_init 88 = .ok (.newarray .int, 2) := by decide +kernel
theorem dX7_init_90 : decode cX7_init 90 = .ok (.putfield 40, 3) := by decide +kernel
theorem dX7_init_93 : decode cX7_init 93 = .ok (.aload_n 0, 1) := by decide +kernel
theorem dX7_init_94 : decode cX7_init 94 = .ok (.bipush 6, 2) := by decide +kernel
theorem dX7_init_96 : decode cX7_init 96 = .ok (.newarray .int, 2) := by decide +kernel
theorem dX7_init_98 : decode cX7_init 98 = .ok (.putfield 43, 3) := by decide +kernel
theorem dX7_init_101 : decode cX7_init 101 = .ok (.aload_n 0, 1) := by decide +kernel
theorem dX7_init_102 : decode cX7_init 102 = .ok (.sipush 336, 3) := by decide +kernel
theorem dX7_init_105 : decode cX7_init 105 = .ok (.newarray .int, 2) := by decide +kernel
theorem dX7_init_107 : decode cX7_init 107 = .ok (.putfield 46, 3) := by decide +kernel
theorem dX7_init_110 : decode cX7_init 110 = .ok (.aload_n 0, 1) := by decide +kernel
theorem dX7_init_111 : decode cX7_init 111 = .ok (.bipush 8, 2) := by decide +kernel
theorem dX7_init_113 : decode cX7_init 113 = .ok (.newarray .int, 2) := by decide +kernel
theorem dX7_init_115 : decode cX7_init 115 = .ok (.putfield 49, 3) := by decide +kernel
theorem dX7_init_118 : decode cX7_init 118 = .ok (.aload_n 0, 1) := by decide +kernel
theorem dX7_init_119 : decode cX7_init 119 = .ok (.bipush 6, 2) := by decide +kernel
theorem dX7_init_121 : decode cX7_init 121 = .ok (.newarray .int, 2) := by decide +kernel
theorem dX7_init_123 : decode cX7_init 123 = .ok (.putfield 52, 3) := by decide +kernel
theorem dX7_init_126 : decode cX7_init 126 = .ok (.aload_n 0, 1) := by decide +kernel
theorem dX7_init_127 : decode cX7_init 127 = .ok (.iconst 2, 1) := by decide +kernel
theorem dX7_init_128 : decode cX7_init 128 = .ok (.newarray .boolean, 2) := by decide +kernel
theorem dX7_init_130 : decode cX7_init 130 = .ok (.putfield 55, 3) := by decide +kernel
theorem dX7_init_133 : decode cX7_init 133 = .ok (.aload_n 0, 1) := by decide +kernel
theorem dX7_init_134 : decode cX7_init 134 = .ok (.bipush 84, 2) := by decide +kernel
theorem dX7_init_136 : decode cX7_init 136 = .ok (.newarray .int, 2) := by decide +kernel
theorem dX7_init_138 : decode cX7_init 138 = .ok (.putfield 59, 3) := by decide +kernel
theorem dX7_init_141 : decode cX7_init 141 = .ok (.aload_n 0, 1) := by decide +kernel
theorem dX7_init_142 : decode cX7_init 142 = .ok (.bipush 42, 2) := by decide +kernel
theorem dX7_init_144 : decode cX7_init 144 = .ok (.newarray .int, 2) := by decide +kernel
theorem dX7_init_146 : decode cX7_init 146 = .ok (.putfield 62, 3) := by decide +kernel
theorem dX7_init_149 : decode cX7_init 149 = .ok (.aload_n 0, 1) := by decide +kernel
theorem dX7_init_150 : decode cX7_init 150 = .ok (.bipush 6, 2) := by decide +kernel
theorem dX7_init_152 : decode cX7_init 152 = .ok (.newarray .int, 2) := by decide +kernel
theorem dX7_init_154 : decode cX7_init 154 = .ok (.putfield 65, 3) := by decide +kernel
theorem dX7_init_157 : decode cX7_init 157 = .ok (.aload_n 0, 1) := by decide +kernel
theorem dX7_init_158 : decode cX7_init 158 = .ok (.bipush 6, 2) := by decide +kernel
theorem dX7_init_160 : decode cX7_init 160 = .ok (.newarray .int, 2) := by decide +kernel
theorem dX7_init_162 : decode cX7_init 162 = .ok (.putfield 68, 3) := by decide +kernel
theorem dX7_init_165 : decode cX7_init 165 = .ok (.aload_n 0, 1) := by decide +kernel
theorem dX7_init_166 : decode cX7_init 166 = .ok (.sipush 2304, 3) := by decide +kernel
theorem dX7_init_169 : decode cX7_init 169 = .ok (.newarray .int, 2) := by decide +kernel
theorem dX7_init_171 : decode cX7_init 171 = .ok (.putfield 71, 3) := by decide +kernel
theorem dX7_init_174 : decode cX7_init 174 = .ok (.return_, 1) := by decide +kernel
theorem dX7_in_0 : decode cX7_in 0 = .ok (.lload_n 0, 1) := by decide +kernel
theorem dX7_in_1 : decode cX7_in 1 = .ok (.lload_n 2, 1) := by decide +kernel
theorem dX7_in_2 : decode cX7_in 2 = .ok (.lcmp, 1) := by decide +kernel
theorem dX7_in_3 : decode cX7_in 3 = .ok (.ifCond .lt 14, 3) := by decide +kernel
theorem dX7_in_6 : decode cX7_in 6 = .ok (.lload_n 0, 1) := by decide +kernel
theorem dX7_in_7 : decode cX7_in 7 = .ok (.lload 4, 2) := by decide +kernel
theorem dX7_in_9 : decode cX7_in 9 = .ok (.lcmp, 1) := by decide +kernel
theorem dX7_in_10 : decode cX7_in 10 = .ok (.ifCond .gt 7, 3) := by decide +kernel
theorem dX7_in_13 : decode cX7_in 13 = .ok (.iconst 1, 1) := by decide +kernel
theorem dX7_in_14 : decode cX7_in 14 = .ok (.goto 4, 3) := by decide +kernel
theorem dX7_in_17 : decode cX7_in 17 = .ok (.iconst 0, 1) := by decide +kernel
theorem dX7_in_18 : decode cX7_in 18 = .ok (.ireturn, 1) := by decide +kernel
theorem dX7_has_0 : decode cX7_has 0 = .ok (.iload_n 0, 1) := by decide +kernel
theorem dX7_has_1 : decode cX7_has 1 = .ok (.iload_n 1, 1) := by decide +kernel
theorem dX7_has_2 : decode cX7_has 2 = .ok (.ishr, 1) := by decide +kernel
theorem dX7_has_3 : decode cX7_has 3 = .ok (.iconst 1, 1) := by decide +kernel
theorem dX7_has_4 : decode cX7_has 4 = .ok (.iand, 1) := by decide +kernel
theorem dX7_has_5 : decode cX7_has 5 = .ok (.iconst 1, 1) := by decide +kernel
theorem dX7_has_6 : decode cX7_has 6 = .ok (.if_icmp .ne 7, 3) := by decide +kernel
theorem dX7_has_9 : decode cX7_has 9 = .ok (.iconst 1, 1) := by decide +kernel
theorem dX7_has_10 : decode cX7_has 10 = .ok (.goto 4, 3) := by decide +kernel
theorem dX7_has_13 : decode cX7_has 13 = .ok (.iconst 0, 1) := by decide +kernel
theorem dX7_has_14 : decode cX7_has 14 = .ok (.ireturn, 1) := by decide +kernel
theorem dX7_ones_0 : decode cX7_ones 0 = .ok (.iconst 0, 1) := by decide +kernel
theorem dX7_ones_1 : decode cX7_ones 1 = .ok (.istore_n 1, 1) := by decide +kernel
theorem dX7_ones_2 : decode cX7_ones 2 = .ok (.iload_n 0, 1) := by decide +kernel
theorem dX7_ones_3 : decode cX7_ones 3 = .ok (.istore_n 2, 1) := by decide +kernel
theorem dX7_ones_4 : decode cX7_ones 4 = .ok (.iload_n 2, 1) := by decide +kernel
theorem dX7_ones_5 : decode cX7_ones 5 = .ok (.ifCond .eq 15, 3) := by decide +kernel
theorem dX7_ones_8 : decode cX7_ones 8 = .ok (.iinc 1 1, 3) := by decide +kernel
theorem dX7_ones_11 : decode cX7_ones 11 = .ok (.iload_n 2, 1) := by decide +kernel
theorem dX7_ones_12 : decode cX7_ones 12 = .ok (.iload_n 2, 1) := by decide +kernel
theorem dX7_ones_13 : decode cX7_ones 13 = .ok (.iconst 1, 1) := by decide +kernel
theorem dX7_ones_14 : decode cX7_ones 14 = .ok (.isub, 1) := by decide +kernel
theorem dX7_ones_15 : decode cX7_ones 15 = .ok (.iand, 1) := by decide +kernel
theorem dX7_ones_16 : decode cX7_ones 16 = .ok (.istore_n 2, 1) := by decide +kernel
theorem dX7_ones_17 : decode cX7_ones 17 = .ok (.goto (-13), 3) := by decide +kernel
theorem dX7_ones_20 : decode cX7_ones 20 = .ok (.iload_n 1, 1) := by decide +kernel
theorem dX7_ones_21 : decode cX7_ones 21 = .ok (.ireturn, 1) := by decide +kernel
theorem dX7_isThread_0 : decode cX7_isThread 0 = .ok (.iload_n 1, 1) := by decide +kernel
theorem dX7_isThread_1 : decode cX7_isThread 1 = .ok (.i2l, 1) := by decide +kernel
theorem dX7_isThread_2 : decode cX7_isThread 2 = .ok (.lconst 0, 1) := by decide +kernel
theorem dX7_isThread_3 : decode cX7_isThread 3 = .ok (.aload_n 0, 1) := by decide +kernel
theorem dX7_isThread_4 : decode cX7_isThread 4 = .ok (.getfield 74, 3) := by decide +kernel
theorem dX7_isThread_7 : decode cX7_isThread 7 = .ok (.iconst 1, 1) := by decide +kernel
theorem dX7_isThread_8 : decode cX7_isThread 8 = .ok (.isub, 1) := by decide +kernel
theorem dX7_isThread_9 : decode cX7_isThread 9 = .ok (.i2l, 1) := by decide +kernel
theorem dX7_isThread_10 : decode cX7_isThread 10 = .ok (.invokestatic 78, 3) := by decide +kernel
theorem dX7_isThread_13 : decode cX7_isThread 13 = .ok (.ireturn, 1) := by decide +kernel
theorem dX7_write_0 : decode cX7_write 0 = .ok (.iload_n 1, 1) := by decide +kernel
theorem dX7_write_1 : decode cX7_write 1 = .ok (.i2l, 1) := by decide +kernel
theorem dX7_write_2 : decode cX7_write 2 = .ok (.lconst 0, 1) := by decide +kernel
theorem dX7_write_3 : decode cX7_write 3 = .ok (.ldc2_w 82, 3) := by decide +kernel
theorem dX7_write_6 : decode cX7_write 6 = .ok (.invokestatic 78, 3) := by decide +kernel
theorem dX7_write_9 : decode cX7_write 9 = .ok (.ifCond .ne 6, 3) := by decide +kernel
theorem dX7_write_12 : decode cX7_write 12 = .ok (.bipush (-3), 2) := by decide +kernel
theorem dX7_write_14 : decode cX7_write 14 = .ok (.ireturn, 1) := by decide +kernel
theorem dX7_write_15 : decode cX7_write 15 = .ok (.aload_n 0, 1) := by decide +kernel
theorem dX7_write_16 : decode cX7_write 16 = .ok (.getfield 84, 3) := by decide +kernel
theorem dX7_write_19 : decode cX7_write 19 = .ok (.sipush 160, 3) := by decide +kernel
theorem dX7_write_22 : decode cX7_write 22 = .ok (.if_icmp .ne 6, 3) := by decide +kernel
theorem dX7_write_25 : decode cX7_write 25 = .ok (.bipush (-5), 2) := by decide +kernel
theorem dX7_write_27 : decode cX7_write 27 = .ok (.ireturn, 1) := by decide +kernel
theorem dX7_write_28 : decode cX7_write 28 = .ok (.aload_n 0, 1) := by decide +kernel
theorem dX7_write_29 : decode cX7_write 29 = .ok (.getfield 28, 3) := by decide +kernel
theorem dX7_write_32 : decode cX7_write 32 = .ok (.aload_n 0, 1) := by decide +kernel
theorem dX7_write_33 : decode cX7_write 33 = .ok (.getfield 84, 3) := by decide +kernel
theorem dX7_write_36 : decode cX7_write 36 = .ok (.iload_n 1, 1) := by decide +kernel
theorem dX7_write_37 : decode cX7_write 37 = .ok (.iastore, 1) := by decide +kernel
theorem dX7_write_38 : decode cX7_write 38 = .ok (.aload_n 0, 1) := by decide +kernel
theorem dX7_write_39 : decode cX7_write 39 = .ok (.dup, 1) := by decide +kernel
theorem dX7_write_40 : decode cX7_write 40 = .ok (.getfield 84, 3) := by decide +kernel
theorem dX7_write_43 : decode cX7_write 43 = .ok (.iconst 1, 1) := by decide +kernel
theorem dX7_write_44 : decode cX7_write 44 = .ok (.iadd, 1) := by decide +kernel
theorem dX7_write_45 : decode cX7_write 45 = .ok (.putfield 84, 3) := by decide +kernel
theorem dX7_write_48 : decode cX7_write 48 = .ok (.aload_n 0, 1) := by decide +kernel
theorem dX7_write_49 : decode cX7_write 49 = .ok (.getfield 84, 3) := by decide +kernel
theorem dX7_write_52 : decode cX7_write 52 = .ok (.ireturn, 1) := by decide +kernel
theorem dX7_erase_0 : decode cX7_erase 0 = .ok (.aload_n 0, 1) := by decide +kernel
theorem dX7_erase_1 : decode cX7_erase 1 = .ok (.getfield 84, 3) := by decide +kernel
theorem dX7_erase_4 : decode cX7_erase 4 = .ok (.istore_n 1, 1) := by decide +kernel
theorem dX7_erase_5 : decode cX7_erase 5 = .ok (.aload_n 0, 1) := by decide +kernel
theorem dX7_erase_6 : decode cX7_erase 6 = .ok (.iconst 0, 1) := by decide +kernel
theorem dX7_erase_7 : decode cX7_erase 7 = .ok (.putfield 84, 3) := by decide +kernel
theorem dX7_erase_10 : decode cX7_erase 10 = .ok (.iload_n 1, 1) := by decide +kernel
theorem dX7_erase_11 : decode cX7_erase 11 = .ok (.ireturn, 1) := by decide +kernel
theorem dX7_letterAt_0 : decode cX7_letterAt 0 = .ok (.iload_n 1, 1) := by decide +kernel
theorem dX7_letterAt_1 : decode cX7_letterAt 1 = .ok (.aload_n 0, 1) := by decide +kernel
theorem dX7_letterAt_2 : decode cX7_letterAt 2 = .ok (.getfield 84, 3) := by decide +kernel
theorem dX7_letterAt_5 : decode cX7_letterAt 5 = .ok (.if_icmp .ge 12, 3) := by decide +kernel
theorem dX7_letterAt_8 : decode cX7_letterAt 8 = .ok (.aload_n 0, 1) := by decide +kernel
theorem dX7_letterAt_9 : decode cX7_letterAt 9 = .ok (.getfield 28, 3) := by decide +kernel
theorem dX7_letterAt_12 : decode cX7_letterAt 12 = .ok (.iload_n 1, 1) := by decide +kernel
theorem dX7_letterAt_13 : decode cX7_letterAt 13 = .ok (.iaload, 1) := by decide +kernel
theorem dX7_letterAt_14 : decode cX7_letterAt 14 = .ok (.goto 4, 3) := by decide +kernel
theorem dX7_letterAt_17 : decode cX7_letterAt 17 = .ok (.iconst 0, 1) := by decide +kernel
theorem dX7_letterAt_18 : decode cX7_letterAt 18 = .ok (.ireturn, 1) := by decide +kernel
theorem dX7_nextToken_0 : decode cX7_nextToken 0 = .ok (.aload_n 0, 1) := by decide +kernel
theorem dX7_nextToken_1 : decode cX7_nextToken 1 = .ok (.aload_n 0, 1) := by decide +kernel
theorem dX7_nextToken_2 : decode cX7_nextToken 2 = .ok (.getfield 87, 3) := by decide +kernel
theorem dX7_nextToken_5 : decode cX7_nextToken 5 = .ok (.invokevirtual 90, 3) := by decide +kernel
theorem dX7_nextToken_8 : decode cX7_nextToken 8 = .ok (.bipush 32, 2) := by decide +kernel
theorem dX7_nextToken_10 : decode cX7_nextToken 10 = .ok (.if_icmp .ne 16, 3) := by decide +kernel
theorem dX7_nextToken_13 : decode cX7_nextToken 13 = .ok (.aload_n 0, 1) := by decide +kernel
theorem dX7_nextToken_14 : decode cX7_nextToken 14 = .ok (.dup, 1) := by decide +kernel
theorem dX7_nextToken_15 : decode cX7_nextToken 15 = .ok (.getfield 87, 3) := by decide +kernel
theorem dX7_nextToken_18 : decode cX7_nextToken 18 = .ok (.iconst 1, 1) := by decide +kernel
theorem dX7_nextToken_19 : decode cX7_nextToken 19 = .ok (.iadd, 1) := by decide +kernel
theorem dX7_nextToken_20 : decode cX7_nextToken 20 = .ok (.putfield 87, 3) := by decide +kernel
theorem dX7_nextToken_23 : decode cX7_nextToken 23 = .ok (.goto (-23), 3) := by decide +kernel
theorem dX7_nextToken_26 : decode cX7_nextToken 26 = .ok (.aload_n 0, 1) := by decide +kernel
theorem dX7_nextToken_27 : decode cX7_nextToken 27 = .ok (.aload_n 0, 1) := by decide +kernel
theorem dX7_nextToken_28 : decode cX7_nextToken 28 = .ok (.getfield 87, 3) := by decide +kernel
theorem dX7_nextToken_31 : decode cX7_nextToken 31 = .ok (.putfield 94, 3) := by decide +kernel
theorem dX7_nextToken_34 : decode cX7_nextToken 34 = .ok (.aload_n 0, 1) := by decide +kernel
theorem dX7_nextToken_35 : decode cX7_nextToken 35 = .ok (.iconst 0, 1) := by decide +kernel
theorem dX7_nextToken_36 : decode cX7_nextToken 36 = .ok (.putfield 97, 3) := by decide +kernel
theorem dX7_nextToken_39 : decode cX7_nextToken 39 = .ok (.aload_n 0, 1) := by decide +kernel
theorem dX7_nextToken_40 : decode cX7_nextToken 40 = .ok (.aload_n 0, 1) := by decide +kernel
theorem dX7_nextToken_41 : decode cX7_nextToken 41 = .ok (.getfield 87, 3) := by decide +kernel
theorem dX7_nextToken_44 : decode cX7_nextToken 44 = .ok (.aload_n 0, 1) := by decide +kernel
theorem dX7_nextToken_45 : decode cX7_nextToken 45 = .ok (.getfield 84, 3) := by decide +kernel
theorem dX7_nextToken_48 : decode cX7_nextToken 48 = .ok (.if_icmp .ne 7, 3) := by decide +kernel
theorem dX7_nextToken_51 : decode cX7_nextToken 51 = .ok (.iconst 3, 1) := by decide +kernel
theorem dX7_nextToken_52 : decode cX7_nextToken 52 = .ok (.goto 4, 3) := by decide +kernel
theorem dX7_nextToken_55 : decode cX7_nextToken 55 = .ok (.iconst 0, 1) := by decide +kernel
theorem dX7_nextToken_56 : decode cX7_nextToken 56 = .ok (.putfield 100, 3) := by decide +kernel
theorem dX7_nextToken_59 : decode cX7_nextToken 59 = .ok (.aload_n 0, 1) := by decide +kernel
theorem dX7_nextToken_60 : decode cX7_nextToken 60 = .ok (.getfield 100, 3) := by decide +kernel
theorem dX7_nextToken_63 : decode cX7_nextToken 63 = .ok (.iconst 2, 1) := by decide +kernel
theorem dX7_nextToken_64 : decode cX7_nextToken 64 = .ok (.if_icmp .ge 42, 3) := by decide +kernel
theorem dX7_nextToken_67 : decode cX7_nextToken 67 = .ok (.aload_n 0, 1) := by decide +kernel
theorem dX7_nextToken_68 : decode cX7_nextToken 68 = .ok (.aload_n 0, 1) := by decide +kernel
theorem dX7_nextToken_69 : decode cX7_nextToken 69 = .ok (.getfield 87, 3) := by decide +kernel
theorem dX7_nextToken_72 : decode cX7_nextToken 72 = .ok (.invokevirtual 90, 3) := by decide +kernel
theorem dX7_nextToken_75 : decode cX7_nextToken 75 = .ok (.i2l, 1) := by decide +kernel
theorem dX7_nextToken_76 : decode cX7_nextToken 76 = .ok (.ldc2_w 103, 3) := by decide +kernel
theorem dX7_nextToken_79 : decode cX7_nextToken 79 = .ok (.ldc2_w 105, 3) := by decide +kernel
theorem dX7_nextToken_82 : decode cX7_nextToken 82 = .ok (.invokestatic 78, 3) := by decide +kernel
theorem dX7_nextToken_85 : decode cX7_nextToken 85 = .ok (.ifCond .eq 21, 3) := by decide +kernel
theorem dX7_nextToken_88 : decode cX7_nextToken 88 = .ok (.aload_n 0, 1) := by decide +kernel
theorem dX7_nextToken_89 : decode cX7_nextToken 89 = .ok (.iconst 1, 1) := by decide +kernel
theorem dX7_nextToken_90 : decode cX7_nextToken 90 = .ok (.putfield 100, 3) := by decide +kernel
theorem dX7_nextToken_93 : decode cX7_nextToken 93 = .ok (.aload_n 0, 1) := by decide +kernel
theorem dX7_nextToken_94 : decode cX7_nextToken 94 = .ok (.dup, 1) := by decide +kernel
theorem dX7_nextToken_95 : decode cX7_nextToken 95 = .ok (.getfield 87, 3) := by decide +kernel
theorem dX7_nextToken_98 : decode cX7_nextToken 98 = .ok (.iconst 1, 1) := by decide +kernel
theorem dX7_nextToken_99 : decode cX7_nextToken 99 = .ok (.iadd, 1) := by decide +kernel
theorem dX7_nextToken_100 : decode cX7_nextToken 100 = .ok (.putfield 87, 3) := by decide +kernel
theorem dX7_nextToken_103 : decode cX7_nextToken 103 = .ok (.goto (-44), 3) := by decide +kernel
theorem dX7_nextToken_106 : decode cX7_nextToken 106 = .ok (.aload_n 0, 1) := by decide +kernel
theorem dX7_nextToken_107 : decode cX7_nextToken 107 = .ok (.getfield 100, 3) := by decide +kernel
theorem dX7_nextToken_110 : decode cX7_nextToken 110 = .ok (.iconst 1, 1) := by decide +kernel
theorem dX7_nextToken_111 : decode cX7_nextToken 111 = .ok (.if_icmp .eq 82, 3) := by decide +kernel
theorem dX7_nextToken_114 : decode cX7_nextToken 114 = .ok (.aload_n 0, 1) := by decide +kernel
theorem dX7_nextToken_115 : decode cX7_nextToken 115 = .ok (.aload_n 0, 1) := by decide +kernel
theorem dX7_nextToken_116 : decode cX7_nextToken 116 = .ok (.getfield 87, 3) := by decide +kernel
theorem dX7_nextToken_119 : decode cX7_nextToken 119 = .ok (.invokevirtual 90, 3) := by decide +kernel
theorem dX7_nextToken_122 : decode cX7_nextToken 122 = .ok (.i2l, 1) := by decide +kernel
theorem dX7_nextToken_123 : decode cX7_nextToken 123 = .ok (.ldc2_w 107, 3) := by decide +kernel
theorem dX7_nextToken_126 : decode cX7_nextToken 126 = .ok (.ldc2_w 109, 3) := by decide +kernel
theorem dX7_nextToken_129 : decode cX7_nextToken 129 = .ok (.invokestatic 78, 3) := by decide +kernel
theorem dX7_nextToken_132 : decode cX7_nextToken 132 = .ok (.ifCond .eq 61, 3) := by decide +kernel
theorem dX7_nextToken_135 : decode cX7_nextToken 135 = .ok (.aload_n 0, 1) := by decide +kernel
theorem dX7_nextToken_136 : decode cX7_nextToken 136 = .ok (.aload_n 0, 1) := by decide +kernel
theorem dX7_nextToken_137 : decode cX7_nextToken 137 = .ok (.getfield 97, 3) := by decide +kernel
theorem dX7_nextToken_140 : decode cX7_nextToken 140 = .ok (.bipush 99, 2) := by decide +kernel
theorem dX7_nextToken_142 : decode cX7_nextToken 142 = .ok (.if_icmp .le 10, 3) := by decide +kernel
theorem dX7_nextToken_145 : decode cX7_nextToken 145 = .ok (.aload_n 0, 1) := by decide +kernel
theorem dX7_nextToken_146 : decode cX7_nextToken 146 = .ok (.getfield 97, 3) := by decide +kernel
theorem dX7_nextToken_149 : decode cX7_nextToken 149 = .ok (.goto 23, 3) := by decide +kernel
theorem dX7_nextToken_152 : decode cX7_nextToken 152 = .ok (.bipush 10, 2) := by decide +kernel
theorem dX7_nextToken_154 : decode cX7_nextToken 154 = .ok (.aload_n 0, 1) := by decide +kernel
theorem dX7_nextToken_155 : decode cX7_nextToken 155 = .ok (.getfield 97, 3) := by decide +kernel
theorem dX7_nextToken_158 : decode cX7_nextToken 158 = .ok (.imul, 1) := by decide +kernel
theorem dX7_nextToken_159 : decode cX7_nextToken 159 = .ok (.aload_n 0, 1) := by decide +kernel
theorem dX7_nextToken_160 : decode cX7_nextToken 160 = .ok (.getfield 28, 3) := by decide +kernel
theorem dX7_nextToken_163 : decode cX7_nextToken 163 = .ok (.aload_n 0, 1) := by decide +kernel
theorem dX7_nextToken_164 : decode cX7_nextToken 164 = .ok (.getfield 87, 3) := by decide +kernel
theorem dX7_nextToken_167 : decode cX7_nextToken 167 = .ok (.iaload, 1) := by decide +kernel
theorem dX7_nextToken_168 : decode cX7_nextToken 168 = .ok (.iadd, 1) := by decide +kernel
theorem dX7_nextToken_169 : decode cX7_nextToken 169 = .ok (.bipush 48, 2) := by decide +kernel
theorem dX7_nextToken_171 : decode cX7_nextToken 171 = .ok (.isub, 1) := by decide +kernel
theorem dX7_nextToken_172 : decode cX7_nextToken 172 = .ok (.putfield 97, 3) := by decide +kernel
theorem dX7_nextToken_175 : decode cX7_nextToken 175 = .ok (.aload_n 0, 1) := by decide +kernel
theorem dX7_nextToken_176 : decode cX7_nextToken 176 = .ok (.iconst 2, 1) := by decide +kernel
theorem dX7_nextToken_177 : decode cX7_nextToken 177 = .ok (.putfield 100, 3) := by decide +kernel
theorem dX7_nextToken_180 : decode cX7_nextToken 180 = .ok (.aload_n 0, 1) := by decide +kernel
theorem dX7_nextToken_181 : decode cX7_nextToken 181 = .ok (.dup, 1) := by decide +kernel
theorem dX7_nextToken_182 : decode cX7_nextToken 182 = .ok (.getfield 87, 3) := by decide +kernel
theorem dX7_nextToken_185 : decode cX7_nextToken 185 = .ok (.iconst 1, 1) := by decide +kernel
theorem dX7_nextToken_186 : decode cX7_nextToken 186 = .ok (.iadd, 1) := by decide +kernel
theorem dX7_nextToken_187 : decode cX7_nextToken 187 = .ok (.putfield 87, 3) := by decide +kernel
theorem dX7_nextToken_190 : decode cX7_nextToken 190 = .ok (.goto (-84), 3) := by decide +kernel
theorem dX7_nextToken_193 : decode cX7_nextToken 193 = .ok (.aload_n 0, 1) := by decide +kernel
theorem dX7_nextToken_194 : decode cX7_nextToken 194 = .ok (.getfield 100, 3) := by decide +kernel
theorem dX7_nextToken_197 : decode cX7_nextToken 197 = .ok (.iconst 2, 1) := by decide +kernel
theorem dX7_nextToken_198 : decode cX7_nextToken 198 = .ok (.if_icmp .ne 23, 3) := by decide +kernel
theorem dX7_nextToken_201 : decode cX7_nextToken 201 = .ok (.aload_n 0, 1) := by decide +kernel
theorem dX7_nextToken_202 : decode cX7_nextToken 202 = .ok (.getfield 87, 3) := by decide +kernel
theorem dX7_nextToken_205 : decode cX7_nextToken 205 = .ok (.aload_n 0, 1) := by decide +kernel
theorem dX7_nextToken_206 : decode cX7_nextToken 206 = .ok (.getfield 94, 3) := by decide +kernel
theorem dX7_nextToken_209 : decode cX7_nextToken 209 = .ok (.isub, 1) := by decide +kernel
theorem dX7_nextToken_210 : decode cX7_nextToken 210 = .ok (.iconst 2, 1) := by decide +kernel
theorem dX7_nextToken_211 : decode cX7_nextToken 211 = .ok (.if_icmp .le 10, 3) := by decide +kernel
theorem dX7_nextToken_214 : decode cX7_nextToken 214 = .ok (.aload_n 0, 1) := by decide +kernel
theorem dX7_nextToken_215 : decode cX7_nextToken 215 = .ok (.sipush 999, 3) := by decide +kernel
theorem dX7_nextToken_218 : decode cX7_nextToken 218 = .ok (.putfield 97, 3) := by decide +kernel
theorem dX7_nextToken_221 : decode cX7_nextToken 221 = .ok (.aload_n 0, 1) := by decide +kernel
theorem dX7_nextToken_222 : decode cX7_nextToken 222 = .ok (.getfield 100, 3) := by decide +kernel
theorem dX7_nextToken_225 : decode cX7_nextToken 225 = .ok (.ifCond .ne 26, 3) := by decide +kernel
theorem dX7_nextToken_228 : decode cX7_nextToken 228 = .ok (.aload_n 0, 1) := by decide +kernel
theorem dX7_nextToken_229 : decode cX7_nextToken 229 = .ok (.aload_n 0, 1) := by decide +kernel
theorem dX7_nextToken_230 : decode cX7_nextToken 230 = .ok (.getfield 28, 3) := by decide +kernel
theorem dX7_nextToken_233 : decode cX7_nextToken 233 = .ok (.aload_n 0, 1) := by decide +kernel
theorem dX7_nextToken_234 : decode cX7_nextToken 234 = .ok (.getfield 87, 3) := by decide +kernel
theorem dX7_nextToken_237 : decode cX7_nextToken 237 = .ok (.iaload, 1) := by decide +kernel
theorem dX7_nextToken_238 : decode cX7_nextToken 238 = .ok (.putfield 97, 3) := by decide +kernel
theorem dX7_nextToken_241 : decode cX7_nextToken 241 = .ok (.aload_n 0, 1) := by decide +kernel
theorem dX7_nextToken_242 : decode cX7_nextToken 242 = .ok (.dup, 1) := by decide +kernel
theorem dX7_nextToken_243 : decode cX7_nextToken 243 = .ok (.getfield 87, 3) := by decide +kernel
theorem dX7_nextToken_246 : decode cX7_nextToken 246 = .ok (.iconst 1, 1) := by decide +kernel
theorem dX7_nextToken_247 : decode cX7_nextToken 247 = .ok (.iadd, 1) := by decide +kernel
theorem dX7_nextToken_248 : decode cX7_nextToken 248 = .ok (.putfield 87, 3) := by decide +kernel
theorem dX7_nextToken_251 : decode cX7_nextToken 251 = .ok (.return_, 1) := by decide +kernel
theorem dX7_wordOf_0 : decode cX7_wordOf 0 = .ok (.lconst 0, 1) := by decide +kernel
theorem dX7_wordOf_1 : decode cX7_wordOf 1 = .ok (.lstore_n 1, 1) := by decide +kernel
theorem dX7_wordOf_2 : decode cX7_wordOf 2 = .ok (.aload_n 0, 1) := by decide +kernel
theorem dX7_wordOf_3 : decode cX7_wordOf 3 = .ok (.getfield 94, 3) := by decide +kernel
theorem dX7_wordOf_6 : decode cX7_wordOf 6 = .ok (.istore_n 3, 1) := by decide +kernel
theorem dX7_wordOf_7 : decode cX7_wordOf 7 = .ok (.iload_n 3, 1) := by decide +kernel
theorem dX7_wordOf_8 : decode cX7_wordOf 8 = .ok (.aload_n 0, 1) := by decide +kernel
theorem dX7_wordOf_9 : decode cX7_wordOf 9 = .ok (.getfield 87, 3) := by decide +kernel
theorem dX7_wordOf_12 : decode cX7_wordOf 12 = .ok (.if_icmp .ge 40, 3) := by decide +kernel
theorem dX7_wordOf_15 : decode cX7_wordOf 15 = .ok (.iload_n 3, 1) := by decide +kernel
theorem dX7_wordOf_16 : decode cX7_wordOf 16 = .ok (.aload_n 0, 1) := by decide +kernel
theorem dX7_wordOf_17 : decode cX7_wordOf 17 = .ok (.getfield 94, 3) := by decide +kernel
theorem dX7_wordOf_20 : decode cX7_wordOf 20 = .ok (.bipush 9, 2) := by decide +kernel
theorem dX7_wordOf_22 : decode cX7_wordOf 22 = .ok (.iadd, 1) := by decide +kernel
theorem dX7_wordOf_23 : decode cX7_wordOf 23 = .ok (.if_icmp .ge 29, 3) := by decide +kernel
theorem dX7_wordOf_26 : decode cX7_wordOf 26 = .ok (.ldc2_w 111, 3) := by decide +kernel
theorem dX7_wordOf_29 : decode cX7_wordOf 29 = .ok (.lload_n 1, 1) := by decide +kernel
theorem dX7_wordOf_30 : decode cX7_wordOf 30 = .ok (.lmul, 1) := by decide +kernel
theorem dX7_wordOf_31 : decode cX7_wordOf 31 = .ok (.aload_n 0, 1) := by decide +kernel
theorem dX7_wordOf_32 : decode cX7_wordOf 32 = .ok (.getfield 28, 3) := by decide +kernel
theorem dX7_wordOf_35 : decode cX7_wordOf 35 = .ok (.iload_n 3, 1) := by decide +kernel
theorem dX7_wordOf_36 : decode cX7_wordOf 36 = .ok (.iaload, 1) := by decide +kernel
theorem dX7_wordOf_37 : decode cX7_wordOf 37 = .ok (.i2l, 1) := by decide +kernel
theorem dX7_wordOf_38 : decode cX7_wordOf 38 = .ok (.ladd, 1) := by decide +kernel
theorem dX7_wordOf_39 : decode cX7_wordOf 39 = .ok (.ldc2_w 103, 3) := by decide +kernel
theorem dX7_wordOf_42 : decode cX7_wordOf 42 = .ok (.lsub, 1) := by decide +kernel
theorem dX7_wordOf_43 : decode cX7_wordOf 43 = .ok (.lconst 1, 1) := by decide +kernel
theorem dX7_wordOf_44 : decode cX7_wordOf 44 = .ok (.ladd, 1) := by decide +kernel
theorem dX7_wordOf_45 : decode cX7_wordOf 45 = .ok (.lstore_n 1, 1) := by decide +kernel
theorem dX7_wordOf_46 : decode cX7_wordOf 46 = .ok (.iinc 3 1, 3) := by decide +kernel
theorem dX7_wordOf_49 : decode cX7_wordOf 49 = .ok (.goto (-42), 3) := by decide +kernel
theorem dX7_wordOf_52 : decode cX7_wordOf 52 = .ok (.aload_n 0, 1) := by decide +kernel
theorem dX7_wordOf_53 : decode cX7_wordOf 53 = .ok (.getfield 100, 3) := by decide +kernel
theorem dX7_wordOf_56 : decode cX7_wordOf 56 = .ok (.iconst 1, 1) := by decide +kernel
theorem dX7_wordOf_57 : decode cX7_wordOf 57 = .ok (.if_icmp .ne 7, 3) := by decide +kernel
theorem dX7_wordOf_60 : decode cX7_wordOf 60 = .ok (.lload_n 1, 1) := by decide +kernel
theorem dX7_wordOf_61 : decode cX7_wordOf 61 = .ok (.goto 4, 3) := by decide +kernel
theorem dX7_wordOf_64 : decode cX7_wordOf 64 = .ok (.lconst 0, 1) := by decide +kernel
theorem dX7_wordOf_65 : decode cX7_wordOf 65 = .ok (.lreturn, 1) := by decide +kernel
theorem dX7_spelt_0 : decode cX7_spelt 0 = .ok (.lconst 0, 1) := by decide +kernel
theorem dX7_spelt_1 : decode cX7_spelt 1 = .ok (.lstore 7, 2) := by decide +kernel
theorem dX7_spelt_3 : decode cX7_spelt 3 = .ok (.lload 7, 2) := by decide +kernel
theorem dX7_spelt_5 : decode cX7_spelt 5 = .ok (.ldc2_w 111, 3) := by decide +kernel
theorem dX7_spelt_8 : decode cX7_spelt 8 = .ok (.lmul, 1) := by decide +kernel
theorem dX7_spelt_9 : decode cX7_spelt 9 = .ok (.iload_n 0, 1) := by decide +kernel
theorem dX7_spelt_10 : decode cX7_spelt 10 = .ok (.ifCond .ne 7, 3) := by decide +kernel
theorem dX7_spelt_13 : decode cX7_spelt 13 = .ok (.iconst 0, 1) := by decide +kernel
theorem dX7_spelt_14 : decode cX7_spelt 14 = .ok (.goto 9, 3) := by decide +kernel
theorem dX7_spelt_17 : decode cX7_spelt 17 = .ok (.iload_n 0, 1) := by decide +kernel
theorem dX7_spelt_18 : decode cX7_spelt 18 = .ok (.bipush 97, 2) := by decide +kernel
theorem dX7_spelt_20 : decode cX7_spelt 20 = .ok (.isub, 1) := by decide +kernel
theorem dX7_spelt_21 : decode cX7_spelt 21 = .ok (.iconst 1, 1) := by decide +kernel
theorem dX7_spelt_22 : decode cX7_spelt 22 = .ok (.iadd, 1) := by decide +kernel
theorem dX7_spelt_23 : decode cX7_spelt 23 = .ok (.i2l, 1) := by decide +kernel
theorem dX7_spelt_24 : decode cX7_spelt 24 = .ok (.ladd, 1) := by decide +kernel
theorem dX7_spelt_25 : decode cX7_spelt 25 = .ok (.lstore 7, 2) := by decide +kernel
theorem dX7_spelt_27 : decode cX7_spelt 27 = .ok (.iload_n 1, 1) := by decide +kernel
theorem dX7_spelt_28 : decode cX7_spelt 28 = .ok (.ifCond .ne 8, 3) := by decide +kernel
theorem dX7_spelt_31 : decode cX7_spelt 31 = .ok (.lload 7, 2) := by decide +kernel
theorem dX7_spelt_33 : decode cX7_spelt 33 = .ok (.goto 18, 3) := by decide +kernel
theorem dX7_spelt_36 : decode cX7_spelt 36 = .ok (.lload 7, 2) := by decide +kernel
theorem dX7_spelt_38 : decode cX7_spelt 38 = .ok (.ldc2_w 111, 3) := by decide +kernel
theorem dX7_spelt_41 : decode cX7_spelt 41 = .ok (.lmul, 1) := by decide +kernel
theorem dX7_spelt_42 : decode cX7_spelt 42 = .ok (.iload_n 1, 1) := by decide +kernel
theorem dX7_spelt_43 : decode cX7_spelt 43 = .ok (.i2l, 1) := by decide +kernel
theorem dX7_spelt_44 : decode cX7_spelt 44 = .ok (.ladd, 1) := by decide +kernel
theorem dX7_spelt_45 : decode cX7_spelt 45 = .ok (.ldc2_w 103, 3) := by decide +kernel
theorem dX7_spelt_48 : decode cX7_spelt 48 = .ok (.lsub, 1) := by decide +kernel
theorem dX7_spelt_49 : decode cX7_spelt 49 = .ok (.lconst 1, 1) := by decide +kernel
theorem dX7_spelt_50 : decode cX7_spelt 50 = .ok (.ladd, 1) := by decide +kernel
theorem dX7_spelt_51 : decode cX7_spelt 51 = .ok (.lstore 7, 2) := by decide +kernel
theorem dX7_spelt_53 : decode cX7_spelt 53 = .ok (.iload_n 2, 1) := by decide +kernel
theorem dX7_spelt_54 : decode cX7_spelt 54 = .ok (.ifCond .ne 8, 3) := by decide +kernel
theorem dX7_spelt_57 : decode cX7_spelt 57 = .ok (.lload 7, 2) := by decide +kernel
theorem dX7_spelt_59 : decode cX7_spelt 59 = .ok (.goto 18, 3) := by decide +kernel
theorem dX7_spelt_62 : decode cX7_spelt 62 = .ok (.lload 7, 2) := by decide +kernel
theorem dX7_spelt_64 : decode cX7_spelt 64 = .ok (.ldc2_w 111, 3) := by decide +kernel
theorem dX7_spelt_67 : decode cX7_spelt 67 = .ok (.lmul, 1) := by decide +kernel
theorem dX7_spelt_68 : decode cX7_spelt 68 = .ok (.iload_n 2, 1) := by decide +kernel
theorem dX7_spelt_69 : decode cX7_spelt 69 = .ok (.i2l, 1) := by decide +kernel
theorem dX7_spelt_70 : decode cX7_spelt 70 = .ok (.ladd, 1) := by decide +kernel
theorem dX7_spelt_71 : decode cX7_spelt 71 = .ok (.ldc2_w 103, 3) := by decide +kernel
theorem dX7_spelt_74 : decode cX7_spelt 74 = .ok (.lsub, 1) := by decide +kernel
theorem dX7_spelt_75 : decode cX7_spelt 75 = .ok (.lconst 1, 1) := by decide +kernel
theorem dX7_spelt_76 : decode cX7_spelt 76 = .ok (.ladd, 1) := by decide +kernel
theorem dX7_spelt_77 : decode cX7_spelt 77 = .ok (.lstore 7, 2) := by decide +kernel
theorem dX7_spelt_79 : decode cX7_spelt 79 = .ok (.iload_n 3, 1) := by decide +kernel
theorem dX7_spelt_80 : decode cX7_spelt 80 = .ok (.ifCond .ne 8, 3) := by decide +kernel
theorem dX7_spelt_83 : decode cX7_spelt 83 = .ok (.lload 7, 2) := by decide +kernel
theorem dX7_spelt_85 : decode cX7_spelt 85 = .ok (.goto 18, 3) := by decide +kernel
theorem dX7_spelt_88 : decode cX7_spelt 88 = .ok (.lload 7, 2) := by decide +kernel
theorem dX7_spelt_90 : decode cX7_spelt 90 = .ok (.ldc2_w 111, 3) := by decide +kernel
theorem dX7_spelt_93 : decode cX7_spelt 93 = .ok (.lmul, 1) := by decide +kernel
theorem dX7_spelt_94 : decode cX7_spelt 94 = .ok (.iload_n 3, 1) := by decide +kernel
theorem dX7_spelt_95 : decode cX7_spelt 95 = .ok (.i2l, 1) := by decide +kernel
theorem dX7_spelt_96 : decode cX7_spelt 96 = .ok (.ladd, 1) := by decide +kernel
theorem dX7_spelt_97 : decode cX7_spelt 97 = .ok (.ldc2_w 103, 3) := by decide +kernel
theorem dX7_spelt_100 : decode cX7_spelt 100 = .ok (.lsub, 1) := by decide +kernel
theorem dX7_spelt_101 : decode cX7_spelt 101 = .ok (.lconst 1, 1) := by decide +kernel
theorem dX7_spelt_102 : decode cX7_spelt 102 = .ok (.ladd, 1) := by decide +kernel
theorem dX7_spelt_103 : decode cX7_spelt 103 = .ok (.lstore 7, 2) := by decide +kernel
theorem dX7_spelt_105 : decode cX7_spelt 105 = .ok (.iload 4, 2) := by decide +kernel
theorem dX7_spelt_107 : decode cX7_spelt 107 = .ok (.ifCond .ne 8, 3) := by decide +kernel
theorem dX7_spelt_110 : decode cX7_spelt 110 = .ok (.lload 7, 2) := by decide +kernel
theorem dX7_spelt_112 : decode cX7_spelt 112 = .ok (.goto 19, 3) := by decide +kernel
theorem dX7_spelt_115 : decode cX7_spelt 115 = .ok (.lload 7, 2) := by decide +kernel
theorem dX7_spelt_117 : decode cX7_spelt 117 = .ok (.ldc2_w 111, 3) := by decide +kernel
theorem dX7_spelt_120 : decode cX7_spelt 120 = .ok (.lmul, 1) := by decide +kernel
theorem dX7_spelt_121 : decode cX7_spelt 121 = .ok (.iload 4, 2) := by decide +kernel
theorem dX7_spelt_123 : decode cX7_spelt 123 = .ok (.i2l, 1) := by decide +kernel
theorem dX7_spelt_124 : decode cX7_spelt 124 = .ok (.ladd, 1) := by decide +kernel
theorem dX7_spelt_125 : decode cX7_spelt 125 = .ok (.ldc2_w 103, 3) := by decide +kernel
theorem dX7_spelt_128 : decode cX7_spelt 128 = .ok (.lsub, 1) := by decide +kernel
theorem dX7_spelt_129 : decode cX7_spelt 129 = .ok (.lconst 1, 1) := by decide +kernel
theorem dX7_spelt_130 : decode cX7_spelt 130 = .ok (.ladd, 1) := by decide +kernel
theorem dX7_spelt_131 : decode cX7_spelt 131 = .ok (.lstore 7, 2) := by decide +kernel
theorem dX7_spelt_133 : decode cX7_spelt 133 = .ok (.iload 5, 2) := by decide +kernel
theorem dX7_spelt_135 : decode cX7_spelt 135 = .ok (.ifCond .ne 8, 3) := by decide +kernel
theorem dX7_spelt_138 : decode cX7_spelt 138 = .ok (.lload 7, 2) := by decide +kernel
theorem dX7_spelt_140 : decode cX7_spelt 140 = .ok (.goto 19, 3) := by decide +kernel
theorem dX7_spelt_143 : decode cX7_spelt 143 = .ok (.lload 7, 2) := by decide +kernel
theorem dX7_spelt_145 : decode cX7_spelt 145 = .ok (.ldc2_w 111, 3) := by decide +kernel
theorem dX7_spelt_148 : decode cX7_spelt 148 = .ok (.lmul, 1) := by decide +kernel
theorem dX7_spelt_149 : decode cX7_spelt 149 = .ok (.iload 5, 2) := by decide +kernel
theorem dX7_spelt_151 : decode cX7_spelt 151 = .ok (.i2l, 1) := by decide +kernel
theorem dX7_spelt_152 : decode cX7_spelt 152 = .ok (.ladd, 1) := by decide +kernel
theorem dX7_spelt_153 : decode cX7_spelt 153 = .ok (.ldc2_w 103, 3) := by decide +kernel
theorem dX7_spelt_156 : decode cX7_spelt 156 = .ok (.lsub, 1) := by decide +kernel
theorem dX7_spelt_157 : decode cX7_spelt 157 = .ok (.lconst 1, 1) := by decide +kernel
theorem dX7_spelt_158 : decode cX7_spelt 158 = .ok (.ladd, 1) := by decide +kernel
theorem dX7_spelt_159 : decode cX7_spelt 159 = .ok (.lstore 7, 2) := by decide +kernel
theorem dX7_spelt_161 : decode cX7_spelt 161 = .ok (.iload 6, 2) := by decide +kernel
theorem dX7_spelt_163 : decode cX7_spelt 163 = .ok (.ifCond .ne 8, 3) := by decide +kernel
theorem dX7_spelt_166 : decode cX7_spelt 166 = .ok (.lload 7, 2) := by decide +kernel
theorem dX7_spelt_168 : decode cX7_spelt 168 = .ok (.goto 19, 3) := by decide +kernel
theorem dX7_spelt_171 : decode cX7_spelt 171 = .ok (.lload 7, 2) := by decide +kernel
theorem dX7_spelt_173 : decode cX7_spelt 173 = .ok (.ldc2_w 111, 3) := by decide +kernel
theorem dX7_spelt_176 : decode cX7_spelt 176 = .ok (.lmul, 1) := by decide +kernel
theorem dX7_spelt_177 : decode cX7_spelt 177 = .ok (.iload 6, 2) := by decide +kernel
theorem dX7_spelt_179 : decode cX7_spelt 179 = .ok (.i2l, 1) := by decide +kernel
theorem dX7_spelt_180 : decode cX7_spelt 180 = .ok (.ladd, 1) := by decide +kernel
theorem dX7_spelt_181 : decode cX7_spelt 181 = .ok (.ldc2_w 103, 3) := by decide +kernel
theorem dX7_spelt_184 : decode cX7_spelt 184 = .ok (.lsub, 1) := by decide +kernel
theorem dX7_spelt_185 : decode cX7_spelt 185 = .ok (.lconst 1, 1) := by decide +kernel
theorem dX7_spelt_186 : decode cX7_spelt 186 = .ok (.ladd, 1) := by decide +kernel
theorem dX7_spelt_187 : decode cX7_spelt 187 = .ok (.lreturn, 1) := by decide +kernel
theorem dX7_verb_0 : decode cX7_verb 0 = .ok (.aload_n 0, 1) := by decide +kernel
theorem dX7_verb_1 : decode cX7_verb 1 = .ok (.invokevirtual 113, 3) := by decide +kernel
theorem dX7_verb_4 : decode cX7_verb 4 = .ok (.lstore_n 1, 1) := by decide +kernel
theorem dX7_verb_5 : decode cX7_verb 5 = .ok (.lload_n 1, 1) := by decide +kernel
theorem dX7_verb_6 : decode cX7_verb 6 = .ok (.bipush 112, 2) := by decide +kernel
theorem dX7_verb_8 : decode cX7_verb 8 = .ok (.bipush 108, 2) := by decide +kernel
theorem dX7_verb_10 : decode cX7_verb 10 = .ok (.bipush 97, 2) := by decide +kernel
theorem dX7_verb_12 : decode cX7_verb 12 = .ok (.bipush 105, 2) := by decide +kernel
theorem dX7_verb_14 : decode cX7_verb 14 = .ok (.bipush 110, 2) := by decide +kernel
theorem dX7_verb_16 : decode cX7_verb 16 = .ok (.iconst 0, 1) := by decide +kernel
theorem dX7_verb_17 : decode cX7_verb 17 = .ok (.iconst 0, 1) := by decide +kernel
theorem dX7_verb_18 : decode cX7_verb 18 = .ok (.invokestatic 117, 3) := by decide +kernel
theorem dX7_verb_21 : decode cX7_verb 21 = .ok (.lcmp, 1) := by decide +kernel
theorem dX7_verb_22 : decode cX7_verb 22 = .ok (.ifCond .ne 5, 3) := by decide +kernel
theorem dX7_verb_25 : decode cX7_verb 25 = .ok (.iconst 0, 1) := by decide +kernel
theorem dX7_verb_26 : decode cX7_verb 26 = .ok (.ireturn, 1) := by decide +kernel
theorem dX7_verb_27 : decode cX7_verb 27 = .ok (.lload_n 1, 1) := by decide +kernel
theorem dX7_verb_28 : decode cX7_verb 28 = .ok (.bipush 98, 2) := by decide +kernel
theorem dX7_verb_30 : decode cX7_verb 30 = .ok (.bipush 114, 2) := by decide +kernel
theorem dX7_verb_32 : decode cX7_verb 32 = .ok (.bipush 97, 2) := by decide +kernel
theorem dX7_verb_34 : decode cX7_verb 34 = .ok (.bipush 118, 2) := by decide +kernel
theorem dX7_verb_36 : decode cX7_verb 36 = .ok (.bipush 101, 2) := by decide +kernel
theorem dX7_verb_38 : decode cX7_verb 38 = .ok (.iconst 0, 1) := by decide +kernel
theorem dX7_verb_39 : decode cX7_verb 39 = .ok (.iconst 0, 1) := by decide +kernel
theorem dX7_verb_40 : decode cX7_verb 40 = .ok (.invokestatic 117, 3) := by decide +kernel
theorem dX7_verb_43 : decode cX7_verb 43 = .ok (.lcmp, 1) := by decide +kernel
theorem dX7_verb_44 : decode cX7_verb 44 = .ok (.ifCond .ne 5, 3) := by decide +kernel
theorem dX7_verb_47 : decode cX7_verb 47 = .ok (.iconst 1, 1) := by decide +kernel
theorem dX7_verb_48 : decode cX7_verb 48 = .ok (.ireturn, 1) := by decide +kernel
theorem dX7_verb_49 : decode cX7_verb 49 = .ok (.lload_n 1, 1) := by decide +kernel
theorem dX7_verb_50 : decode cX7_verb 50 = .ok (.bipush 115, 2) := by decide +kernel
theorem dX7_verb_52 : decode cX7_verb 52 = .ok (.bipush 105, 2) := by decide +kernel
theorem dX7_verb_54 : decode cX7_verb 54 = .ok (.bipush 108, 2) := by decide +kernel
theorem dX7_verb_56 : decode cX7_verb 56 = .ok (.bipush 107, 2) := by decide +kernel
theorem dX7_verb_58 : decode cX7_verb 58 = .ok (.iconst 0, 1) := by decide +kernel
theorem dX7_verb_59 : decode cX7_verb 59 = .ok (.iconst 0, 1) := by decide +kernel
theorem dX7_verb_60 : decode cX7_verb 60 = .ok (.iconst 0, 1) := by decide +kernel
theorem dX7_verb_61 : decode cX7_verb 61 = .ok (.invokestatic 117, 3) := by decide +kernel
theorem dX7_verb_64 : decode cX7_verb 64 = .ok (.lcmp, 1) := by decide +kernel
theorem dX7_verb_65 : decode cX7_verb 65 = .ok (.ifCond .ne 5, 3) := by decide +kernel
theorem dX7_verb_68 : decode cX7_verb 68 = .ok (.iconst 2, 1) := by decide +kernel
theorem dX7_verb_69 : decode cX7_verb 69 = .ok (.ireturn, 1) := by decide +kernel
theorem dX7_verb_70 : decode cX7_verb 70 = .ok (.lload_n 1, 1) := by decide +kernel
theorem dX7_verb_71 : decode cX7_verb 71 = .ok (.bipush 101, 2) := by decide +kernel
theorem dX7_verb_73 : decode cX7_verb 73 = .ok (.bipush 110, 2) := by decide +kernel
theorem dX7_verb_75 : decode cX7_verb 75 = .ok (.bipush 100, 2) := by decide +kernel
theorem dX7_verb_77 : decode cX7_verb 77 = .ok (.bipush 108, 2) := by decide +kernel
theorem dX7_verb_79 : decode cX7_verb 79 = .ok (.bipush 101, 2) := by decide +kernel
theorem dX7_verb_81 : decode cX7_verb 81 = .ok (.bipush 115, 2) := by decide +kernel
theorem dX7_verb_83 : decode cX7_verb 83 = .ok (.bipush 115, 2) := by decide +kernel
theorem dX7_verb_85 : decode cX7_verb 85 = .ok (.invokestatic 117, 3) := by decide +kernel
theorem dX7_verb_88 : decode cX7_verb 88 = .ok (.lcmp, 1) := by decide +kernel
theorem dX7_verb_89 : decode cX7_verb 89 = .ok (.ifCond .ne 5, 3) := by decide +kernel
theorem dX7_verb_92 : decode cX7_verb 92 = .ok (.iconst 3, 1) := by decide +kernel
theorem dX7_verb_93 : decode cX7_verb 93 = .ok (.ireturn, 1) := by decide +kernel
theorem dX7_verb_94 : decode cX7_verb 94 = .ok (.lload_n 1, 1) := by decide +kernel
theorem dX7_verb_95 : decode cX7_verb 95 = .ok (.bipush 108, 2) := by decide +kernel
theorem dX7_verb_97 : decode cX7_verb 97 = .ok (.bipush 111, 2) := by decide +kernel
theorem dX7_verb_99 : decode cX7_verb 99 = .ok (.bipush 111, 2) := by decide +kernel
theorem dX7_verb_101 : decode cX7_verb 101 = .ok (.bipush 109, 2) := by decide +kernel
theorem dX7_verb_103 : decode cX7_verb 103 = .ok (.iconst 0, 1) := by decide +kernel
theorem dX7_verb_104 : decode cX7_verb 104 = .ok (.iconst 0, 1) := by decide +kernel
theorem dX7_verb_105 : decode cX7_verb 105 = .ok (.iconst 0, 1) := by decide +kernel
theorem dX7_verb_106 : decode cX7_verb 106 = .ok (.invokestatic 117, 3) := by decide +kernel
theorem dX7_verb_109 : decode cX7_verb 109 = .ok (.lcmp, 1) := by decide +kernel
theorem dX7_verb_110 : decode cX7_verb 110 = .ok (.ifCond .ne 5, 3) := by decide +kernel
theorem dX7_verb_113 : decode cX7_verb 113 = .ok (.iconst 4, 1) := by decide +kernel
theorem dX7_verb_114 : decode cX7_verb 114 = .ok (.ireturn, 1) := by decide +kernel
theorem dX7_verb_115 : decode cX7_verb 115 = .ok (.lload_n 1, 1) := by decide +kernel
theorem dX7_verb_116 : decode cX7_verb 116 = .ok (.bipush 111, 2) := by decide +kernel
theorem dX7_verb_118 : decode cX7_verb 118 = .ok (.bipush 118, 2) := by decide +kernel
theorem dX7_verb_120 : decode cX7_verb 120 = .ok (.bipush 101, 2) := by decide +kernel
theorem dX7_verb_122 : decode cX7_verb 122 = .ok (.bipush 114, 2) := by decide +kernel
theorem dX7_verb_124 : decode cX7_verb 124 = .ok (.iconst 0, 1) := by decide +kernel
theorem dX7_verb_125 : decode cX7_verb 125 = .ok (.iconst 0, 1) := by decide +kernel
theorem dX7_verb_126 : decode cX7_verb 126 = .ok (.iconst 0, 1) := by decide +kernel
theorem dX7_verb_127 : decode cX7_verb 127 = .ok (.invokestatic 117, 3) := by decide +kernel
theorem dX7_verb_130 : decode cX7_verb 130 = .ok (.lcmp, 1) := by decide +kernel
theorem dX7_verb_131 : decode cX7_verb 131 = .ok (.ifCond .ne 5, 3) := by decide +kernel
theorem dX7_verb_134 : decode cX7_verb 134 = .ok (.iconst 5, 1) := by decide +kernel
theorem dX7_verb_135 : decode cX7_verb 135 = .ok (.ireturn, 1) := by decide +kernel
theorem dX7_verb_136 : decode cX7_verb 136 = .ok (.lload_n 1, 1) := by decide +kernel
theorem dX7_verb_137 : decode cX7_verb 137 = .ok (.bipush 107, 2) := by decide +kernel
theorem dX7_verb_139 : decode cX7_verb 139 = .ok (.bipush 110, 2) := by decide +kernel
theorem dX7_verb_141 : decode cX7_verb 141 = .ok (.bipush 111, 2) := by decide +kernel
theorem dX7_verb_143 : decode cX7_verb 143 = .ok (.bipush 116, 2) := by decide +kernel
theorem dX7_verb_145 : decode cX7_verb 145 = .ok (.iconst 0, 1) := by decide +kernel
theorem dX7_verb_146 : decode cX7_verb 146 = .ok (.iconst 0, 1) := by decide +kernel
theorem dX7_verb_147 : decode cX7_verb 147 = .ok (.iconst 0, 1) := by decide +kernel
theorem dX7_verb_148 : decode cX7_verb 148 = .ok (.invokestatic 117, 3) := by decide +kernel
theorem dX7_verb_151 : decode cX7_verb 151 = .ok (.lcmp, 1) := by decide +kernel
theorem dX7_verb_152 : decode cX7_verb 152 = .ok (.ifCond .ne 6, 3) := by decide +kernel
theorem dX7_verb_155 : decode cX7_verb 155 = .ok (.bipush 6, 2) := by decide +kernel
theorem dX7_verb_157 : decode cX7_verb 157 = .ok (.ireturn, 1) := by decide +kernel
theorem dX7_verb_158 : decode cX7_verb 158 = .ok (.lload_n 1, 1) := by decide +kernel
theorem dX7_verb_159 : decode cX7_verb 159 = .ok (.bipush 99, 2) := by decide +kernel
theorem dX7_verb_161 : decode cX7_verb 161 = .ok (.bipush 117, 2) := by decide +kernel
theorem dX7_verb_163 : decode cX7_verb 163 = .ok (.bipush 116, 2) := by decide +kernel
theorem dX7_verb_165 : decode cX7_verb 165 = .ok (.iconst 0, 1) := by decide +kernel
theorem dX7_verb_166 : decode cX7_verb 166 = .ok (.iconst 0, 1) := by decide +kernel
theorem dX7_verb_167 : decode cX7_verb 167 = .ok (.iconst 0, 1) := by decide +kernel
theorem dX7_verb_168 : decode cX7_verb 168 = .ok (.iconst 0, 1) := by decide +kernel
theorem dX7_verb_169 : decode cX7_verb 169 = .ok (.invokestatic 117, 3) := by decide +kernel
theorem dX7_verb_172 : decode cX7_verb 172 = .ok (.lcmp, 1) := by decide +kernel
theorem dX7_verb_173 : decode cX7_verb 173 = .ok (.ifCond .ne 6, 3) := by decide +kernel
theorem dX7_verb_176 : decode cX7_verb 176 = .ok (.bipush 7, 2) := by decide +kernel
theorem dX7_verb_178 : decode cX7_verb 178 = .ok (.ireturn, 1) := by decide +kernel
theorem dX7_verb_179 : decode cX7_verb 179 = .ok (.lload_n 1, 1) := by decide +kernel
theorem dX7_verb_180 : decode cX7_verb 180 = .ok (.bipush 99, 2) := by decide +kernel
theorem dX7_verb_182 : decode cX7_verb 182 = .ok (.bipush 97, 2) := by decide +kernel
theorem dX7_verb_184 : decode cX7_verb 184 = .ok (.bipush 108, 2) := by decide +kernel
theorem dX7_verb_186 : decode cX7_verb 186 = .ok (.bipush 109, 2) := by decide +kernel
theorem dX7_verb_188 : decode cX7_verb 188 = .ok (.iconst 0, 1) := by decide +kernel
theorem dX7_verb_189 : decode cX7_verb 189 = .ok (.iconst 0, 1) := by decide +kernel
theorem dX7_verb_190 : decode cX7_verb 190 = .ok (.iconst 0, 1) := by decide +kernel
theorem dX7_verb_191 : decode cX7_verb 191 = .ok (.invokestatic 117, 3) := by decide +kernel
theorem dX7_verb_194 : decode cX7_verb 194 = .ok (.lcmp, 1) := by decide +kernel
theorem dX7_verb_195 : decode cX7_verb 195 = .ok (.ifCond .ne 8, 3) := by decide +kernel
theorem dX7_verb_198 : decode cX7_verb 198 = .ok (.bipush 8, 2) := by decide +kernel
theorem dX7_verb_200 : decode cX7_verb 200 = .ok (.goto 28, 3) := by decide +kernel
theorem dX7_verb_203 : decode cX7_verb 203 = .ok (.lload_n 1, 1) := by decide +kernel
theorem dX7_verb_204 : decode cX7_verb 204 = .ok (.bipush 102, 2) := by decide +kernel
theorem dX7_verb_206 : decode cX7_verb 206 = .ok (.bipush 114, 2) := by decide +kernel
theorem dX7_verb_208 : decode cX7_verb 208 = .ok (.bipush 101, 2) := by decide +kernel
theorem dX7_verb_210 : decode cX7_verb 210 = .ok (.bipush 101, 2) := by decide +kernel
theorem dX7_verb_212 : decode cX7_verb 212 = .ok (.iconst 0, 1) := by decide +kernel
theorem dX7_verb_213 : decode cX7_verb 213 = .ok (.iconst 0, 1) := by decide +kernel
theorem dX7_verb_214 : decode cX7_verb 214 = .ok (.iconst 0, 1) := by decide +kernel
theorem dX7_verb_215 : decode cX7_verb 215 = .ok (.invokestatic 117, 3) := by decide +kernel
theorem dX7_verb_218 : decode cX7_verb 218 = .ok (.lcmp, 1) := by decide +kernel
theorem dX7_verb_219 : decode cX7_verb 219 = .ok (.ifCond .ne 8, 3) := by decide +kernel
theorem dX7_verb_222 : decode cX7_verb 222 = .ok (.bipush 9, 2) := by decide +kernel
theorem dX7_verb_224 : decode cX7_verb 224 = .ok (.goto 4, 3) := by decide +kernel
theorem dX7_verb_227 : decode cX7_verb 227 = .ok (.iconst (-1), 1) := by decide +kernel
theorem dX7_verb_228 : decode cX7_verb 228 = .ok (.ireturn, 1) := by decide +kernel
theorem dX7_number_0 : decode cX7_number 0 = .ok (.aload_n 0, 1) := by decide +kernel
theorem dX7_number_1 : decode cX7_number 1 = .ok (.invokevirtual 121, 3) := by decide +kernel
theorem dX7_number_4 : decode cX7_number 4 = .ok (.aload_n 0, 1) := by decide +kernel
theorem dX7_number_5 : decode cX7_number 5 = .ok (.getfield 100, 3) := by decide +kernel
theorem dX7_number_8 : decode cX7_number 8 = .ok (.iconst 2, 1) := by decide +kernel
theorem dX7_number_9 : decode cX7_number 9 = .ok (.if_icmp .ne 25, 3) := by decide +kernel
theorem dX7_number_12 : decode cX7_number 12 = .ok (.aload_n 0, 1) := by decide +kernel
theorem dX7_number_13 : decode cX7_number 13 = .ok (.getfield 97, 3) := by decide +kernel
theorem dX7_number_16 : decode cX7_number 16 = .ok (.i2l, 1) := by decide +kernel
theorem dX7_number_17 : decode cX7_number 17 = .ok (.iload_n 1, 1) := by decide +kernel
theorem dX7_number_18 : decode cX7_number 18 = .ok (.i2l, 1) := by decide +kernel
theorem dX7_number_19 : decode cX7_number 19 = .ok (.iload_n 2, 1) := by decide +kernel
theorem dX7_number_20 : decode cX7_number 20 = .ok (.i2l, 1) := by decide +kernel
theorem dX7_number_21 : decode cX7_number 21 = .ok (.invokestatic 78, 3) := by decide +kernel
theorem dX7_number_24 : decode cX7_number 24 = .ok (.ifCond .eq 10, 3) := by decide +kernel
theorem dX7_number_27 : decode cX7_number 27 = .ok (.aload_n 0, 1) := by decide +kernel
theorem dX7_number_28 : decode cX7_number 28 = .ok (.getfield 97, 3) := by decide +kernel
theorem dX7_number_31 : decode cX7_number 31 = .ok (.goto 4, 3) := by decide +kernel
theorem dX7_number_34 : decode cX7_number 34 = .ok (.iconst (-1), 1) := by decide +kernel
theorem dX7_number_35 : decode cX7_number 35 = .ok (.ireturn, 1) := by decide +kernel
theorem dX7_isAbove_0 : decode cX7_isAbove 0 = .ok (.aload_n 0, 1) := by decide +kernel
theorem dX7_isAbove_1 : decode cX7_isAbove 1 = .ok (.iload_n 2, 1) := by decide +kernel
theorem dX7_isAbove_2 : decode cX7_isAbove 2 = .ok (.iaload, 1) := by decide +kernel
theorem dX7_isAbove_3 : decode cX7_isAbove 3 = .ok (.istore_n 3, 1) := by decide +kernel
theorem dX7_isAbove_4 : decode cX7_isAbove 4 = .ok (.iconst 0, 1) := by decide +kernel
theorem dX7_isAbove_5 : decode cX7_isAbove 5 = .ok (.istore 4, 2) := by decide +kernel
theorem dX7_isAbove_7 : decode cX7_isAbove 7 = .ok (.iload 4, 2) := by decide +kernel
theorem dX7_isAbove_9 : decode cX7_isAbove 9 = .ok (.bipush 8, 2) := by decide +kernel
theorem dX7_isAbove_11 : decode cX7_isAbove 11 = .ok (.if_icmp .ge 45, 3) := by decide +kernel
theorem dX7_isAbove_14 : decode cX7_isAbove 14 = .ok (.iconst 0, 1) := by decide +kernel
theorem dX7_isAbove_15 : decode cX7_isAbove 15 = .ok (.istore 5, 2) := by decide +kernel
theorem dX7_isAbove_17 : decode cX7_isAbove 17 = .ok (.iload 5, 2) := by decide +kernel
theorem dX7_isAbove_19 : decode cX7_isAbove 19 = .ok (.bipush 8, 2) := by decide +kernel
theorem dX7_isAbove_21 : decode cX7_isAbove 21 = .ok (.if_icmp .ge 29, 3) := by decide +kernel
theorem dX7_isAbove_24 : decode cX7_isAbove 24 = .ok (.iload_n 3, 1) := by decide +kernel
theorem dX7_isAbove_25 : decode cX7_isAbove 25 = .ok (.iload_n 3, 1) := by decide +kernel
theorem dX7_isAbove_26 : decode cX7_isAbove 26 = .ok (.iload 5, 2) := by decide +kernel
theorem dX7_isAbove_28 : decode cX7_isAbove 28 = .ok (.invokestatic 124, 3) := by decide +kernel
theorem dX7_isAbove_31 : decode cX7_isAbove 31 = .ok (.ifCond .eq 10, 3) := by decide +kernel
theorem dX7_isAbove_34 : decode cX7_isAbove 34 = .ok (.aload_n 0, 1) := by decide +kernel
theorem dX7_isAbove_35 : decode cX7_isAbove 35 = .ok (.iload 5, 2) := by decide +kernel
theorem dX7_isAbove_37 : decode cX7_isAbove 37 = .ok (.iaload, 1) := by decide +kernel
theorem dX7_isAbove_38 : decode cX7_isAbove 38 = .ok (.goto 4, 3) := by decide +kernel
theorem dX7_isAbove_41 : decode cX7_isAbove 41 = .ok (.iconst 0, 1) := by decide +kernel
theorem dX7_isAbove_42 : decode cX7_isAbove 42 = .ok (.ior, 1) := by decide +kernel
theorem dX7_isAbove_43 : decode cX7_isAbove 43 = .ok (.istore_n 3, 1) := by decide +kernel
theorem dX7_isAbove_44 : decode cX7_isAbove 44 = .ok (.iinc 5 1, 3) := by decide +kernel
theorem dX7_isAbove_47 : decode cX7_isAbove 47 = .ok (.goto (-30), 3) := by decide +kernel
theorem dX7_isAbove_50 : decode cX7_isAbove 50 = .ok (.iinc 4 1, 3) := by decide +kernel
theorem dX7_isAbove_53 : decode cX7_isAbove 53 = .ok (.goto (-46), 3) := by decide +kernel
theorem dX7_isAbove_56 : decode cX7_isAbove 56 = .ok (.iload_n 3, 1) := by decide +kernel
theorem dX7_isAbove_57 : decode cX7_isAbove 57 = .ok (.iload_n 1, 1) := by decide +kernel
theorem dX7_isAbove_58 : decode cX7_isAbove 58 = .ok (.invokestatic 124, 3) := by decide +kernel
theorem dX7_isAbove_61 : decode cX7_isAbove 61 = .ok (.ireturn, 1) := by decide +kernel
theorem dX7_readThread_0 : decode cX7_readThread 0 = .ok (.aload_n 0, 1) := by decide +kernel
theorem dX7_readThread_1 : decode cX7_readThread 1 = .ok (.getfield 128, 3) := by decide +kernel
theorem dX7_readThread_4 : decode cX7_readThread 4 = .ok (.bipush 8, 2) := by decide +kernel
theorem dX7_readThread_6 : decode cX7_readThread 6 = .ok (.if_icmp .ne 5, 3) := by decide +kernel
theorem dX7_readThread_9 : decode cX7_readThread 9 = .ok (.iconst 0, 1) := by decide +kernel
theorem dX7_readThread_10 : decode cX7_readThread 10 = .ok (.ireturn, 1) := by decide +kernel
theorem dX7_readThread_11 : decode cX7_readThread 11 = .ok (.aload_n 0, 1) := by decide +kernel
theorem dX7_readThread_12 : decode cX7_readThread 12 = .ok (.iconst 1, 1) := by decide +kernel
theorem dX7_readThread_13 : decode cX7_readThread 13 = .ok (.bipush 60, 2) := by decide +kernel
theorem dX7_readThread_15 : decode cX7_readThread 15 = .ok (.invokevirtual 131, 3) := by decide +kernel
theorem dX7_readThread_18 : decode cX7_readThread 18 = .ok (.istore_n 2, 1) := by decide +kernel
theorem dX7_readThread_19 : decode cX7_readThread 19 = .ok (.iload_n 2, 1) := by decide +kernel
theorem dX7_readThread_20 : decode cX7_readThread 20 = .ok (.ifCond .ge 7, 3) := by decide +kernel
theorem dX7_readThread_23 : decode cX7_readThread 23 = .ok (.iconst (-1), 1) := by decide +kernel
theorem dX7_readThread_24 : decode cX7_readThread 24 = .ok (.goto 9, 3) := by decide +kernel
theorem dX7_readThread_27 : decode cX7_readThread 27 = .ok (.aload_n 0, 1) := by decide +kernel
theorem dX7_readThread_28 : decode cX7_readThread 28 = .ok (.iconst 0, 1) := by decide +kernel
theorem dX7_readThread_29 : decode cX7_readThread 29 = .ok (.iconst 3, 1) := by decide +kernel
theorem dX7_readThread_30 : decode cX7_readThread 30 = .ok (.invokevirtual 131, 3) := by decide +kernel
theorem dX7_readThread_33 : decode cX7_readThread 33 = .ok (.istore_n 3, 1) := by decide +kernel
theorem dX7_readThread_34 : decode cX7_readThread 34 = .ok (.iload_n 3, 1) := by decide +kernel
theorem dX7_readThread_35 : decode cX7_readThread 35 = .ok (.ifCond .ge 5, 3) := by decide +kernel
theorem dX7_readThread_38 : decode cX7_readThread 38 = .ok (.iconst 0, 1) := by decide +kernel
theorem dX7_readThread_39 : decode cX7_readThread 39 = .ok (.ireturn, 1) := by decide +kernel
theorem dX7_readThread_40 : decode cX7_readThread 40 = .ok (.aload_n 0, 1) := by decide +kernel
theorem dX7_readThread_41 : decode cX7_readThread 41 = .ok (.getfield 31, 3) := by decide +kernel
theorem dX7_readThread_44 : decode cX7_readThread 44 = .ok (.iconst 3, 1) := by decide +kernel
theorem dX7_readThread_45 : decode cX7_readThread 45 = .ok (.aload_n 0, 1) := by decide +kernel
theorem dX7_readThread_46 : decode cX7_readThread 46 = .ok (.getfield 128, 3) := by decide +kernel
theorem dX7_readThread_49 : decode cX7_readThread 49 = .ok (.imul, 1) := by decide +kernel
theorem dX7_readThread_50 : decode cX7_readThread 50 = .ok (.iload_n 1, 1) := by decide +kernel
theorem dX7_readThread_51 : decode cX7_readThread 51 = .ok (.iastore, 1) := by decide +kernel
theorem dX7_readThread_52 : decode cX7_readThread 52 = .ok (.aload_n 0, 1) := by decide +kernel
theorem dX7_readThread_53 : decode cX7_readThread 53 = .ok (.getfield 31, 3) := by decide +kernel
theorem dX7_readThread_56 : decode cX7_readThread 56 = .ok (.iconst 3, 1) := by decide +kernel
theorem dX7_readThread_57 : decode cX7_readThread 57 = .ok (.aload_n 0, 1) := by decide +kernel
theorem dX7_readThread_58 : decode cX7_readThread 58 = .ok (.getfield 128, 3) := by decide +kernel
theorem dX7_readThread_61 : decode cX7_readThread 61 = .ok (.imul, 1) := by decide +kernel
theorem dX7_readThread_62 : decode cX7_readThread 62 = .ok (.iconst 1, 1) := by decide +kernel
theorem dX7_readThread_63 : decode cX7_readThread 63 = .ok (.iadd, 1) := by decide +kernel
theorem dX7_readThread_64 : decode cX7_readThread 64 = .ok (.iload_n 2, 1) := by decide +kernel
theorem dX7_readThread_65 : decode cX7_readThread 65 = .ok (.iastore, 1) := by decide +kernel
theorem dX7_readThread_66 : decode cX7_readThread 66 = .ok (.aload_n 0, 1) := by decide +kernel
theorem dX7_readThread_67 : decode cX7_readThread 67 = .ok (.getfield 31, 3) := by decide +kernel
theorem dX7_readThread_70 : decode cX7_readThread 70 = .ok (.iconst 3, 1) := by decide +kernel
theorem dX7_readThread_71 : decode cX7_readThread 71 = .ok (.aload_n 0, 1) := by decide +kernel
theorem dX7_readThread_72 : decode cX7_readThread 72 = .ok (.getfield 128, 3) := by decide +kernel
theorem dX7_readThread_75 : decode cX7_readThread 75 = .ok (.imul, 1) := by decide +kernel
theorem dX7_readThread_76 : decode cX7_readThread 76 = .ok (.iconst 2, 1) := by decide +kernel
theorem dX7_readThread_77 : decode cX7_readThread 77 = .ok (.iadd, 1) := by decide +kernel
theorem dX7_readThread_78 : decode cX7_readThread 78 = .ok (.iload_n 3, 1) := by decide +kernel
theorem dX7_readThread_79 : decode cX7_readThread 79 = .ok (.iastore, 1) := by decide +kernel
theorem dX7_readThread_80 : decode cX7_readThread 80 = .ok (.aload_n 0, 1) := by decide +kernel
theorem dX7_readThread_81 : decode cX7_readThread 81 = .ok (.getfield 34, 3) := by decide +kernel
theorem dX7_readThread_84 : decode cX7_readThread 84 = .ok (.aload_n 0, 1) := by decide +kernel
theorem dX7_readThread_85 : decode cX7_readThread 85 = .ok (.getfield 128, 3) := by decide +kernel
theorem dX7_readThread_88 : decode cX7_readThread 88 = .ok (.iconst 0, 1) := by decide +kernel
theorem dX7_readThread_89 : decode cX7_readThread 89 = .ok (.iastore, 1) := by decide +kernel
theorem dX7_readThread_90 : decode cX7_readThread 90 = .ok (.aload_n 0, 1) := by decide +kernel
theorem dX7_readThread_91 : decode cX7_readThread 91 = .ok (.getfield 37, 3) := by decide +kernel
theorem dX7_readThread_94 : decode cX7_readThread 94 = .ok (.aload_n 0, 1) := by decide +kernel
theorem dX7_readThread_95 : decode cX7_readThread 95 = .ok (.getfield 128, 3) := by decide +kernel
theorem dX7_readThread_98 : decode cX7_readThread 98 = .ok (.iconst 0, 1) := by decide +kernel
theorem dX7_readThread_99 : decode cX7_readThread 99 = .ok (.iastore, 1) := by decide +kernel
theorem dX7_readThread_100 : decode cX7_readThread 100 = .ok (.aload_n 0, 1) := by decide +kernel
theorem dX7_readThread_101 : decode cX7_readThread 101 = .ok (.dup, 1) := by decide +kernel
theorem dX7_readThread_102 : decode cX7_readThread 102 = .ok (.getfield 128, 3) := by decide +kernel
theorem dX7_readThread_105 : decode cX7_readThread 105 = .ok (.iconst 1, 1) := by decide +kernel
theorem dX7_readThread_106 : decode cX7_readThread 106 = .ok (.iadd, 1) := by decide +kernel
theorem dX7_readThread_107 : decode cX7_readThread 107 = .ok (.putfield 128, 3) := by decide +kernel
theorem dX7_readThread_110 : decode cX7_readThread 110 = .ok (.iconst 1, 1) := by decide +kernel
theorem dX7_readThread_111 : decode cX7_readThread 111 = .ok (.ireturn, 1) := by decide +kernel
theorem dX7_readTwo_0 : decode cX7_readTwo 0 = .ok (.iload_n 1, 1) := by decide +kernel
theorem dX7_readTwo_1 : decode cX7_readTwo 1 = .ok (.bipush 7, 2) := by decide +kernel
theorem dX7_readTwo_3 : decode cX7_readTwo 3 = .ok (.if_icmp .ne 14, 3) := by decide +kernel
theorem dX7_readTwo_6 : decode cX7_readTwo 6 = .ok (.aload_n 0, 1) := by decide +kernel
theorem dX7_readTwo_7 : decode cX7_readTwo 7 = .ok (.getfield 135, 3) := by decide +kernel
theorem dX7_readTwo_10 : decode cX7_readTwo 10 = .ok (.bipush 6, 2) := by decide +kernel
theorem dX7_readTwo_12 : decode cX7_readTwo 12 = .ok (.if_icmp .ne 5, 3) := by decide +kernel
theorem dX7_readTwo_15 : decode cX7_readTwo 15 = .ok (.iconst 0, 1) := by decide +kernel
theorem dX7_readTwo_16 : decode cX7_readTwo 16 = .ok (.ireturn, 1) := by decide +kernel
theorem dX7_readTwo_17 : decode cX7_readTwo 17 = .ok (.aload_n 0, 1) := by decide +kernel
theorem dX7_readTwo_18 : decode cX7_readTwo 18 = .ok (.iconst 0, 1) := by decide +kernel
theorem dX7_readTwo_19 : decode cX7_readTwo 19 = .ok (.aload_n 0, 1) := by decide +kernel
theorem dX7_readTwo_20 : decode cX7_readTwo 20 = .ok (.getfield 128, 3) := by decide +kernel
theorem dX7_readTwo_23 : decode cX7_readTwo 23 = .ok (.iconst 1, 1) := by decide +kernel
theorem dX7_readTwo_24 : decode cX7_readTwo 24 = .ok (.isub, 1) := by decide +kernel
theorem dX7_readTwo_25 : decode cX7_readTwo 25 = .ok (.invokevirtual 131, 3) := by decide +kernel
theorem dX7_readTwo_28 : decode cX7_readTwo 28 = .ok (.istore_n 2, 1) := by decide +kernel
theorem dX7_readTwo_29 : decode cX7_readTwo 29 = .ok (.iload_n 2, 1) := by decide +kernel
theorem dX7_readTwo_30 : decode cX7_readTwo 30 = .ok (.ifCond .ge 7, 3) := by decide +kernel
theorem dX7_readTwo_33 : decode cX7_readTwo 33 = .ok (.iconst (-1), 1) := by decide +kernel
theorem dX7_readTwo_34 : decode cX7_readTwo 34 = .ok (.goto 25, 3) := by decide +kernel
theorem dX7_readTwo_37 : decode cX7_readTwo 37 = .ok (.aload_n 0, 1) := by decide +kernel
theorem dX7_readTwo_38 : decode cX7_readTwo 38 = .ok (.iconst 0, 1) := by decide +kernel
theorem dX7_readTwo_39 : decode cX7_readTwo 39 = .ok (.iload_n 1, 1) := by decide +kernel
theorem dX7_readTwo_40 : decode cX7_readTwo 40 = .ok (.bipush 7, 2) := by decide +kernel
theorem dX7_readTwo_42 : decode cX7_readTwo 42 = .ok (.if_icmp .ne 8, 3) := by decide +kernel
theorem dX7_readTwo_45 : decode cX7_readTwo 45 = .ok (.bipush 99, 2) := by decide +kernel
theorem dX7_readTwo_47 : decode cX7_readTwo 47 = .ok (.goto 9, 3) := by decide +kernel
theorem dX7_readTwo_50 : decode cX7_readTwo 50 = .ok (.aload_n 0, 1) := by decide +kernel
theorem dX7_readTwo_51 : decode cX7_readTwo 51 = .ok (.getfield 128, 3) := by decide +kernel
theorem dX7_readTwo_54 : decode cX7_readTwo 54 = .ok (.iconst 1, 1) := by decide +kernel
theorem dX7_readTwo_55 : decode cX7_readTwo 55 = .ok (.isub, 1) := by decide +kernel
theorem dX7_readTwo_56 : decode cX7_readTwo 56 = .ok (.invokevirtual 131, 3) := by decide +kernel
theorem dX7_readTwo_59 : decode cX7_readTwo 59 = .ok (.istore_n 3, 1) := by decide +kernel
theorem dX7_readTwo_60 : decode cX7_readTwo 60 = .ok (.iload_n 3, 1) := by decide +kernel
theorem dX7_readTwo_61 : decode cX7_readTwo 61 = .ok (.ifCond .lt 31, 3) := by decide +kernel
theorem dX7_readTwo_64 : decode cX7_readTwo 64 = .ok (.iload_n 1, 1) := by decide +kernel
theorem dX7_readTwo_65 : decode cX7_readTwo 65 = .ok (.bipush 7, 2) := by decide +kernel
theorem dX7_readTwo_67 : decode cX7_readTwo 67 = .ok (.if_icmp .ge 8, 3) := by decide +kernel
theorem dX7_readTwo_70 : decode cX7_readTwo 70 = .ok (.iload_n 2, 1) := by decide +kernel
theorem dX7_readTwo_71 : decode cX7_readTwo 71 = .ok (.iload_n 3, 1) := by decide +kernel
theorem dX7_readTwo_72 : decode cX7_readTwo 72 = .ok (.if_icmp .eq 20, 3) := by decide +kernel
theorem dX7_readTwo_75 : decode cX7_readTwo 75 = .ok (.iload_n 1, 1) := by decide +kernel
theorem dX7_readTwo_76 : decode cX7_readTwo 76 = .ok (.iconst 5, 1) := by decide +kernel
theorem dX7_readTwo_77 : decode cX7_readTwo 77 = .ok (.if_icmp .ne 17, 3) := by decide +kernel
theorem dX7_readTwo_80 : decode cX7_readTwo 80 = .ok (.aload_n 0, 1) := by decide +kernel
theorem dX7_readTwo_81 : decode cX7_readTwo 81 = .ok (.getfield 34, 3) := by decide +kernel
theorem dX7_readTwo_84 : decode cX7_readTwo 84 = .ok (.iload_n 3, 1) := by decide +kernel
theorem dX7_readTwo_85 : decode cX7_readTwo 85 = .ok (.iload_n 2, 1) := by decide +kernel
theorem dX7_readTwo_86 : decode cX7_readTwo 86 = .ok (.invokestatic 138, 3) := by decide +kernel
theorem dX7_readTwo_89 : decode cX7_readTwo 89 = .ok (.ifCond .eq 5, 3) := by decide +kernel
theorem dX7_readTwo_92 : decode cX7_readTwo 92 = .ok (.iconst 0, 1) := by decide +kernel
theorem dX7_readTwo_93 : decode cX7_readTwo 93 = .ok (.ireturn, 1) := by decide +kernel
theorem dX7_readTwo_94 : decode cX7_readTwo 94 = .ok (.iload_n 1, 1) := by decide +kernel
theorem dX7_readTwo_95 : decode cX7_readTwo 95 = .ok (.iconst 5, 1) := by decide +kernel
theorem dX7_readTwo_96 : decode cX7_readTwo 96 = .ok (.if_icmp .ne 18, 3) := by decide +kernel
theorem dX7_readTwo_99 : decode cX7_readTwo 99 = .ok (.aload_n 0, 1) := by decide +kernel
theorem dX7_readTwo_100 : decode cX7_readTwo 100 = .ok (.getfield 34, 3) := by decide +kernel
theorem dX7_readTwo_103 : decode cX7_readTwo 103 = .ok (.iload_n 3, 1) := by decide +kernel
theorem dX7_readTwo_104 : decode cX7_readTwo 104 = .ok (.dup2, 1) := by decide +kernel
theorem dX7_readTwo_105 : decode cX7_readTwo 105 = .ok (.iaload, 1) := by decide +kernel
theorem dX7_readTwo_106 : decode cX7_readTwo 106 = .ok (.iconst 1, 1) := by decide +kernel
theorem dX7_readTwo_107 : decode cX7_readTwo 107 = .ok (.iload_n 2, 1) := by decide +kernel
theorem dX7_readTwo_108 : decode cX7_readTwo 108 = .ok (.ishl, 1) := by decide +kernel
theorem dX7_readTwo_109 : decode cX7_readTwo 109 = .ok (.ior, 1) := by decide +kernel
theorem dX7_readTwo_110 : decode cX7_readTwo 110 = .ok (.iastore, 1) := by decide +kernel
theorem dX7_readTwo_111 : decode cX7_readTwo 111 = .ok (.goto 66, 3) := by decide +kernel
theorem dX7_readTwo_114 : decode cX7_readTwo 114 = .ok (.iload_n 1, 1) := by decide +kernel
theorem dX7_readTwo_115 : decode cX7_readTwo 115 = .ok (.bipush 6, 2) := by decide +kernel
theorem dX7_readTwo_117 : decode cX7_readTwo 117 = .ok (.if_icmp .ne 30, 3) := by decide +kernel
theorem dX7_readTwo_120 : decode cX7_readTwo 120 = .ok (.aload_n 0, 1) := by decide +kernel
theorem dX7_readTwo_121 : decode cX7_readTwo 121 = .ok (.getfield 37, 3) := by decide +kernel
theorem dX7_readTwo_124 : decode cX7_readTwo 124 = .ok (.iload_n 2, 1) := by decide +kernel
theorem dX7_readTwo_125 : decode cX7_readTwo 125 = .ok (.dup2, 1) := by decide +kernel
theorem dX7_readTwo_126 : decode cX7_readTwo 126 = .ok (.iaload, 1) := by decide +kernel
theorem dX7_readTwo_127 : decode cX7_readTwo 127 = .ok (.iconst 1, 1) := by decide +kernel
theorem dX7_readTwo_128 : decode cX7_readTwo 128 = .ok (.iload_n 3, 1) := by decide +kernel
theorem dX7_readTwo_129 : decode cX7_readTwo 129 = .ok (.ishl, 1) := by decide +kernel
theorem dX7_readTwo_130 : decode cX7_readTwo 130 = .ok (.ior, 1) := by decide +kernel
theorem dX7_readTwo_131 : decode cX7_readTwo 131 = .ok (.iastore, 1) := by decide +kernel
theorem dX7_readTwo_132 : decode cX7_readTwo 132 = .ok (.aload_n 0, 1) := by decide +kernel
theorem dX7_readTwo_133 : decode cX7_readTwo 133 = .ok (.getfield 37, 3) := by decide +kernel
theorem dX7_readTwo_136 : decode cX7_readTwo 136 = .ok (.iload_n 3, 1) := by decide +kernel
theorem dX7_readTwo_137 : decode cX7_readTwo 137 = .ok (.dup2, 1) := by decide +kernel
theorem dX7_readTwo_138 : decode cX7_readTwo 138 = .ok (.iaload, 1) := by decide +kernel
theorem dX7_readTwo_139 : decode cX7_readTwo 139 = .ok (.iconst 1, 1) := by decide +kernel
theorem dX7_readTwo_140 : decode cX7_readTwo 140 = .ok (.iload_n 2, 1) := by decide +kernel
theorem dX7_readTwo_141 : decode cX7_readTwo 141 = .ok (.ishl, 1) := by decide +kernel
theorem dX7_readTwo_142 : decode cX7_readTwo 142 = .ok (.ior, 1) := by decide +kernel
theorem dX7_readTwo_143 : decode cX7_readTwo 143 = .ok (.iastore, 1) := by decide +kernel
theorem dX7_readTwo_144 : decode cX7_readTwo 144 = .ok (.goto 33, 3) := by decide +kernel
theorem dX7_readTwo_147 : decode cX7_readTwo 147 = .ok (.aload_n 0, 1) := by decide +kernel
theorem dX7_readTwo_148 : decode cX7_readTwo 148 = .ok (.getfield 40, 3) := by decide +kernel
theorem dX7_readTwo_151 : decode cX7_readTwo 151 = .ok (.aload_n 0, 1) := by decide +kernel
theorem dX7_readTwo_152 : decode cX7_readTwo 152 = .ok (.getfield 135, 3) := by decide +kernel
theorem dX7_readTwo_155 : decode cX7_readTwo 155 = .ok (.iload_n 2, 1) := by decide +kernel
theorem dX7_readTwo_156 : decode cX7_readTwo 156 = .ok (.iastore, 1) := by decide +kernel
theorem dX7_readTwo_157 : decode cX7_readTwo 157 = .ok (.aload_n 0, 1) := by decide +kernel
theorem dX7_readTwo_158 : decode cX7_readTwo 158 = .ok (.getfield 43, 3) := by decide +kernel
theorem dX7_readTwo_161 : decode cX7_readTwo 161 = .ok (.aload_n 0, 1) := by decide +kernel
theorem dX7_readTwo_162 : decode cX7_readTwo 162 = .ok (.getfield 135, 3) := by decide +kernel
theorem dX7_readTwo_165 : decode cX7_readTwo 165 = .ok (.iload_n 3, 1) := by decide +kernel
theorem dX7_readTwo_166 : decode cX7_readTwo 166 = .ok (.iastore, 1) := by decide +kernel
theorem dX7_readTwo_167 : decode cX7_readTwo 167 = .ok (.aload_n 0, 1) := by decide +kernel
theorem dX7_readTwo_168 : decode cX7_readTwo 168 = .ok (.dup, 1) := by decide +kernel
theorem dX7_readTwo_169 : decode cX7_readTwo 169 = .ok (.getfield 135, 3) := by decide +kernel
theorem dX7_readTwo_172 : decode cX7_readTwo 172 = .ok (.iconst 1, 1) := by decide +kernel
theorem dX7_readTwo_173 : decode cX7_readTwo 173 = .ok (.iadd, 1) := by decide +kernel
theorem dX7_readTwo_174 : decode cX7_readTwo 174 = .ok (.putfield 135, 3) := by decide +kernel
theorem dX7_readTwo_177 : decode cX7_readTwo 177 = .ok (.iconst 1, 1) := by decide +kernel
theorem dX7_readTwo_178 : decode cX7_readTwo 178 = .ok (.ireturn, 1) := by decide +kernel
theorem dX7_readClause_0 : decode cX7_readClause 0 = .ok (.aload_n 0, 1) := by decide +kernel
theorem dX7_readClause_1 : decode cX7_readClause 1 = .ok (.invokevirtual 142, 3) := by decide +kernel
theorem dX7_readClause_4 : decode cX7_readClause 4 = .ok (.istore_n 1, 1) := by decide +kernel
theorem dX7_readClause_5 : decode cX7_readClause 5 = .ok (.iload_n 1, 1) := by decide +kernel
theorem dX7_readClause_6 : decode cX7_readClause 6 = .ok (.ifCond .ge 5, 3) := by decide +kernel
theorem dX7_readClause_9 : decode cX7_readClause 9 = .ok (.iconst 0, 1) := by decide +kernel
theorem dX7_readClause_10 : decode cX7_readClause 10 = .ok (.ireturn, 1) := by decide +kernel
theorem dX7_readClause_11 : decode cX7_readClause 11 = .ok (.iload_n 1, 1) := by decide +kernel
theorem dX7_readClause_12 : decode cX7_readClause 12 = .ok (.iconst 4, 1) := by decide +kernel
theorem dX7_readClause_13 : decode cX7_readClause 13 = .ok (.if_icmp .ge 9, 3) := by decide +kernel
theorem dX7_readClause_16 : decode cX7_readClause 16 = .ok (.aload_n 0, 1) := by decide +kernel
theorem dX7_readClause_17 : decode cX7_readClause 17 = .ok (.iload_n 1, 1) := by decide +kernel
theorem dX7_readClause_18 : decode cX7_readClause 18 = .ok (.invokevirtual 146, 3) := by decide +kernel
theorem dX7_readClause_21 : decode cX7_readClause 21 = .ok (.ireturn, 1) := by decide +kernel
theorem dX7_readClause_22 : decode cX7_readClause 22 = .ok (.iload_n 1, 1) := by decide +kernel
theorem dX7_readClause_23 : decode cX7_readClause 23 = .ok (.bipush 8, 2) := by decide +kernel
theorem dX7_readClause_25 : decode cX7_readClause 25 = .ok (.if_icmp .ge 14, 3) := by decide +kernel
theorem dX7_readClause_28 : decode cX7_readClause 28 = .ok (.iload_n 1, 1) := by decide +kernel
theorem dX7_readClause_29 : decode cX7_readClause 29 = .ok (.iconst 4, 1) := by decide +kernel
theorem dX7_readClause_30 : decode cX7_readClause 30 = .ok (.if_icmp .le 9, 3) := by decide +kernel
theorem dX7_readClause_33 : decode cX7_readClause 33 = .ok (.aload_n 0, 1) := by decide +kernel
theorem dX7_readClause_34 : decode cX7_readClause 34 = .ok (.iload_n 1, 1) := by decide +kernel
theorem dX7_readClause_35 : decode cX7_readClause 35 = .ok (.invokevirtual 150, 3) := by decide +kernel
theorem dX7_readClause_38 : decode cX7_readClause 38 = .ok (.ireturn, 1) := by decide +kernel
theorem dX7_readClause_39 : decode cX7_readClause 39 = .ok (.aload_n 0, 1) := by decide +kernel
theorem dX7_readClause_40 : decode cX7_readClause 40 = .ok (.iload_n 1, 1) := by decide +kernel
theorem dX7_readClause_41 : decode cX7_readClause 41 = .ok (.iconst 4, 1) := by decide +kernel
theorem dX7_readClause_42 : decode cX7_readClause 42 = .ok (.if_icmp .ne 7, 3) := by decide +kernel
theorem dX7_readClause_45 : decode cX7_readClause 45 = .ok (.iconst 0, 1) := by decide +kernel
theorem dX7_readClause_46 : decode cX7_readClause 46 = .ok (.goto 7, 3) := by decide +kernel
theorem dX7_readClause_49 : decode cX7_readClause 49 = .ok (.aload_n 0, 1) := by decide +kernel
theorem dX7_readClause_50 : decode cX7_readClause 50 = .ok (.getfield 128, 3) := by decide +kernel
theorem dX7_readClause_53 : decode cX7_readClause 53 = .ok (.putfield 128, 3) := by decide +kernel
theorem dX7_readClause_56 : decode cX7_readClause 56 = .ok (.aload_n 0, 1) := by decide +kernel
theorem dX7_readClause_57 : decode cX7_readClause 57 = .ok (.iload_n 1, 1) := by decide +kernel
theorem dX7_readClause_58 : decode cX7_readClause 58 = .ok (.bipush 9, 2) := by decide +kernel
theorem dX7_readClause_60 : decode cX7_readClause 60 = .ok (.if_icmp .ne 10, 3) := by decide +kernel
theorem dX7_readClause_63 : decode cX7_readClause 63 = .ok (.aload_n 0, 1) := by decide +kernel
theorem dX7_readClause_64 : decode cX7_readClause 64 = .ok (.getfield 135, 3) := by decide +kernel
theorem dX7_readClause_67 : decode cX7_readClause 67 = .ok (.goto 4, 3) := by decide +kernel
theorem dX7_readClause_70 : decode cX7_readClause 70 = .ok (.iconst 0, 1) := by decide +kernel
theorem dX7_readClause_71 : decode cX7_readClause 71 = .ok (.putfield 135, 3) := by decide +kernel
theorem dX7_readClause_74 : decode cX7_readClause 74 = .ok (.iconst 0, 1) := by decide +kernel
theorem dX7_readClause_75 : decode cX7_readClause 75 = .ok (.istore_n 2, 1) := by decide +kernel
theorem dX7_readClause_76 : decode cX7_readClause 76 = .ok (.iload_n 2, 1) := by decide +kernel
theorem dX7_readClause_77 : decode cX7_readClause 77 = .ok (.bipush 8, 2) := by decide +kernel
theorem dX7_readClause_79 : decode cX7_readClause 79 = .ok (.if_icmp .ge 29, 3) := by decide +kernel
theorem dX7_readClause_82 : decode cX7_readClause 82 = .ok (.iload_n 1, 1) := by decide +kernel
theorem dX7_readClause_83 : decode cX7_readClause 83 = .ok (.bipush 8, 2) := by decide +kernel
theorem dX7_readClause_85 : decode cX7_readClause 85 = .ok (.if_icmp .eq 23, 3) := by decide +kernel
theorem dX7_readClause_88 : decode cX7_readClause 88 = .ok (.aload_n 0, 1) := by decide +kernel
theorem dX7_readClause_89 : decode cX7_readClause 89 = .ok (.getfield 34, 3) := by decide +kernel
theorem dX7_readClause_92 : decode cX7_readClause 92 = .ok (.iload_n 2, 1) := by decide +kernel
theorem dX7_readClause_93 : decode cX7_readClause 93 = .ok (.iconst 0, 1) := by decide +kernel
theorem dX7_readClause_94 : decode cX7_readClause 94 = .ok (.iastore, 1) := by decide +kernel
theorem dX7_readClause_95 : decode cX7_readClause 95 = .ok (.aload_n 0, 1) := by decide +kernel
theorem dX7_readClause_96 : decode cX7_readClause 96 = .ok (.getfield 37, 3) := by decide +kernel
theorem dX7_readClause_99 : decode cX7_readClause 99 = .ok (.iload_n 2, 1) := by decide +kernel
theorem dX7_readClause_100 : decode cX7_readClause 100 = .ok (.iconst 0, 1) := by decide +kernel
theorem dX7_readClause_101 : decode cX7_readClause 101 = .ok (.iastore, 1) := by decide +kernel
theorem dX7_readClause_102 : decode cX7_readClause 102 = .ok (.iinc 2 1, 3) := by decide +kernel
theorem dX7_readClause_105 : decode cX7_readClause 105 = .ok (.goto (-29), 3) := by decide +kernel
theorem dX7_readClause_108 : decode cX7_readClause 108 = .ok (.iconst 1, 1) := by decide +kernel
theorem dX7_readClause_109 : decode cX7_readClause 109 = .ok (.ireturn, 1) := by decide +kernel
theorem dX7_readText_0 : decode cX7_readText 0 = .ok (.aload_n 0, 1) := by decide +kernel
theorem dX7_readText_1 : decode cX7_readText 1 = .ok (.iconst 0, 1) := by decide +kernel
theorem dX7_readText_2 : decode cX7_readText 2 = .ok (.putfield 87, 3) := by decide +kernel
theorem dX7_readText_5 : decode cX7_readText 5 = .ok (.aload_n 0, 1) := by decide +kernel
theorem dX7_readText_6 : decode cX7_readText 6 = .ok (.iconst 0, 1) := by decide +kernel
theorem dX7_readText_7 : decode cX7_readText 7 = .ok (.putfield 153, 3) := by decide +kernel
theorem dX7_readText_10 : decode cX7_readText 10 = .ok (.aload_n 0, 1) := by decide +kernel
theorem dX7_readText_11 : decode cX7_readText 11 = .ok (.aload_n 0, 1) := by decide +kernel
theorem dX7_readText_12 : decode cX7_readText 12 = .ok (.getfield 74, 3) := by decide +kernel
theorem dX7_readText_15 : decode cX7_readText 15 = .ok (.putfield 128, 3) := by decide +kernel
theorem dX7_readText_18 : decode cX7_readText 18 = .ok (.aload_n 0, 1) := by decide +kernel
theorem dX7_readText_19 : decode cX7_readText 19 = .ok (.aload_n 0, 1) := by decide +kernel
theorem dX7_readText_20 : decode cX7_readText 20 = .ok (.getfield 156, 3) := by decide +kernel
theorem dX7_readText_23 : decode cX7_readText 23 = .ok (.putfield 135, 3) := by decide +kernel
theorem dX7_readText_26 : decode cX7_readText 26 = .ok (.iconst 0, 1) := by decide +kernel
theorem dX7_readText_27 : decode cX7_readText 27 = .ok (.istore_n 1, 1) := by decide +kernel
theorem dX7_readText_28 : decode cX7_readText 28 = .ok (.iload_n 1, 1) := by decide +kernel
theorem dX7_readText_29 : decode cX7_readText 29 = .ok (.bipush 8, 2) := by decide +kernel
theorem dX7_readText_31 : decode cX7_readText 31 = .ok (.if_icmp .ge 85, 3) := by decide +kernel
theorem dX7_readText_34 : decode cX7_readText 34 = .ok (.aload_n 0, 1) := by decide +kernel
theorem dX7_readText_35 : decode cX7_readText 35 = .ok (.getfield 31, 3) := by decide +kernel
theorem dX7_readText_38 : decode cX7_readText 38 = .ok (.iconst 3, 1) := by decide +kernel
theorem dX7_readText_39 : decode cX7_readText 39 = .ok (.iload_n 1, 1) := by decide +kernel
theorem dX7_readText_40 : decode cX7_readText 40 = .ok (.imul, 1) := by decide +kernel
theorem dX7_readText_41 : decode cX7_readText 41 = .ok (.aload_n 0, 1) := by decide +kernel
theorem dX7_readText_42 : decode cX7_readText 42 = .ok (.getfield 7, 3) := by decide +kernel
theorem dX7_readText_45 : decode cX7_readText 45 = .ok (.iload_n 1, 1) := by decide +kernel
theorem dX7_readText_46 : decode cX7_readText 46 = .ok (.iaload, 1) := by decide +kernel
theorem dX7_readText_47 : decode cX7_readText 47 = .ok (.iastore, 1) := by decide +kernel
theorem dX7_readText_48 : decode cX7_readText 48 = .ok (.aload_n 0, 1) := by decide +kernel
theorem dX7_readText_49 : decode cX7_readText 49 = .ok (.getfield 31, 3) := by decide +kernel
theorem dX7_readText_52 : decode cX7_readText 52 = .ok (.iconst 3, 1) := by decide +kernel
theorem dX7_readText_53 : decode cX7_readText 53 = .ok (.iload_n 1, 1) := by decide +kernel
theorem dX7_readText_54 : decode cX7_readText 54 = .ok (.imul, 1) := by decide +kernel
theorem dX7_readText_55 : decode cX7_readText 55 = .ok (.iconst 1, 1) := by decide +kernel
theorem dX7_readText_56 : decode cX7_readText 56 = .ok (.iadd, 1) := by decide +kernel
theorem dX7_readText_57 : decode cX7_readText 57 = .ok (.aload_n 0, 1) := by decide +kernel
theorem dX7_readText_58 : decode cX7_readText 58 = .ok (.getfield 13, 3) := by decide +kernel
theorem dX7_readText_61 : decode cX7_readText 61 = .ok (.iload_n 1, 1) := by decide +kernel
theorem dX7_readText_62 : decode cX7_readText 62 = .ok (.iaload, 1) := by decide +kernel
theorem dX7_readText_63 : decode cX7_readText 63 = .ok (.iastore, 1) := by decide +kernel
theorem dX7_readText_64 : decode cX7_readText 64 = .ok (.aload_n 0, 1) := by decide +kernel
theorem dX7_readText_65 : decode cX7_readText 65 = .ok (.getfield 31, 3) := by decide +kernel
theorem dX7_readText_68 : decode cX7_readText 68 = .ok (.iconst 3, 1) := by decide +kernel
theorem dX7_readText_69 : decode cX7_readText 69 = .ok (.iload_n 1, 1) := by decide +kernel
theorem dX7_readText_70 : decode cX7_readText 70 = .ok (.imul, 1) := by decide +kernel
theorem dX7_readText_71 : decode cX7_readText 71 = .ok (.iconst 2, 1) := by decide +kernel
theorem dX7_readText_72 : decode cX7_readText 72 = .ok (.iadd, 1) := by decide +kernel
theorem dX7_readText_73 : decode cX7_readText 73 = .ok (.aload_n 0, 1) := by decide +kernel
theorem dX7_readText_74 : decode cX7_readText 74 = .ok (.getfield 22, 3) := by decide +kernel
theorem dX7_readText_77 : decode cX7_readText 77 = .ok (.iload_n 1, 1) := by decide +kernel
theorem dX7_readText_78 : decode cX7_readText 78 = .ok (.iaload, 1) := by decide +kernel
theorem dX7_readText_79 : decode cX7_readText 79 = .ok (.iastore, 1) := by decide +kernel
theorem dX7_readText_80 : decode cX7_readText 80 = .ok (.aload_n 0, 1) := by decide +kernel
theorem dX7_readText_81 : decode cX7_readText 81 = .ok (.getfield 34, 3) := by decide +kernel
theorem dX7_readText_84 : decode cX7_readText 84 = .ok (.iload_n 1, 1) := by decide +kernel
theorem dX7_readText_85 : decode cX7_readText 85 = .ok (.aload_n 0, 1) := by decide +kernel
theorem dX7_readText_86 : decode cX7_readText 86 = .ok (.getfield 22, 3) := by decide +kernel
theorem dX7_readText_89 : decode cX7_readText 89 = .ok (.bipush 8, 2) := by decide +kernel
theorem dX7_readText_91 : decode cX7_readText 91 = .ok (.iload_n 1, 1) := by decide +kernel
theorem dX7_readText_92 : decode cX7_readText 92 = .ok (.iadd, 1) := by decide +kernel
theorem dX7_readText_93 : decode cX7_readText 93 = .ok (.iaload, 1) := by decide +kernel
theorem dX7_readText_94 : decode cX7_readText 94 = .ok (.iastore, 1) := by decide +kernel
theorem dX7_readText_95 : decode cX7_readText 95 = .ok (.aload_n 0, 1) := by decide +kernel
theorem dX7_readText_96 : decode cX7_readText 96 = .ok (.getfield 37, 3) := by decide +kernel
theorem dX7_readText_99 : decode cX7_readText 99 = .ok (.iload_n 1, 1) := by decide +kernel
theorem dX7_readText_100 : decode cX7_readText 100 = .ok (.aload_n 0, 1) := by decide +kernel
theorem dX7_readText_101 : decode cX7_readText 101 = .ok (.getfield 22, 3) := by decide +kernel
theorem dX7_readText_104 : decode cX7_readText 104 = .ok (.bipush 16, 2) := by decide +kernel
theorem dX7_readText_106 : decode cX7_readText 106 = .ok (.iload_n 1, 1) := by decide +kernel
theorem dX7_readText_107 : decode cX7_readText 107 = .ok (.iadd, 1) := by decide +kernel
theorem dX7_readText_108 : decode cX7_readText 108 = .ok (.iaload, 1) := by decide +kernel
theorem dX7_readText_109 : decode cX7_readText 109 = .ok (.iastore, 1) := by decide +kernel
theorem dX7_readText_110 : decode cX7_readText 110 = .ok (.iinc 1 1, 3) := by decide +kernel
theorem dX7_readText_113 : decode cX7_readText 113 = .ok (.goto (-85), 3) := by decide +kernel
theorem dX7_readText_116 : decode cX7_readText 116 = .ok (.iconst 0, 1) := by decide +kernel
theorem dX7_readText_117 : decode cX7_readText 117 = .ok (.istore_n 1, 1) := by decide +kernel
theorem dX7_readText_118 : decode cX7_readText 118 = .ok (.iload_n 1, 1) := by decide +kernel
theorem dX7_readText_119 : decode cX7_readText 119 = .ok (.bipush 6, 2) := by decide +kernel
theorem dX7_readText_121 : decode cX7_readText 121 = .ok (.if_icmp .ge 33, 3) := by decide +kernel
theorem dX7_readText_124 : decode cX7_readText 124 = .ok (.aload_n 0, 1) := by decide +kernel
theorem dX7_readText_125 : decode cX7_readText 125 = .ok (.getfield 40, 3) := by decide +kernel
theorem dX7_readText_128 : decode cX7_readText 128 = .ok (.iload_n 1, 1) := by decide +kernel
theorem dX7_readText_129 : decode cX7_readText 129 = .ok (.aload_n 0, 1) := by decide +kernel
theorem dX7_readText_130 : decode cX7_readText 130 = .ok (.getfield 16, 3) := by decide +kernel
theorem dX7_readText_133 : decode cX7_readText 133 = .ok (.iload_n 1, 1) := by decide +kernel
theorem dX7_readText_134 : decode cX7_readText 134 = .ok (.iaload, 1) := by decide +kernel
theorem dX7_readText_135 : decode cX7_readText 135 = .ok (.iastore, 1) := by decide +kernel
theorem dX7_readText_136 : decode cX7_readText 136 = .ok (.aload_n 0, 1) := by decide +kernel
theorem dX7_readText_137 : decode cX7_readText 137 = .ok (.getfield 43, 3) := by decide +kernel
theorem dX7_readText_140 : decode cX7_readText 140 = .ok (.iload_n 1, 1) := by decide +kernel
theorem dX7_readText_141 : decode cX7_readText 141 = .ok (.aload_n 0, 1) := by decide +kernel
theorem dX7_readText_142 : decode cX7_readText 142 = .ok (.getfield 19, 3) := by decide +kernel
theorem dX7_readText_145 : decode cX7_readText 145 = .ok (.iload_n 1, 1) := by decide +kernel
theorem dX7_readText_146 : decode cX7_readText 146 = .ok (.iaload, 1) := by decide +kernel
theorem dX7_readText_147 : decode cX7_readText 147 = .ok (.iastore, 1) := by decide +kernel
theorem dX7_readText_148 : decode cX7_readText 148 = .ok (.iinc 1 1, 3) := by decide +kernel
theorem dX7_readText_151 : decode cX7_readText 151 = .ok (.goto (-33), 3) := by decide +kernel
theorem dX7_readText_154 : decode cX7_readText 154 = .ok (.aload_n 0, 1) := by decide +kernel
theorem dX7_readText_155 : decode cX7_readText 155 = .ok (.invokevirtual 121, 3) := by decide +kernel
theorem dX7_readText_158 : decode cX7_readText 158 = .ok (.aload_n 0, 1) := by decide +kernel
theorem dX7_readText_159 : decode cX7_readText 159 = .ok (.invokevirtual 159, 3) := by decide +kernel
theorem dX7_readText_162 : decode cX7_readText 162 = .ok (.ifCond .ne 5, 3) := by decide +kernel
theorem dX7_readText_165 : decode cX7_readText 165 = .ok (.iconst 0, 1) := by decide +kernel
theorem dX7_readText_166 : decode cX7_readText 166 = .ok (.ireturn, 1) := by decide +kernel
theorem dX7_readText_167 : decode cX7_readText 167 = .ok (.aload_n 0, 1) := by decide +kernel
theorem dX7_readText_168 : decode cX7_readText 168 = .ok (.dup, 1) := by decide +kernel
theorem dX7_readText_169 : decode cX7_readText 169 = .ok (.getfield 153, 3) := by decide +kernel
theorem dX7_readText_172 : decode cX7_readText 172 = .ok (.iconst 1, 1) := by decide +kernel
theorem dX7_readText_173 : decode cX7_readText 173 = .ok (.iadd, 1) := by decide +kernel
theorem dX7_readText_174 : decode cX7_readText 174 = .ok (.putfield 153, 3) := by decide +kernel
theorem dX7_readText_177 : decode cX7_readText 177 = .ok (.aload_n 0, 1) := by decide +kernel
theorem dX7_readText_178 : decode cX7_readText 178 = .ok (.invokevirtual 121, 3) := by decide +kernel
theorem dX7_readText_181 : decode cX7_readText 181 = .ok (.aload_n 0, 1) := by decide +kernel
theorem dX7_readText_182 : decode cX7_readText 182 = .ok (.getfield 100, 3) := by decide +kernel
theorem dX7_readText_185 : decode cX7_readText 185 = .ok (.iconst 3, 1) := by decide +kernel
theorem dX7_readText_186 : decode cX7_readText 186 = .ok (.if_icmp .ne 5, 3) := by decide +kernel
theorem dX7_readText_189 : decode cX7_readText 189 = .ok (.iconst 1, 1) := by decide +kernel
theorem dX7_readText_190 : decode cX7_readText 190 = .ok (.ireturn, 1) := by decide +kernel
theorem dX7_readText_191 : decode cX7_readText 191 = .ok (.aload_n 0, 1) := by decide +kernel
theorem dX7_readText_192 : decode cX7_readText 192 = .ok (.getfield 100, 3) := by decide +kernel
theorem dX7_readText_195 : decode cX7_readText 195 = .ok (.ifCond .ne 21, 3) := by decide +kernel
theorem dX7_readText_198 : decode cX7_readText 198 = .ok (.aload_n 0, 1) := by decide +kernel
theorem dX7_readText_199 : decode cX7_readText 199 = .ok (.getfield 97, 3) := by decide +kernel
theorem dX7_readText_202 : decode cX7_readText 202 = .ok (.bipush 59, 2) := by decide +kernel
theorem dX7_readText_204 : decode cX7_readText 204 = .ok (.if_icmp .ne 12, 3) := by decide +kernel
theorem dX7_readText_207 : decode cX7_readText 207 = .ok (.aload_n 0, 1) := by decide +kernel
theorem dX7_readText_208 : decode cX7_readText 208 = .ok (.getfield 153, 3) := by decide +kernel
theorem dX7_readText_211 : decode cX7_readText 211 = .ok (.bipush 14, 2) := by decide +kernel
theorem dX7_readText_213 : decode cX7_readText 213 = .ok (.if_icmp .ne (-59), 3) := by decide +kernel
theorem dX7_readText_216 : decode cX7_readText 216 = .ok (.iconst 0, 1) := by decide +kernel
theorem dX7_readText_217 : decode cX7_readText 217 = .ok (.ireturn, 1) := by decide +kernel
theorem dX7_fault_0 : decode cX7_fault 0 = .ok (.aload_n 0, 1) := by decide +kernel
theorem dX7_fault_1 : decode cX7_fault 1 = .ok (.invokevirtual 163, 3) := by decide +kernel
theorem dX7_fault_4 : decode cX7_fault 4 = .ok (.ifCond .eq 7, 3) := by decide +kernel
theorem dX7_fault_7 : decode cX7_fault 7 = .ok (.iconst (-1), 1) := by decide +kernel
theorem dX7_fault_8 : decode cX7_fault 8 = .ok (.goto 7, 3) := by decide +kernel
theorem dX7_fault_11 : decode cX7_fault 11 = .ok (.aload_n 0, 1) := by decide +kernel
theorem dX7_fault_12 : decode cX7_fault 12 = .ok (.getfield 94, 3) := by decide +kernel
theorem dX7_fault_15 : decode cX7_fault 15 = .ok (.ireturn, 1) := by decide +kernel
theorem dX7_loom_0 : decode cX7_loom 0 = .ok (.aload_n 0, 1) := by decide +kernel
theorem dX7_loom_1 : decode cX7_loom 1 = .ok (.invokevirtual 163, 3) := by decide +kernel
theorem dX7_loom_4 : decode cX7_loom 4 = .ok (.ifCond .ne 6, 3) := by decide +kernel
theorem dX7_loom_7 : decode cX7_loom 7 = .ok (.bipush (-4), 2) := by decide +kernel
theorem dX7_loom_9 : decode cX7_loom 9 = .ok (.ireturn, 1) := by decide +kernel
theorem dX7_loom_10 : decode cX7_loom 10 = .ok (.aload_n 0, 1) := by decide +kernel
theorem dX7_loom_11 : decode cX7_loom 11 = .ok (.iconst 0, 1) := by decide +kernel
theorem dX7_loom_12 : decode cX7_loom 12 = .ok (.putfield 84, 3) := by decide +kernel
theorem dX7_loom_15 : decode cX7_loom 15 = .ok (.aload_n 0, 1) := by decide +kernel
theorem dX7_loom_16 : decode cX7_loom 16 = .ok (.aload_n 0, 1) := by decide +kernel
theorem dX7_loom_17 : decode cX7_loom 17 = .ok (.getfield 128, 3) := by decide +kernel
theorem dX7_loom_20 : decode cX7_loom 20 = .ok (.putfield 74, 3) := by decide +kernel
theorem dX7_loom_23 : decode cX7_loom 23 = .ok (.aload_n 0, 1) := by decide +kernel
theorem dX7_loom_24 : decode cX7_loom 24 = .ok (.aload_n 0, 1) := by decide +kernel
theorem dX7_loom_25 : decode cX7_loom 25 = .ok (.getfield 135, 3) := by decide +kernel
theorem dX7_loom_28 : decode cX7_loom 28 = .ok (.putfield 156, 3) := by decide +kernel
theorem dX7_loom_31 : decode cX7_loom 31 = .ok (.iconst 0, 1) := by decide +kernel
theorem dX7_loom_32 : decode cX7_loom 32 = .ok (.istore_n 1, 1) := by decide +kernel
theorem dX7_loom_33 : decode cX7_loom 33 = .ok (.iload_n 1, 1) := by decide +kernel
theorem dX7_loom_34 : decode cX7_loom 34 = .ok (.bipush 8, 2) := by decide +kernel
theorem dX7_loom_36 : decode cX7_loom 36 = .ok (.if_icmp .ge 181, 3) := by decide +kernel
theorem dX7_loom_39 : decode cX7_loom 39 = .ok (.aload_n 0, 1) := by decide +kernel
theorem dX7_loom_40 : decode cX7_loom 40 = .ok (.getfield 7, 3) := by decide +kernel
theorem dX7_loom_43 : decode cX7_loom 43 = .ok (.iload_n 1, 1) := by decide +kernel
theorem dX7_loom_44 : decode cX7_loom 44 = .ok (.aload_n 0, 1) := by decide +kernel
theorem dX7_loom_45 : decode cX7_loom 45 = .ok (.getfield 31, 3) := by decide +kernel
theorem dX7_loom_48 : decode cX7_loom 48 = .ok (.iconst 3, 1) := by decide +kernel
theorem dX7_loom_49 : decode cX7_loom 49 = .ok (.iload_n 1, 1) := by decide +kernel
theorem dX7_loom_50 : decode cX7_loom 50 = .ok (.imul, 1) := by decide +kernel
theorem dX7_loom_51 : decode cX7_loom 51 = .ok (.iaload, 1) := by decide +kernel
theorem dX7_loom_52 : decode cX7_loom 52 = .ok (.iastore, 1) := by decide +kernel
theorem dX7_loom_53 : decode cX7_loom 53 = .ok (.aload_n 0, 1) := by decide +kernel
theorem dX7_loom_54 : decode cX7_loom 54 = .ok (.getfield 13, 3) := by decide +kernel
theorem dX7_loom_57 : decode cX7_loom 57 = .ok (.iload_n 1, 1) := by decide +kernel
theorem dX7_loom_58 : decode cX7_loom 58 = .ok (.aload_n 0, 1) := by decide +kernel
theorem dX7_loom_59 : decode cX7_loom 59 = .ok (.getfield 31, 3) := by decide +kernel
theorem dX7_loom_62 : decode cX7_loom 62 = .ok (.iconst 3, 1) := by decide +kernel
theorem dX7_loom_63 : decode cX7_loom 63 = .ok (.iload_n 1, 1) := by decide +kernel
theorem dX7_loom_64 : decode cX7_loom 64 = .ok (.imul, 1) := by decide +kernel
theorem dX7_loom_65 : decode cX7_loom 65 = .ok (.iconst 1, 1) := by decide +kernel
theorem dX7_loom_66 : decode cX7_loom 66 = .ok (.iadd, 1) := by decide +kernel
theorem dX7_loom_67 : decode cX7_loom 67 = .ok (.iaload, 1) := by decide +kernel
theorem dX7_loom_68 : decode cX7_loom 68 = .ok (.iastore, 1) := by decide +kernel
theorem dX7_loom_69 : decode cX7_loom 69 = .ok (.aload_n 0, 1) := by decide +kernel
theorem dX7_loom_70 : decode cX7_loom 70 = .ok (.getfield 25, 3) := by decide +kernel
theorem dX7_loom_73 : decode cX7_loom 73 = .ok (.iconst 0, 1) := by decide +kernel
theorem dX7_loom_74 : decode cX7_loom 74 = .ok (.iload_n 1, 1) := by decide +kernel
theorem dX7_loom_75 : decode cX7_loom 75 = .ok (.iadd, 1) := by decide +kernel
theorem dX7_loom_76 : decode cX7_loom 76 = .ok (.aload_n 0, 1) := by decide +kernel
theorem dX7_loom_77 : decode cX7_loom 77 = .ok (.getfield 31, 3) := by decide +kernel
theorem dX7_loom_80 : decode cX7_loom 80 = .ok (.iconst 3, 1) := by decide +kernel
theorem dX7_loom_81 : decode cX7_loom 81 = .ok (.iload_n 1, 1) := by decide +kernel
theorem dX7_loom_82 : decode cX7_loom 82 = .ok (.imul, 1) := by decide +kernel
theorem dX7_loom_83 : decode cX7_loom 83 = .ok (.iconst 2, 1) := by decide +kernel
theorem dX7_loom_84 : decode cX7_loom 84 = .ok (.iadd, 1) := by decide +kernel
theorem dX7_loom_85 : decode cX7_loom 85 = .ok (.iaload, 1) := by decide +kernel
theorem dX7_loom_86 : decode cX7_loom 86 = .ok (.iastore, 1) := by decide +kernel
theorem dX7_loom_87 : decode cX7_loom 87 = .ok (.aload_n 0, 1) := by decide +kernel
theorem dX7_loom_88 : decode cX7_loom 88 = .ok (.getfield 25, 3) := by decide +kernel
theorem dX7_loom_91 : decode cX7_loom 91 = .ok (.bipush 8, 2) := by decide +kernel
theorem dX7_loom_93 : decode cX7_loom 93 = .ok (.iload_n 1, 1) := by decide +kernel
theorem dX7_loom_94 : decode cX7_loom 94 = .ok (.iadd, 1) := by decide +kernel
theorem dX7_loom_95 : decode cX7_loom 95 = .ok (.iconst 0, 1) := by decide +kernel
theorem dX7_loom_96 : decode cX7_loom 96 = .ok (.iastore, 1) := by decide +kernel
theorem dX7_loom_97 : decode cX7_loom 97 = .ok (.aload_n 0, 1) := by decide +kernel
theorem dX7_loom_98 : decode cX7_loom 98 = .ok (.getfield 25, 3) := by decide +kernel
theorem dX7_loom_101 : decode cX7_loom 101 = .ok (.bipush 16, 2) := by decide +kernel
theorem dX7_loom_103 : decode cX7_loom 103 = .ok (.iload_n 1, 1) := by decide +kernel
theorem dX7_loom_104 : decode cX7_loom 104 = .ok (.iadd, 1) := by decide +kernel
theorem dX7_loom_105 : decode cX7_loom 105 = .ok (.iconst (-1), 1) := by decide +kernel
theorem dX7_loom_106 : decode cX7_loom 106 = .ok (.iastore, 1) := by decide +kernel
theorem dX7_loom_107 : decode cX7_loom 107 = .ok (.aload_n 0, 1) := by decide +kernel
theorem dX7_loom_108 : decode cX7_loom 108 = .ok (.getfield 25, 3) := by decide +kernel
theorem dX7_loom_111 : decode cX7_loom 111 = .ok (.bipush 24, 2) := by decide +kernel
theorem dX7_loom_113 : decode cX7_loom 113 = .ok (.iload_n 1, 1) := by decide +kernel
theorem dX7_loom_114 : decode cX7_loom 114 = .ok (.iadd, 1) := by decide +kernel
theorem dX7_loom_115 : decode cX7_loom 115 = .ok (.iload_n 1, 1) := by decide +kernel
theorem dX7_loom_116 : decode cX7_loom 116 = .ok (.aload_n 0, 1) := by decide +kernel
theorem dX7_loom_117 : decode cX7_loom 117 = .ok (.getfield 74, 3) := by decide +kernel
theorem dX7_loom_120 : decode cX7_loom 120 = .ok (.if_icmp .ge 12, 3) := by decide +kernel
theorem dX7_loom_123 : decode cX7_loom 123 = .ok (.aload_n 0, 1) := by decide +kernel
theorem dX7_loom_124 : decode cX7_loom 124 = .ok (.getfield 34, 3) := by decide +kernel
theorem dX7_loom_127 : decode cX7_loom 127 = .ok (.iload_n 1, 1) := by decide +kernel
theorem dX7_loom_128 : decode cX7_loom 128 = .ok (.iaload, 1) := by decide +kernel
theorem dX7_loom_129 : decode cX7_loom 129 = .ok (.goto 4, 3) := by decide +kernel
theorem dX7_loom_132 : decode cX7_loom 132 = .ok (.iconst 0, 1) := by decide +kernel
theorem dX7_loom_133 : decode cX7_loom 133 = .ok (.iastore, 1) := by decide +kernel
theorem dX7_loom_134 : decode cX7_loom 134 = .ok (.aload_n 0, 1) := by decide +kernel
theorem dX7_loom_135 : decode cX7_loom 135 = .ok (.getfield 25, 3) := by decide +kernel
theorem dX7_loom_138 : decode cX7_loom 138 = .ok (.bipush 32, 2) := by decide +kernel
theorem dX7_loom_140 : decode cX7_loom 140 = .ok (.iload_n 1, 1) := by decide +kernel
theorem dX7_loom_141 : decode cX7_loom 141 = .ok (.iadd, 1) := by decide +kernel
theorem dX7_loom_142 : decode cX7_loom 142 = .ok (.iload_n 1, 1) := by decide +kernel
theorem dX7_loom_143 : decode cX7_loom 143 = .ok (.aload_n 0, 1) := by decide +kernel
theorem dX7_loom_144 : decode cX7_loom 144 = .ok (.getfield 74, 3) := by decide +kernel
theorem dX7_loom_147 : decode cX7_loom 147 = .ok (.if_icmp .ge 12, 3) := by decide +kernel
theorem dX7_loom_150 : decode cX7_loom 150 = .ok (.aload_n 0, 1) := by decide +kernel
theorem dX7_loom_151 : decode cX7_loom 151 = .ok (.getfield 37, 3) := by decide +kernel
theorem dX7_loom_154 : decode cX7_loom 154 = .ok (.iload_n 1, 1) := by decide +kernel
theorem dX7_loom_155 : decode cX7_loom 155 = .ok (.iaload, 1) := by decide +kernel
theorem dX7_loom_156 : decode cX7_loom 156 = .ok (.goto 4, 3) := by decide +kernel
theorem dX7_loom_159 : decode cX7_loom 159 = .ok (.iconst 0, 1) := by decide +kernel
theorem dX7_loom_160 : decode cX7_loom 160 = .ok (.iastore, 1) := by decide +kernel
theorem dX7_loom_161 : decode cX7_loom 161 = .ok (.aload_n 0, 1) := by decide +kernel
theorem dX7_loom_162 : decode cX7_loom 162 = .ok (.getfield 22, 3) := by decide +kernel
theorem dX7_loom_165 : decode cX7_loom 165 = .ok (.iload_n 1, 1) := by decide +kernel
theorem dX7_loom_166 : decode cX7_loom 166 = .ok (.aload_n 0, 1) := by decide +kernel
theorem dX7_loom_167 : decode cX7_loom 167 = .ok (.getfield 25, 3) := by decide +kernel
theorem dX7_loom_170 : decode cX7_loom 170 = .ok (.iconst 0, 1) := by decide +kernel
theorem dX7_loom_171 : decode cX7_loom 171 = .ok (.iload_n 1, 1) := by decide +kernel
theorem dX7_loom_172 : decode cX7_loom 172 = .ok (.iadd, 1) := by decide +kernel
theorem dX7_loom_173 : decode cX7_loom 173 = .ok (.iaload, 1) := by decide +kernel
theorem dX7_loom_174 : decode cX7_loom 174 = .ok (.iastore, 1) := by decide +kernel
theorem dX7_loom_175 : decode cX7_loom 175 = .ok (.aload_n 0, 1) := by decide +kernel
theorem dX7_loom_176 : decode cX7_loom 176 = .ok (.getfield 22, 3) := by decide +kernel
theorem dX7_loom_179 : decode cX7_loom 179 = .ok (.bipush 8, 2) := by decide +kernel
theorem dX7_loom_181 : decode cX7_loom 181 = .ok (.iload_n 1, 1) := by decide +kernel
theorem dX7_loom_182 : decode cX7_loom 182 = .ok (.iadd, 1) := by decide +kernel
theorem dX7_loom_183 : decode cX7_loom 183 = .ok (.aload_n 0, 1) := by decide +kernel
theorem dX7_loom_184 : decode cX7_loom 184 = .ok (.getfield 25, 3) := by decide +kernel
theorem dX7_loom_187 : decode cX7_loom 187 = .ok (.bipush 24, 2) := by decide +kernel
theorem dX7_loom_189 : decode cX7_loom 189 = .ok (.iload_n 1, 1) := by decide +kernel
theorem dX7_loom_190 : decode cX7_loom 190 = .ok (.iadd, 1) := by decide +kernel
theorem dX7_loom_191 : decode cX7_loom 191 = .ok (.iaload, 1) := by decide +kernel
theorem dX7_loom_192 : decode cX7_loom 192 = .ok (.iastore, 1) := by decide +kernel
theorem dX7_loom_193 : decode cX7_loom 193 = .ok (.aload_n 0, 1) := by decide +kernel
theorem dX7_loom_194 : decode cX7_loom 194 = .ok (.getfield 22, 3) := by decide +kernel
theorem dX7_loom_197 : decode cX7_loom 197 = .ok (.bipush 16, 2) := by decide +kernel
theorem dX7_loom_199 : decode cX7_loom 199 = .ok (.iload_n 1, 1) := by decide +kernel
theorem dX7_loom_200 : decode cX7_loom 200 = .ok (.iadd, 1) := by decide +kernel
theorem dX7_loom_201 : decode cX7_loom 201 = .ok (.aload_n 0, 1) := by decide +kernel
theorem dX7_loom_202 : decode cX7_loom 202 = .ok (.getfield 25, 3) := by decide +kernel
theorem dX7_loom_205 : decode cX7_loom 205 = .ok (.bipush 32, 2) := by decide +kernel
theorem dX7_loom_207 : decode cX7_loom 207 = .ok (.iload_n 1, 1) := by decide +kernel
theorem dX7_loom_208 : decode cX7_loom 208 = .ok (.iadd, 1) := by decide +kernel
theorem dX7_loom_209 : decode cX7_loom 209 = .ok (.iaload, 1) := by decide +kernel
theorem dX7_loom_210 : decode cX7_loom 210 = .ok (.iastore, 1) := by decide +kernel
theorem dX7_loom_211 : decode cX7_loom 211 = .ok (.iinc 1 1, 3) := by decide +kernel
theorem dX7_loom_214 : decode cX7_loom 214 = .ok (.goto (-181), 3) := by decide +kernel
theorem dX7_loom_217 : decode cX7_loom 217 = .ok (.iconst 0, 1) := by decide +kernel
theorem dX7_loom_218 : decode cX7_loom 218 = .ok (.istore_n 1, 1) := by decide +kernel
theorem dX7_loom_219 : decode cX7_loom 219 = .ok (.iload_n 1, 1) := by decide +kernel
theorem dX7_loom_220 : decode cX7_loom 220 = .ok (.bipush 6, 2) := by decide +kernel
theorem dX7_loom_222 : decode cX7_loom 222 = .ok (.if_icmp .ge 33, 3) := by decide +kernel
theorem dX7_loom_225 : decode cX7_loom 225 = .ok (.aload_n 0, 1) := by decide +kernel
theorem dX7_loom_226 : decode cX7_loom 226 = .ok (.getfield 16, 3) := by decide +kernel
theorem dX7_loom_229 : decode cX7_loom 229 = .ok (.iload_n 1, 1) := by decide +kernel
theorem dX7_loom_230 : decode cX7_loom 230 = .ok (.aload_n 0, 1) := by decide +kernel
theorem dX7_loom_231 : decode cX7_loom 231 = .ok (.getfield 40, 3) := by decide +kernel
theorem dX7_loom_234 : decode cX7_loom 234 = .ok (.iload_n 1, 1) := by decide +kernel
theorem dX7_loom_235 : decode cX7_loom 235 = .ok (.iaload, 1) := by decide +kernel
theorem dX7_loom_236 : decode cX7_loom 236 = .ok (.iastore, 1) := by decide +kernel
theorem dX7_loom_237 : decode cX7_loom 237 = .ok (.aload_n 0, 1) := by decide +kernel
theorem dX7_loom_238 : decode cX7_loom 238 = .ok (.getfield 19, 3) := by decide +kernel
theorem dX7_loom_241 : decode cX7_loom 241 = .ok (.iload_n 1, 1) := by decide +kernel
theorem dX7_loom_242 : decode cX7_loom 242 = .ok (.aload_n 0, 1) := by decide +kernel
theorem dX7_loom_243 : decode cX7_loom 243 = .ok (.getfield 43, 3) := by decide +kernel
theorem dX7_loom_246 : decode cX7_loom 246 = .ok (.iload_n 1, 1) := by decide +kernel
theorem dX7_loom_247 : decode cX7_loom 247 = .ok (.iaload, 1) := by decide +kernel
theorem dX7_loom_248 : decode cX7_loom 248 = .ok (.iastore, 1) := by decide +kernel
theorem dX7_loom_249 : decode cX7_loom 249 = .ok (.iinc 1 1, 3) := by decide +kernel
theorem dX7_loom_252 : decode cX7_loom 252 = .ok (.goto (-33), 3) := by decide +kernel
theorem dX7_loom_255 : decode cX7_loom 255 = .ok (.aload_n 0, 1) := by decide +kernel
theorem dX7_loom_256 : decode cX7_loom 256 = .ok (.getfield 25, 3) := by decide +kernel
theorem dX7_loom_259 : decode cX7_loom 259 = .ok (.bipush 40, 2) := by decide +kernel
theorem dX7_loom_261 : decode cX7_loom 261 = .ok (.iconst 0, 1) := by decide +kernel
theorem dX7_loom_262 : decode cX7_loom 262 = .ok (.iastore, 1) := by decide +kernel
theorem dX7_loom_263 : decode cX7_loom 263 = .ok (.aload_n 0, 1) := by decide +kernel
theorem dX7_loom_264 : decode cX7_loom 264 = .ok (.getfield 25, 3) := by decide +kernel
theorem dX7_loom_267 : decode cX7_loom 267 = .ok (.bipush 41, 2) := by decide +kernel
theorem dX7_loom_269 : decode cX7_loom 269 = .ok (.iconst 0, 1) := by decide +kernel
theorem dX7_loom_270 : decode cX7_loom 270 = .ok (.iastore, 1) := by decide +kernel
theorem dX7_loom_271 : decode cX7_loom 271 = .ok (.aload_n 0, 1) := by decide +kernel
theorem dX7_loom_272 : decode cX7_loom 272 = .ok (.iconst 0, 1) := by decide +kernel
theorem dX7_loom_273 : decode cX7_loom 273 = .ok (.putfield 166, 3) := by decide +kernel
theorem dX7_loom_276 : decode cX7_loom 276 = .ok (.aload_n 0, 1) := by decide +kernel
theorem dX7_loom_277 : decode cX7_loom 277 = .ok (.getfield 55, 3) := by decide +kernel
theorem dX7_loom_280 : decode cX7_loom 280 = .ok (.iconst 0, 1) := by decide +kernel
theorem dX7_loom_281 : decode cX7_loom 281 = .ok (.iconst 0, 1) := by decide +kernel
theorem dX7_loom_282 : decode cX7_loom 282 = .ok (.bastore, 1) := by decide +kernel
theorem dX7_loom_283 : decode cX7_loom 283 = .ok (.aload_n 0, 1) := by decide +kernel
theorem dX7_loom_284 : decode cX7_loom 284 = .ok (.getfield 55, 3) := by decide +kernel
theorem dX7_loom_287 : decode cX7_loom 287 = .ok (.iconst 1, 1) := by decide +kernel
theorem dX7_loom_288 : decode cX7_loom 288 = .ok (.iconst 0, 1) := by decide +kernel
theorem dX7_loom_289 : decode cX7_loom 289 = .ok (.bastore, 1) := by decide +kernel
theorem dX7_loom_290 : decode cX7_loom 290 = .ok (.aload_n 0, 1) := by decide +kernel
theorem dX7_loom_291 : decode cX7_loom 291 = .ok (.getfield 153, 3) := by decide +kernel
theorem dX7_loom_294 : decode cX7_loom 294 = .ok (.ireturn, 1) := by decide +kernel
theorem dX7_isWhole_0 : decode cX7_isWhole 0 = .ok (.aload_n 0, 1) := by decide +kernel
theorem dX7_isWhole_1 : decode cX7_isWhole 1 = .ok (.getfield 25, 3) := by decide +kernel
theorem dX7_isWhole_4 : decode cX7_isWhole 4 = .ok (.bipush 8, 2) := by decide +kernel
theorem dX7_isWhole_6 : decode cX7_isWhole 6 = .ok (.iload_n 1, 1) := by decide +kernel
theorem dX7_isWhole_7 : decode cX7_isWhole 7 = .ok (.iadd, 1) := by decide +kernel
theorem dX7_isWhole_8 : decode cX7_isWhole 8 = .ok (.iaload, 1) := by decide +kernel
theorem dX7_isWhole_9 : decode cX7_isWhole 9 = .ok (.ifCond .ne 7, 3) := by decide +kernel
theorem dX7_isWhole_12 : decode cX7_isWhole 12 = .ok (.iconst 1, 1) := by decide +kernel
theorem dX7_isWhole_13 : decode cX7_isWhole 13 = .ok (.goto 4, 3) := by decide +kernel
theorem dX7_isWhole_16 : decode cX7_isWhole 16 = .ok (.iconst 0, 1) := by decide +kernel
theorem dX7_isWhole_17 : decode cX7_isWhole 17 = .ok (.ireturn, 1) := by decide +kernel
theorem dX7_wholes_0 : decode cX7_wholes 0 = .ok (.iconst 0, 1) := by decide +kernel
theorem dX7_wholes_1 : decode cX7_wholes 1 = .ok (.istore_n 1, 1) := by decide +kernel
theorem dX7_wholes_2 : decode cX7_wholes 2 = .ok (.iconst 0, 1) := by decide +kernel
theorem dX7_wholes_3 : decode cX7_wholes 3 = .ok (.istore_n 2, 1) := by decide +kernel
theorem dX7_wholes_4 : decode cX7_wholes 4 = .ok (.iload_n 2, 1) := by decide +kernel
theorem dX7_wholes_5 : decode cX7_wholes 5 = .ok (.aload_n 0, 1) := by decide +kernel
theorem dX7_wholes_6 : decode cX7_wholes 6 = .ok (.getfield 74, 3) := by decide +kernel
theorem dX7_wholes_9 : decode cX7_wholes 9 = .ok (.if_icmp .ge 27, 3) := by decide +kernel
theorem dX7_wholes_12 : decode cX7_wholes 12 = .ok (.iload_n 1, 1) := by decide +kernel
theorem dX7_wholes_13 : decode cX7_wholes 13 = .ok (.aload_n 0, 1) := by decide +kernel
theorem dX7_wholes_14 : decode cX7_wholes 14 = .ok (.iload_n 2, 1) := by decide +kernel
theorem dX7_wholes_15 : decode cX7_wholes 15 = .ok (.invokevirtual 169, 3) := by decide +kernel
theorem dX7_wholes_18 : decode cX7_wholes 18 = .ok (.ifCond .eq 9, 3) := by decide +kernel
theorem dX7_wholes_21 : decode cX7_wholes 21 = .ok (.iconst 1, 1) := by decide +kernel
theorem dX7_wholes_22 : decode cX7_wholes 22 = .ok (.iload_n 2, 1) := by decide +kernel
theorem dX7_wholes_23 : decode cX7_wholes 23 = .ok (.ishl, 1) := by decide +kernel
theorem dX7_wholes_24 : decode cX7_wholes 24 = .ok (.goto 4, 3) := by decide +kernel
theorem dX7_wholes_27 : decode cX7_wholes 27 = .ok (.iconst 0, 1) := by decide +kernel
theorem dX7_wholes_28 : decode cX7_wholes 28 = .ok (.ior, 1) := by decide +kernel
theorem dX7_wholes_29 : decode cX7_wholes 29 = .ok (.istore_n 1, 1) := by decide +kernel
theorem dX7_wholes_30 : decode cX7_wholes 30 = .ok (.iinc 2 1, 3) := by decide +kernel
theorem dX7_wholes_33 : decode cX7_wholes 33 = .ok (.goto (-29), 3) := by decide +kernel
theorem dX7_wholes_36 : decode cX7_wholes 36 = .ok (.iload_n 1, 1) := by decide +kernel
theorem dX7_wholes_37 : decode cX7_wholes 37 = .ok (.ireturn, 1) := by decide +kernel
theorem dX7_yearsOf_0 : decode cX7_yearsOf 0 = .ok (.aload_n 0, 1) := by decide +kernel
theorem dX7_yearsOf_1 : decode cX7_yearsOf 1 = .ok (.getfield 13, 3) := by decide +kernel
theorem dX7_yearsOf_4 : decode cX7_yearsOf 4 = .ok (.iload_n 1, 1) := by decide +kernel
theorem dX7_yearsOf_5 : decode cX7_yearsOf 5 = .ok (.iaload, 1) := by decide +kernel
theorem dX7_yearsOf_6 : decode cX7_yearsOf 6 = .ok (.aload_n 0, 1) := by decide +kernel
theorem dX7_yearsOf_7 : decode cX7_yearsOf 7 = .ok (.getfield 25, 3) := by decide +kernel
theorem dX7_yearsOf_10 : decode cX7_yearsOf 10 = .ok (.bipush 40, 2) := by decide +kernel
theorem dX7_yearsOf_12 : decode cX7_yearsOf 12 = .ok (.iaload, 1) := by decide +kernel
theorem dX7_yearsOf_13 : decode cX7_yearsOf 13 = .ok (.isub, 1) := by decide +kernel
theorem dX7_yearsOf_14 : decode cX7_yearsOf 14 = .ok (.istore_n 2, 1) := by decide +kernel
theorem dX7_yearsOf_15 : decode cX7_yearsOf 15 = .ok (.aload_n 0, 1) := by decide +kernel
theorem dX7_yearsOf_16 : decode cX7_yearsOf 16 = .ok (.iload_n 1, 1) := by decide +kernel
theorem dX7_yearsOf_17 : decode cX7_yearsOf 17 = .ok (.invokevirtual 169, 3) := by decide +kernel
theorem dX7_yearsOf_20 : decode cX7_yearsOf 20 = .ok (.ifCond .eq 17, 3) := by decide +kernel
theorem dX7_yearsOf_23 : decode cX7_yearsOf 23 = .ok (.aload_n 0, 1) := by decide +kernel
theorem dX7_yearsOf_24 : decode cX7_yearsOf 24 = .ok (.getfield 7, 3) := by decide +kernel
theorem dX7_yearsOf_27 : decode cX7_yearsOf 27 = .ok (.iload_n 1, 1) := by decide +kernel
theorem dX7_yearsOf_28 : decode cX7_yearsOf 28 = .ok (.iaload, 1) := by decide +kernel
theorem dX7_yearsOf_29 : decode cX7_yearsOf 29 = .ok (.iconst 3, 1) := by decide +kernel
theorem dX7_yearsOf_30 : decode cX7_yearsOf 30 = .ok (.if_icmp .eq 7, 3) := by decide +kernel
theorem dX7_yearsOf_33 : decode cX7_yearsOf 33 = .ok (.iload_n 2, 1) := by decide +kernel
theorem dX7_yearsOf_34 : decode cX7_yearsOf 34 = .ok (.ifCond .ge 5, 3) := by decide +kernel
theorem dX7_yearsOf_37 : decode cX7_yearsOf 37 = .ok (.iconst 0, 1) := by decide +kernel
theorem dX7_yearsOf_38 : decode cX7_yearsOf 38 = .ok (.ireturn, 1) := by decide +kernel
theorem dX7_yearsOf_39 : decode cX7_yearsOf 39 = .ok (.aload_n 0, 1) := by decide +kernel
theorem dX7_yearsOf_40 : decode cX7_yearsOf 40 = .ok (.getfield 7, 3) := by decide +kernel
theorem dX7_yearsOf_43 : decode cX7_yearsOf 43 = .ok (.iload_n 1, 1) := by decide +kernel
theorem dX7_yearsOf_44 : decode cX7_yearsOf 44 = .ok (.iaload, 1) := by decide +kernel
theorem dX7_yearsOf_45 : decode cX7_yearsOf 45 = .ok (.iconst 1, 1) := by decide +kernel
theorem dX7_yearsOf_46 : decode cX7_yearsOf 46 = .ok (.if_icmp .ne 9, 3) := by decide +kernel
theorem dX7_yearsOf_49 : decode cX7_yearsOf 49 = .ok (.iconst 2, 1) := by decide +kernel
theorem dX7_yearsOf_50 : decode cX7_yearsOf 50 = .ok (.iload_n 2, 1) := by decide +kernel
theorem dX7_yearsOf_51 : decode cX7_yearsOf 51 = .ok (.imul, 1) := by decide +kernel
theorem dX7_yearsOf_52 : decode cX7_yearsOf 52 = .ok (.goto 4, 3) := by decide +kernel
theorem dX7_yearsOf_55 : decode cX7_yearsOf 55 = .ok (.iload_n 2, 1) := by decide +kernel
theorem dX7_yearsOf_56 : decode cX7_yearsOf 56 = .ok (.ireturn, 1) := by decide +kernel
theorem dX7_thread_0 : decode cX7_thread 0 = .ok (.aload_n 0, 1) := by decide +kernel
theorem dX7_thread_1 : decode cX7_thread 1 = .ok (.iload_n 1, 1) := by decide +kernel
theorem dX7_thread_2 : decode cX7_thread 2 = .ok (.invokevirtual 172, 3) := by decide +kernel
theorem dX7_thread_5 : decode cX7_thread 5 = .ok (.ifCond .ne 6, 3) := by decide +kernel
theorem dX7_thread_8 : decode cX7_thread 8 = .ok (.bipush (-2), 2) := by decide +kernel
theorem dX7_thread_10 : decode cX7_thread 10 = .ok (.ireturn, 1) := by decide +kernel
theorem dX7_thread_11 : decode cX7_thread 11 = .ok (.iload_n 2, 1) := by decide +kernel
theorem dX7_thread_12 : decode cX7_thread 12 = .ok (.tableswitch 107 0 6 #[44, 51, 58, 67, 77, 87, 97], 44) := by decide +kernel
theorem dX7_thread_56 : decode cX7_thread 56 = .ok (.aload_n 0, 1) := by decide +kernel
theorem dX7_thread_57 : decode cX7_thread 57 = .ok (.getfield 7, 3) := by decide +kernel
theorem dX7_thread_60 : decode cX7_thread 60 = .ok (.iload_n 1, 1) := by decide +kernel
theorem dX7_thread_61 : decode cX7_thread 61 = .ok (.iaload, 1) := by decide +kernel
theorem dX7_thread_62 : decode cX7_thread 62 = .ok (.ireturn, 1) := by decide +kernel
theorem dX7_thread_63 : decode cX7_thread 63 = .ok (.aload_n 0, 1) := by decide +kernel
theorem dX7_thread_64 : decode cX7_thread 64 = .ok (.getfield 13, 3) := by decide +kernel
theorem dX7_thread_67 : decode cX7_thread 67 = .ok (.iload_n 1, 1) := by decide +kernel
theorem dX7_thread_68 : decode cX7_thread 68 = .ok (.iaload, 1) := by decide +kernel
theorem dX7_thread_69 : decode cX7_thread 69 = .ok (.ireturn, 1) := by decide +kernel
theorem dX7_thread_70 : decode cX7_thread 70 = .ok (.aload_n 0, 1) := by decide +kernel
theorem dX7_thread_71 : decode cX7_thread 71 = .ok (.getfield 25, 3) := by decide +kernel
theorem dX7_thread_74 : decode cX7_thread 74 = .ok (.iconst 0, 1) := by decide +kernel
theorem dX7_thread_75 : decode cX7_thread 75 = .ok (.iload_n 1, 1) := by decide +kernel
theorem dX7_thread_76 : decode cX7_thread 76 = .ok (.iadd, 1) := by decide +kernel
theorem dX7_thread_77 : decode cX7_thread 77 = .ok (.iaload, 1) := by decide +kernel
theorem dX7_thread_78 : decode cX7_thread 78 = .ok (.ireturn, 1) := by decide +kernel
theorem dX7_thread_79 : decode cX7_thread 79 = .ok (.aload_n 0, 1) := by decide +kernel
theorem dX7_thread_80 : decode cX7_thread 80 = .ok (.getfield 25, 3) := by decide +kernel
theorem dX7_thread_83 : decode cX7_thread 83 = .ok (.bipush 8, 2) := by decide +kernel
theorem dX7_thread_85 : decode cX7_thread 85 = .ok (.iload_n 1, 1) := by decide +kernel
theorem dX7_thread_86 : decode cX7_thread 86 = .ok (.iadd, 1) := by decide +kernel
theorem dX7_thread_87 : decode cX7_thread 87 = .ok (.iaload, 1) := by decide +kernel
theorem dX7_thread_88 : decode cX7_thread 88 = .ok (.ireturn, 1) := by decide +kernel
theorem dX7_thread_89 : decode cX7_thread 89 = .ok (.aload_n 0, 1) := by decide +kernel
theorem dX7_thread_90 : decode cX7_thread 90 = .ok (.getfield 25, 3) := by decide +kernel
theorem dX7_thread_93 : decode cX7_thread 93 = .ok (.bipush 24, 2) := by decide +kernel
theorem dX7_thread_95 : decode cX7_thread 95 = .ok (.iload_n 1, 1) := by decide +kernel
theorem dX7_thread_96 : decode cX7_thread 96 = .ok (.iadd, 1) := by decide +kernel
theorem dX7_thread_97 : decode cX7_thread 97 = .ok (.iaload, 1) := by decide +kernel
theorem dX7_thread_98 : decode cX7_thread 98 = .ok (.ireturn, 1) := by decide +kernel
theorem dX7_thread_99 : decode cX7_thread 99 = .ok (.aload_n 0, 1) := by decide +kernel
theorem dX7_thread_100 : decode cX7_thread 100 = .ok (.getfield 25, 3) := by decide +kernel
theorem dX7_thread_103 : decode cX7_thread 103 = .ok (.bipush 32, 2) := by decide +kernel
theorem dX7_thread_105 : decode cX7_thread 105 = .ok (.iload_n 1, 1) := by decide +kernel
theorem dX7_thread_106 : decode cX7_thread 106 = .ok (.iadd, 1) := by decide +kernel
theorem dX7_thread_107 : decode cX7_thread 107 = .ok (.iaload, 1) := by decide +kernel
theorem dX7_thread_108 : decode cX7_thread 108 = .ok (.ireturn, 1) := by decide +kernel
theorem dX7_thread_109 : decode cX7_thread 109 = .ok (.aload_n 0, 1) := by decide +kernel
theorem dX7_thread_110 : decode cX7_thread 110 = .ok (.getfield 25, 3) := by decide +kernel
theorem dX7_thread_113 : decode cX7_thread 113 = .ok (.bipush 16, 2) := by decide +kernel
theorem dX7_thread_115 : decode cX7_thread 115 = .ok (.iload_n 1, 1) := by decide +kernel
theorem dX7_thread_116 : decode cX7_thread 116 = .ok (.iadd, 1) := by decide +kernel
theorem dX7_thread_117 : decode cX7_thread 117 = .ok (.iaload, 1) := by decide +kernel
theorem dX7_thread_118 : decode cX7_thread 118 = .ok (.ireturn, 1) := by decide +kernel
theorem dX7_thread_119 : decode cX7_thread 119 = .ok (.bipush (-3), 2) := by decide +kernel
theorem dX7_thread_121 : decode cX7_thread 121 = .ok (.ireturn, 1) := by decide +kernel
theorem dX7_as_0 : decode cX7_as 0 = .ok (.aload_n 0, 1) := by decide +kernel
theorem dX7_as_1 : decode cX7_as 1 = .ok (.iload_n 1, 1) := by decide +kernel
theorem dX7_as_2 : decode cX7_as 2 = .ok (.invokevirtual 172, 3) := by decide +kernel
theorem dX7_as_5 : decode cX7_as 5 = .ok (.ifCond .ne 6, 3) := by decide +kernel
theorem dX7_as_8 : decode cX7_as 8 = .ok (.bipush (-2), 2) := by decide +kernel
theorem dX7_as_10 : decode cX7_as 10 = .ok (.ireturn, 1) := by decide +kernel
theorem dX7_as_11 : decode cX7_as 11 = .ok (.iload_n 2, 1) := by decide +kernel
theorem dX7_as_12 : decode cX7_as 12 = .ok (.i2l, 1) := by decide +kernel
theorem dX7_as_13 : decode cX7_as 13 = .ok (.lconst 0, 1) := by decide +kernel
theorem dX7_as_14 : decode cX7_as 14 = .ok (.ldc2_w 175, 3) := by decide +kernel
theorem dX7_as_17 : decode cX7_as 17 = .ok (.invokestatic 78, 3) := by decide +kernel
theorem dX7_as_20 : decode cX7_as 20 = .ok (.ifCond .ne 6, 3) := by decide +kernel
theorem dX7_as_23 : decode cX7_as 23 = .ok (.bipush (-3), 2) := by decide +kernel
theorem dX7_as_25 : decode cX7_as 25 = .ok (.ireturn, 1) := by decide +kernel
theorem dX7_as_26 : decode cX7_as 26 = .ok (.aload_n 0, 1) := by decide +kernel
theorem dX7_as_27 : decode cX7_as 27 = .ok (.getfield 7, 3) := by decide +kernel
theorem dX7_as_30 : decode cX7_as 30 = .ok (.iload_n 1, 1) := by decide +kernel
theorem dX7_as_31 : decode cX7_as 31 = .ok (.iaload, 1) := by decide +kernel
theorem dX7_as_32 : decode cX7_as 32 = .ok (.istore_n 3, 1) := by decide +kernel
theorem dX7_as_33 : decode cX7_as 33 = .ok (.iload_n 2, 1) := by decide +kernel
theorem dX7_as_34 : decode cX7_as 34 = .ok (.ifCond .eq 25, 3) := by decide +kernel
theorem dX7_as_37 : decode cX7_as 37 = .ok (.iload_n 2, 1) := by decide +kernel
theorem dX7_as_38 : decode cX7_as 38 = .ok (.iconst 1, 1) := by decide +kernel
theorem dX7_as_39 : decode cX7_as 39 = .ok (.if_icmp .ne 8, 3) := by decide +kernel
theorem dX7_as_42 : decode cX7_as 42 = .ok (.iload_n 3, 1) := by decide +kernel
theorem dX7_as_43 : decode cX7_as 43 = .ok (.iconst 3, 1) := by decide +kernel
theorem dX7_as_44 : decode cX7_as 44 = .ok (.if_icmp .ne 15, 3) := by decide +kernel
theorem dX7_as_47 : decode cX7_as 47 = .ok (.iload_n 2, 1) := by decide +kernel
theorem dX7_as_48 : decode cX7_as 48 = .ok (.iconst 1, 1) := by decide +kernel
theorem dX7_as_49 : decode cX7_as 49 = .ok (.if_icmp .le 14, 3) := by decide +kernel
theorem dX7_as_52 : decode cX7_as 52 = .ok (.iload_n 3, 1) := by decide +kernel
theorem dX7_as_53 : decode cX7_as 53 = .ok (.iload_n 2, 1) := by decide +kernel
theorem dX7_as_54 : decode cX7_as 54 = .ok (.iconst 1, 1) := by decide +kernel
theorem dX7_as_55 : decode cX7_as 55 = .ok (.isub, 1) := by decide +kernel
theorem dX7_as_56 : decode cX7_as 56 = .ok (.if_icmp .ne 7, 3) := by decide +kernel
theorem dX7_as_59 : decode cX7_as 59 = .ok (.iconst 1, 1) := by decide +kernel
theorem dX7_as_60 : decode cX7_as 60 = .ok (.goto 4, 3) := by decide +kernel
theorem dX7_as_63 : decode cX7_as 63 = .ok (.iconst 0, 1) := by decide +kernel
theorem dX7_as_64 : decode cX7_as 64 = .ok (.istore 4, 2) := by decide +kernel
theorem dX7_as_66 : decode cX7_as 66 = .ok (.iload 4, 2) := by decide +kernel
theorem dX7_as_68 : decode cX7_as 68 = .ok (.ifCond .eq 11, 3) := by decide +kernel
theorem dX7_as_71 : decode cX7_as 71 = .ok (.aload_n 0, 1) := by decide +kernel
theorem dX7_as_72 : decode cX7_as 72 = .ok (.iload_n 1, 1) := by decide +kernel
theorem dX7_as_73 : decode cX7_as 73 = .ok (.invokevirtual 177, 3) := by decide +kernel
theorem dX7_as_76 : decode cX7_as 76 = .ok (.goto 5, 3) := by decide +kernel
theorem dX7_as_79 : decode cX7_as 79 = .ok (.bipush (-4), 2) := by decide +kernel
theorem dX7_as_81 : decode cX7_as 81 = .ok (.ireturn, 1) := by decide +kernel
theorem dX7_order_0 : decode cX7_order 0 = .ok (.iload_n 1, 1) := by decide +kernel
theorem dX7_order_1 : decode cX7_order 1 = .ok (.i2l, 1) := by decide +kernel
theorem dX7_order_2 : decode cX7_order 2 = .ok (.lconst 0, 1) := by decide +kernel
theorem dX7_order_3 : decode cX7_order 3 = .ok (.aload_n 0, 1) := by decide +kernel
theorem dX7_order_4 : decode cX7_order 4 = .ok (.getfield 156, 3) := by decide +kernel
theorem dX7_order_7 : decode cX7_order 7 = .ok (.iconst 1, 1) := by decide +kernel
theorem dX7_order_8 : decode cX7_order 8 = .ok (.isub, 1) := by decide +kernel
theorem dX7_order_9 : decode cX7_order 9 = .ok (.i2l, 1) := by decide +kernel
theorem dX7_order_10 : decode cX7_order 10 = .ok (.invokestatic 78, 3) := by decide +kernel
theorem dX7_order_13 : decode cX7_order 13 = .ok (.ifCond .ne 6, 3) := by decide +kernel
theorem dX7_order_16 : decode cX7_order 16 = .ok (.bipush (-2), 2) := by decide +kernel
theorem dX7_order_18 : decode cX7_order 18 = .ok (.ireturn, 1) := by decide +kernel
theorem dX7_order_19 : decode cX7_order 19 = .ok (.iload_n 2, 1) := by decide +kernel
theorem dX7_order_20 : decode cX7_order 20 = .ok (.ifCond .ne 12, 3) := by decide +kernel
theorem dX7_order_23 : decode cX7_order 23 = .ok (.aload_n 0, 1) := by decide +kernel
theorem dX7_order_24 : decode cX7_order 24 = .ok (.getfield 16, 3) := by decide +kernel
theorem dX7_order_27 : decode cX7_order 27 = .ok (.iload_n 1, 1) := by decide +kernel
theorem dX7_order_28 : decode cX7_order 28 = .ok (.iaload, 1) := by decide +kernel
theorem dX7_order_29 : decode cX7_order 29 = .ok (.goto 19, 3) := by decide +kernel
theorem dX7_order_32 : decode cX7_order 32 = .ok (.iload_n 2, 1) := by decide +kernel
theorem dX7_order_33 : decode cX7_order 33 = .ok (.iconst 1, 1) := by decide +kernel
theorem dX7_order_34 : decode cX7_order 34 = .ok (.if_icmp .ne 12, 3) := by decide +kernel
theorem dX7_order_37 : decode cX7_order 37 = .ok (.aload_n 0, 1) := by decide +kernel
theorem dX7_order_38 : decode cX7_order 38 = .ok (.getfield 19, 3) := by decide +kernel
theorem dX7_order_41 : decode cX7_order 41 = .ok (.iload_n 1, 1) := by decide +kernel
theorem dX7_order_42 : decode cX7_order 42 = .ok (.iaload, 1) := by decide +kernel
theorem dX7_order_43 : decode cX7_order 43 = .ok (.goto 5, 3) := by decide +kernel
theorem dX7_order_46 : decode cX7_order 46 = .ok (.bipush (-3), 2) := by decide +kernel
theorem dX7_order_48 : decode cX7_order 48 = .ok (.ireturn, 1) := by decide +kernel
theorem dX7_topOf_0 : decode cX7_topOf 0 = .ok (.iload_n 1, 1) := by decide +kernel
theorem dX7_topOf_1 : decode cX7_topOf 1 = .ok (.istore_n 2, 1) := by decide +kernel
theorem dX7_topOf_2 : decode cX7_topOf 2 = .ok (.aload_n 0, 1) := by decide +kernel
theorem dX7_topOf_3 : decode cX7_topOf 3 = .ok (.getfield 25, 3) := by decide +kernel
theorem dX7_topOf_6 : decode cX7_topOf 6 = .ok (.bipush 24, 2) := by decide +kernel
theorem dX7_topOf_8 : decode cX7_topOf 8 = .ok (.iload_n 1, 1) := by decide +kernel
theorem dX7_topOf_9 : decode cX7_topOf 9 = .ok (.iadd, 1) := by decide +kernel
theorem dX7_topOf_10 : decode cX7_topOf 10 = .ok (.iaload, 1) := by decide +kernel
theorem dX7_topOf_11 : decode cX7_topOf 11 = .ok (.aload_n 0, 1) := by decide +kernel
theorem dX7_topOf_12 : decode cX7_topOf 12 = .ok (.invokevirtual 180, 3) := by decide +kernel
theorem dX7_topOf_15 : decode cX7_topOf 15 = .ok (.iand, 1) := by decide +kernel
theorem dX7_topOf_16 : decode cX7_topOf 16 = .ok (.istore_n 3, 1) := by decide +kernel
theorem dX7_topOf_17 : decode cX7_topOf 17 = .ok (.iload_n 3, 1) := by decide +kernel
theorem dX7_topOf_18 : decode cX7_topOf 18 = .ok (.ifCond .eq 37, 3) := by decide +kernel
theorem dX7_topOf_21 : decode cX7_topOf 21 = .ok (.iconst 0, 1) := by decide +kernel
theorem dX7_topOf_22 : decode cX7_topOf 22 = .ok (.istore_n 2, 1) := by decide +kernel
theorem dX7_topOf_23 : decode cX7_topOf 23 = .ok (.iload_n 3, 1) := by decide +kernel
theorem dX7_topOf_24 : decode cX7_topOf 24 = .ok (.iload_n 2, 1) := by decide +kernel
theorem dX7_topOf_25 : decode cX7_topOf 25 = .ok (.invokestatic 124, 3) := by decide +kernel
theorem dX7_topOf_28 : decode cX7_topOf 28 = .ok (.ifCond .ne 9, 3) := by decide +kernel
theorem dX7_topOf_31 : decode cX7_topOf 31 = .ok (.iinc 2 1, 3) := by decide +kernel
theorem dX7_topOf_34 : decode cX7_topOf 34 = .ok (.goto (-11), 3) := by decide +kernel
theorem dX7_topOf_37 : decode cX7_topOf 37 = .ok (.aload_n 0, 1) := by decide +kernel
theorem dX7_topOf_38 : decode cX7_topOf 38 = .ok (.getfield 25, 3) := by decide +kernel
theorem dX7_topOf_41 : decode cX7_topOf 41 = .ok (.bipush 24, 2) := by decide +kernel
theorem dX7_topOf_43 : decode cX7_topOf 43 = .ok (.iload_n 2, 1) := by decide +kernel
theorem dX7_topOf_44 : decode cX7_topOf 44 = .ok (.iadd, 1) := by decide +kernel
theorem dX7_topOf_45 : decode cX7_topOf 45 = .ok (.iaload, 1) := by decide +kernel
theorem dX7_topOf_46 : decode cX7_topOf 46 = .ok (.aload_n 0, 1) := by decide +kernel
theorem dX7_topOf_47 : decode cX7_topOf 47 = .ok (.invokevirtual 180, 3) := by decide +kernel
theorem dX7_topOf_50 : decode cX7_topOf 50 = .ok (.iand, 1) := by decide +kernel
theorem dX7_topOf_51 : decode cX7_topOf 51 = .ok (.istore_n 3, 1) := by decide +kernel
theorem dX7_topOf_52 : decode cX7_topOf 52 = .ok (.goto (-35), 3) := by decide +kernel
theorem dX7_topOf_55 : decode cX7_topOf 55 = .ok (.iload_n 2, 1) := by decide +kernel
theorem dX7_topOf_56 : decode cX7_topOf 56 = .ok (.ireturn, 1) := by decide +kernel
theorem dX7_top_0 : decode cX7_top 0 = .ok (.aload_n 0, 1) := by decide +kernel
theorem dX7_top_1 : decode cX7_top 1 = .ok (.iload_n 1, 1) := by decide +kernel
theorem dX7_top_2 : decode cX7_top 2 = .ok (.invokevirtual 172, 3) := by decide +kernel
theorem dX7_top_5 : decode cX7_top 5 = .ok (.ifCond .ne 6, 3) := by decide +kernel
theorem dX7_top_8 : decode cX7_top 8 = .ok (.bipush (-2), 2) := by decide +kernel
theorem dX7_top_10 : decode cX7_top 10 = .ok (.ireturn, 1) := by decide +kernel
theorem dX7_top_11 : decode cX7_top 11 = .ok (.aload_n 0, 1) := by decide +kernel
theorem dX7_top_12 : decode cX7_top 12 = .ok (.iload_n 1, 1) := by decide +kernel
theorem dX7_top_13 : decode cX7_top 13 = .ok (.invokevirtual 169, 3) := by decide +kernel
theorem dX7_top_16 : decode cX7_top 16 = .ok (.ifCond .eq 11, 3) := by decide +kernel
theorem dX7_top_19 : decode cX7_top 19 = .ok (.aload_n 0, 1) := by decide +kernel
theorem dX7_top_20 : decode cX7_top 20 = .ok (.iload_n 1, 1) := by decide +kernel
theorem dX7_top_21 : decode cX7_top 21 = .ok (.invokevirtual 183, 3) := by decide +kernel
theorem dX7_top_24 : decode cX7_top 24 = .ok (.goto 5, 3) := by decide +kernel
theorem dX7_top_27 : decode cX7_top 27 = .ok (.bipush (-4), 2) := by decide +kernel
theorem dX7_top_29 : decode cX7_top 29 = .ok (.ireturn, 1) := by decide +kernel
theorem dX7_fallsOn_0 : decode cX7_fallsOn 0 = .ok (.aload_n 0, 1) := by decide +kernel
theorem dX7_fallsOn_1 : decode cX7_fallsOn 1 = .ok (.iload_n 1, 1) := by decide +kernel
theorem dX7_fallsOn_2 : decode cX7_fallsOn 2 = .ok (.invokevirtual 169, 3) := by decide +kernel
theorem dX7_fallsOn_5 : decode cX7_fallsOn 5 = .ok (.ifCond .eq 17, 3) := by decide +kernel
theorem dX7_fallsOn_8 : decode cX7_fallsOn 8 = .ok (.aload_n 0, 1) := by decide +kernel
theorem dX7_fallsOn_9 : decode cX7_fallsOn 9 = .ok (.getfield 7, 3) := by decide +kernel
theorem dX7_fallsOn_12 : decode cX7_fallsOn 12 = .ok (.aload_n 0, 1) := by decide +kernel
theorem dX7_fallsOn_13 : decode cX7_fallsOn 13 = .ok (.iload_n 1, 1) := by decide +kernel
theorem dX7_fallsOn_14 : decode cX7_fallsOn 14 = .ok (.invokevirtual 183, 3) := by decide +kernel
theorem dX7_fallsOn_17 : decode cX7_fallsOn 17 = .ok (.iaload, 1) := by decide +kernel
theorem dX7_fallsOn_18 : decode cX7_fallsOn 18 = .ok (.iconst 3, 1) := by decide +kernel
theorem dX7_fallsOn_19 : decode cX7_fallsOn 19 = .ok (.if_icmp .ne 5, 3) := by decide +kernel
theorem dX7_fallsOn_22 : decode cX7_fallsOn 22 = .ok (.iconst 0, 1) := by decide +kernel
theorem dX7_fallsOn_23 : decode cX7_fallsOn 23 = .ok (.ireturn, 1) := by decide +kernel
theorem dX7_fallsOn_24 : decode cX7_fallsOn 24 = .ok (.iconst 1, 1) := by decide +kernel
theorem dX7_fallsOn_25 : decode cX7_fallsOn 25 = .ok (.aload_n 0, 1) := by decide +kernel
theorem dX7_fallsOn_26 : decode cX7_fallsOn 26 = .ok (.iload_n 1, 1) := by decide +kernel
theorem dX7_fallsOn_27 : decode cX7_fallsOn 27 = .ok (.invokevirtual 183, 3) := by decide +kernel
theorem dX7_fallsOn_30 : decode cX7_fallsOn 30 = .ok (.ishl, 1) := by decide +kernel
theorem dX7_fallsOn_31 : decode cX7_fallsOn 31 = .ok (.istore_n 2, 1) := by decide +kernel
theorem dX7_fallsOn_32 : decode cX7_fallsOn 32 = .ok (.iconst 0, 1) := by decide +kernel
theorem dX7_fallsOn_33 : decode cX7_fallsOn 33 = .ok (.istore_n 3, 1) := by decide +kernel
theorem dX7_fallsOn_34 : decode cX7_fallsOn 34 = .ok (.iload_n 3, 1) := by decide +kernel
theorem dX7_fallsOn_35 : decode cX7_fallsOn 35 = .ok (.bipush 8, 2) := by decide +kernel
theorem dX7_fallsOn_37 : decode cX7_fallsOn 37 = .ok (.if_icmp .ge 58, 3) := by decide +kernel
theorem dX7_fallsOn_40 : decode cX7_fallsOn 40 = .ok (.iconst 0, 1) := by decide +kernel
theorem dX7_fallsOn_41 : decode cX7_fallsOn 41 = .ok (.istore 4, 2) := by decide +kernel
theorem dX7_fallsOn_43 : decode cX7_fallsOn 43 = .ok (.iload 4, 2) := by decide +kernel
theorem dX7_fallsOn_45 : decode cX7_fallsOn 45 = .ok (.aload_n 0, 1) := by decide +kernel
theorem dX7_fallsOn_46 : decode cX7_fallsOn 46 = .ok (.getfield 74, 3) := by decide +kernel
theorem dX7_fallsOn_49 : decode cX7_fallsOn 49 = .ok (.if_icmp .ge 40, 3) := by decide +kernel
theorem dX7_fallsOn_52 : decode cX7_fallsOn 52 = .ok (.iload_n 2, 1) := by decide +kernel
theorem dX7_fallsOn_53 : decode cX7_fallsOn 53 = .ok (.iload_n 2, 1) := by decide +kernel
theorem dX7_fallsOn_54 : decode cX7_fallsOn 54 = .ok (.iload 4, 2) := by decide +kernel
theorem dX7_fallsOn_56 : decode cX7_fallsOn 56 = .ok (.invokestatic 124, 3) := by decide +kernel
theorem dX7_fallsOn_59 : decode cX7_fallsOn 59 = .ok (.ifCond .eq 21, 3) := by decide +kernel
theorem dX7_fallsOn_62 : decode cX7_fallsOn 62 = .ok (.aload_n 0, 1) := by decide +kernel
theorem dX7_fallsOn_63 : decode cX7_fallsOn 63 = .ok (.getfield 25, 3) := by decide +kernel
theorem dX7_fallsOn_66 : decode cX7_fallsOn 66 = .ok (.bipush 32, 2) := by decide +kernel
theorem dX7_fallsOn_68 : decode cX7_fallsOn 68 = .ok (.iload 4, 2) := by decide +kernel
theorem dX7_fallsOn_70 : decode cX7_fallsOn 70 = .ok (.iadd, 1) := by decide +kernel
theorem dX7_fallsOn_71 : decode cX7_fallsOn 71 = .ok (.iaload, 1) := by decide +kernel
theorem dX7_fallsOn_72 : decode cX7_fallsOn 72 = .ok (.aload_n 0, 1) := by decide +kernel
theorem dX7_fallsOn_73 : decode cX7_fallsOn 73 = .ok (.invokevirtual 180, 3) := by decide +kernel
theorem dX7_fallsOn_76 : decode cX7_fallsOn 76 = .ok (.iand, 1) := by decide +kernel
theorem dX7_fallsOn_77 : decode cX7_fallsOn 77 = .ok (.goto 4, 3) := by decide +kernel
theorem dX7_fallsOn_80 : decode cX7_fallsOn 80 = .ok (.iconst 0, 1) := by decide +kernel
theorem dX7_fallsOn_81 : decode cX7_fallsOn 81 = .ok (.ior, 1) := by decide +kernel
theorem dX7_fallsOn_82 : decode cX7_fallsOn 82 = .ok (.istore_n 2, 1) := by decide +kernel
theorem dX7_fallsOn_83 : decode cX7_fallsOn 83 = .ok (.iinc 4 1, 3) := by decide +kernel
theorem dX7_fallsOn_86 : decode cX7_fallsOn 86 = .ok (.goto (-43), 3) := by decide +kernel
theorem dX7_fallsOn_89 : decode cX7_fallsOn 89 = .ok (.iinc 3 1, 3) := by decide +kernel
theorem dX7_fallsOn_92 : decode cX7_fallsOn 92 = .ok (.goto (-58), 3) := by decide +kernel
theorem dX7_fallsOn_95 : decode cX7_fallsOn 95 = .ok (.iload_n 2, 1) := by decide +kernel
theorem dX7_fallsOn_96 : decode cX7_fallsOn 96 = .ok (.ireturn, 1) := by decide +kernel
theorem dX7_lossOf_0 : decode cX7_lossOf 0 = .ok (.iconst 0, 1) := by decide +kernel
theorem dX7_lossOf_1 : decode cX7_lossOf 1 = .ok (.istore_n 2, 1) := by decide +kernel
theorem dX7_lossOf_2 : decode cX7_lossOf 2 = .ok (.iconst 0, 1) := by decide +kernel
theorem dX7_lossOf_3 : decode cX7_lossOf 3 = .ok (.istore_n 3, 1) := by decide +kernel
theorem dX7_lossOf_4 : decode cX7_lossOf 4 = .ok (.iload_n 3, 1) := by decide +kernel
theorem dX7_lossOf_5 : decode cX7_lossOf 5 = .ok (.aload_n 0, 1) := by decide +kernel
theorem dX7_lossOf_6 : decode cX7_lossOf 6 = .ok (.getfield 74, 3) := by decide +kernel
theorem dX7_lossOf_9 : decode cX7_lossOf 9 = .ok (.if_icmp .ge 39, 3) := by decide +kernel
theorem dX7_lossOf_12 : decode cX7_lossOf 12 = .ok (.iload_n 2, 1) := by decide +kernel
theorem dX7_lossOf_13 : decode cX7_lossOf 13 = .ok (.iload_n 1, 1) := by decide +kernel
theorem dX7_lossOf_14 : decode cX7_lossOf 14 = .ok (.iload_n 3, 1) := by decide +kernel
theorem dX7_lossOf_15 : decode cX7_lossOf 15 = .ok (.invokestatic 124, 3) := by decide +kernel
theorem dX7_lossOf_18 : decode cX7_lossOf 18 = .ok (.ifCond .eq 21, 3) := by decide +kernel
theorem dX7_lossOf_21 : decode cX7_lossOf 21 = .ok (.aload_n 0, 1) := by decide +kernel
theorem dX7_lossOf_22 : decode cX7_lossOf 22 = .ok (.getfield 7, 3) := by decide +kernel
theorem dX7_lossOf_25 : decode cX7_lossOf 25 = .ok (.iload_n 3, 1) := by decide +kernel
theorem dX7_lossOf_26 : decode cX7_lossOf 26 = .ok (.iaload, 1) := by decide +kernel
theorem dX7_lossOf_27 : decode cX7_lossOf 27 = .ok (.iconst 2, 1) := by decide +kernel
theorem dX7_lossOf_28 : decode cX7_lossOf 28 = .ok (.if_icmp .eq 11, 3) := by decide +kernel
theorem dX7_lossOf_31 : decode cX7_lossOf 31 = .ok (.aload_n 0, 1) := by decide +kernel
theorem dX7_lossOf_32 : decode cX7_lossOf 32 = .ok (.iload_n 3, 1) := by decide +kernel
theorem dX7_lossOf_33 : decode cX7_lossOf 33 = .ok (.invokevirtual 177, 3) := by decide +kernel
theorem dX7_lossOf_36 : decode cX7_lossOf 36 = .ok (.goto 4, 3) := by decide +kernel
theorem dX7_lossOf_39 : decode cX7_lossOf 39 = .ok (.iconst 0, 1) := by decide +kernel
theorem dX7_lossOf_40 : decode cX7_lossOf 40 = .ok (.iadd, 1) := by decide +kernel
theorem dX7_lossOf_41 : decode cX7_lossOf 41 = .ok (.istore_n 2, 1) := by decide +kernel
theorem dX7_lossOf_42 : decode cX7_lossOf 42 = .ok (.iinc 3 1, 3) := by decide +kernel
theorem dX7_lossOf_45 : decode cX7_lossOf 45 = .ok (.goto (-41), 3) := by decide +kernel
theorem dX7_lossOf_48 : decode cX7_lossOf 48 = .ok (.iload_n 2, 1) := by decide +kernel
theorem dX7_lossOf_49 : decode cX7_lossOf 49 = .ok (.ireturn, 1) := by decide +kernel
theorem dX7_cutNow_0 : decode cX7_cutNow 0 = .ok (.aload_n 0, 1) := by decide +kernel
theorem dX7_cutNow_1 : decode cX7_cutNow 1 = .ok (.iload_n 1, 1) := by decide +kernel
theorem dX7_cutNow_2 : decode cX7_cutNow 2 = .ok (.invokevirtual 186, 3) := by decide +kernel
theorem dX7_cutNow_5 : decode cX7_cutNow 5 = .ok (.istore_n 2, 1) := by decide +kernel
theorem dX7_cutNow_6 : decode cX7_cutNow 6 = .ok (.aload_n 0, 1) := by decide +kernel
theorem dX7_cutNow_7 : decode cX7_cutNow 7 = .ok (.getfield 25, 3) := by decide +kernel
theorem dX7_cutNow_10 : decode cX7_cutNow 10 = .ok (.bipush 41, 2) := by decide +kernel
theorem dX7_cutNow_12 : decode cX7_cutNow 12 = .ok (.dup2, 1) := by decide +kernel
theorem dX7_cutNow_13 : decode cX7_cutNow 13 = .ok (.iaload, 1) := by decide +kernel
theorem dX7_cutNow_14 : decode cX7_cutNow 14 = .ok (.aload_n 0, 1) := by decide +kernel
theorem dX7_cutNow_15 : decode cX7_cutNow 15 = .ok (.iload_n 2, 1) := by decide +kernel
theorem dX7_cutNow_16 : decode cX7_cutNow 16 = .ok (.invokevirtual 189, 3) := by decide +kernel
theorem dX7_cutNow_19 : decode cX7_cutNow 19 = .ok (.iadd, 1) := by decide +kernel
theorem dX7_cutNow_20 : decode cX7_cutNow 20 = .ok (.iastore, 1) := by decide +kernel
theorem dX7_cutNow_21 : decode cX7_cutNow 21 = .ok (.iconst 0, 1) := by decide +kernel
theorem dX7_cutNow_22 : decode cX7_cutNow 22 = .ok (.istore_n 3, 1) := by decide +kernel
theorem dX7_cutNow_23 : decode cX7_cutNow 23 = .ok (.iload_n 3, 1) := by decide +kernel
theorem dX7_cutNow_24 : decode cX7_cutNow 24 = .ok (.aload_n 0, 1) := by decide +kernel
theorem dX7_cutNow_25 : decode cX7_cutNow 25 = .ok (.getfield 74, 3) := by decide +kernel
theorem dX7_cutNow_28 : decode cX7_cutNow 28 = .ok (.if_icmp .ge 43, 3) := by decide +kernel
theorem dX7_cutNow_31 : decode cX7_cutNow 31 = .ok (.iload_n 2, 1) := by decide +kernel
theorem dX7_cutNow_32 : decode cX7_cutNow 32 = .ok (.iload_n 3, 1) := by decide +kernel
theorem dX7_cutNow_33 : decode cX7_cutNow 33 = .ok (.invokestatic 124, 3) := by decide +kernel
theorem dX7_cutNow_36 : decode cX7_cutNow 36 = .ok (.ifCond .eq 29, 3) := by decide +kernel
theorem dX7_cutNow_39 : decode cX7_cutNow 39 = .ok (.aload_n 0, 1) := by decide +kernel
theorem dX7_cutNow_40 : decode cX7_cutNow 40 = .ok (.getfield 25, 3) := by decide +kernel
theorem dX7_cutNow_43 : decode cX7_cutNow 43 = .ok (.bipush 8, 2) := by decide +kernel
theorem dX7_cutNow_45 : decode cX7_cutNow 45 = .ok (.iload_n 3, 1) := by decide +kernel
theorem dX7_cutNow_46 : decode cX7_cutNow 46 = .ok (.iadd, 1) := by decide +kernel
theorem dX7_cutNow_47 : decode cX7_cutNow 47 = .ok (.iconst 1, 1) := by decide +kernel
theorem dX7_cutNow_48 : decode cX7_cutNow 48 = .ok (.iastore, 1) := by decide +kernel
theorem dX7_cutNow_49 : decode cX7_cutNow 49 = .ok (.aload_n 0, 1) := by decide +kernel
theorem dX7_cutNow_50 : decode cX7_cutNow 50 = .ok (.getfield 25, 3) := by decide +kernel
theorem dX7_cutNow_53 : decode cX7_cutNow 53 = .ok (.bipush 16, 2) := by decide +kernel
theorem dX7_cutNow_55 : decode cX7_cutNow 55 = .ok (.iload_n 3, 1) := by decide +kernel
theorem dX7_cutNow_56 : decode cX7_cutNow 56 = .ok (.iadd, 1) := by decide +kernel
theorem dX7_cutNow_57 : decode cX7_cutNow 57 = .ok (.aload_n 0, 1) := by decide +kernel
theorem dX7_cutNow_58 : decode cX7_cutNow 58 = .ok (.getfield 25, 3) := by decide +kernel
theorem dX7_cutNow_61 : decode cX7_cutNow 61 = .ok (.bipush 40, 2) := by decide +kernel
theorem dX7_cutNow_63 : decode cX7_cutNow 63 = .ok (.iaload, 1) := by decide +kernel
theorem dX7_cutNow_64 : decode cX7_cutNow 64 = .ok (.iastore, 1) := by decide +kernel
theorem dX7_cutNow_65 : decode cX7_cutNow 65 = .ok (.iinc 3 1, 3) := by decide +kernel
theorem dX7_cutNow_68 : decode cX7_cutNow 68 = .ok (.goto (-45), 3) := by decide +kernel
theorem dX7_cutNow_71 : decode cX7_cutNow 71 = .ok (.iload_n 2, 1) := by decide +kernel
theorem dX7_cutNow_72 : decode cX7_cutNow 72 = .ok (.ireturn, 1) := by decide +kernel
theorem dX7_note_0 : decode cX7_note 0 = .ok (.aload_n 0, 1) := by decide +kernel
theorem dX7_note_1 : decode cX7_note 1 = .ok (.getfield 166, 3) := by decide +kernel
theorem dX7_note_4 : decode cX7_note 4 = .ok (.bipush 8, 2) := by decide +kernel
theorem dX7_note_6 : decode cX7_note 6 = .ok (.if_icmp .ne 43, 3) := by decide +kernel
theorem dX7_note_9 : decode cX7_note 9 = .ok (.iconst 0, 1) := by decide +kernel
theorem dX7_note_10 : decode cX7_note 10 = .ok (.istore_n 1, 1) := by decide +kernel
theorem dX7_note_11 : decode cX7_note 11 = .ok (.iload_n 1, 1) := by decide +kernel
theorem dX7_note_12 : decode cX7_note 12 = .ok (.sipush 294, 3) := by decide +kernel
theorem dX7_note_15 : decode cX7_note 15 = .ok (.if_icmp .ge 24, 3) := by decide +kernel
theorem dX7_note_18 : decode cX7_note 18 = .ok (.aload_n 0, 1) := by decide +kernel
theorem dX7_note_19 : decode cX7_note 19 = .ok (.getfield 46, 3) := by decide +kernel
theorem dX7_note_22 : decode cX7_note 22 = .ok (.iload_n 1, 1) := by decide +kernel
theorem dX7_note_23 : decode cX7_note 23 = .ok (.aload_n 0, 1) := by decide +kernel
theorem dX7_note_24 : decode cX7_note 24 = .ok (.getfield 46, 3) := by decide +kernel
theorem dX7_note_27 : decode cX7_note 27 = .ok (.iload_n 1, 1) := by decide +kernel
theorem dX7_note_28 : decode cX7_note 28 = .ok (.bipush 42, 2) := by decide +kernel
theorem dX7_note_30 : decode cX7_note 30 = .ok (.iadd, 1) := by decide +kernel
theorem dX7_note_31 : decode cX7_note 31 = .ok (.iaload, 1) := by decide +kernel
theorem dX7_note_32 : decode cX7_note 32 = .ok (.iastore, 1) := by decide +kernel
theorem dX7_note_33 : decode cX7_note 33 = .ok (.iinc 1 1, 3) := by decide +kernel
theorem dX7_note_36 : decode cX7_note 36 = .ok (.goto (-25), 3) := by decide +kernel
theorem dX7_note_39 : decode cX7_note 39 = .ok (.aload_n 0, 1) := by decide +kernel
theorem dX7_note_40 : decode cX7_note 40 = .ok (.dup, 1) := by decide +kernel
theorem dX7_note_41 : decode cX7_note 41 = .ok (.getfield 166, 3) := by decide +kernel
theorem dX7_note_44 : decode cX7_note 44 = .ok (.iconst 1, 1) := by decide +kernel
