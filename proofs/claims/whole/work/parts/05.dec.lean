theorem dX7_note_45 : decode cX7_note 45 = .ok (.isub, 1) := by decide +kernel
theorem dX7_note_46 : decode cX7_note 46 = .ok (.putfield 166, 3) := by decide +kernel
theorem dX7_note_49 : decode cX7_note 49 = .ok (.iconst 0, 1) := by decide +kernel
theorem dX7_note_50 : decode cX7_note 50 = .ok (.istore_n 1, 1) := by decide +kernel
theorem dX7_note_51 : decode cX7_note 51 = .ok (.iload_n 1, 1) := by decide +kernel
theorem dX7_note_52 : decode cX7_note 52 = .ok (.bipush 42, 2) := by decide +kernel
theorem dX7_note_54 : decode cX7_note 54 = .ok (.if_icmp .ge 29, 3) := by decide +kernel
theorem dX7_note_57 : decode cX7_note 57 = .ok (.aload_n 0, 1) := by decide +kernel
theorem dX7_note_58 : decode cX7_note 58 = .ok (.getfield 46, 3) := by decide +kernel
theorem dX7_note_61 : decode cX7_note 61 = .ok (.bipush 42, 2) := by decide +kernel
theorem dX7_note_63 : decode cX7_note 63 = .ok (.aload_n 0, 1) := by decide +kernel
theorem dX7_note_64 : decode cX7_note 64 = .ok (.getfield 166, 3) := by decide +kernel
theorem dX7_note_67 : decode cX7_note 67 = .ok (.imul, 1) := by decide +kernel
theorem dX7_note_68 : decode cX7_note 68 = .ok (.iload_n 1, 1) := by decide +kernel
theorem dX7_note_69 : decode cX7_note 69 = .ok (.iadd, 1) := by decide +kernel
theorem dX7_note_70 : decode cX7_note 70 = .ok (.aload_n 0, 1) := by decide +kernel
theorem dX7_note_71 : decode cX7_note 71 = .ok (.getfield 25, 3) := by decide +kernel
theorem dX7_note_74 : decode cX7_note 74 = .ok (.iload_n 1, 1) := by decide +kernel
theorem dX7_note_75 : decode cX7_note 75 = .ok (.iaload, 1) := by decide +kernel
theorem dX7_note_76 : decode cX7_note 76 = .ok (.iastore, 1) := by decide +kernel
theorem dX7_note_77 : decode cX7_note 77 = .ok (.iinc 1 1, 3) := by decide +kernel
theorem dX7_note_80 : decode cX7_note 80 = .ok (.goto (-29), 3) := by decide +kernel
theorem dX7_note_83 : decode cX7_note 83 = .ok (.aload_n 0, 1) := by decide +kernel
theorem dX7_note_84 : decode cX7_note 84 = .ok (.dup, 1) := by decide +kernel
theorem dX7_note_85 : decode cX7_note 85 = .ok (.getfield 166, 3) := by decide +kernel
theorem dX7_note_88 : decode cX7_note 88 = .ok (.iconst 1, 1) := by decide +kernel
theorem dX7_note_89 : decode cX7_note 89 = .ok (.iadd, 1) := by decide +kernel
theorem dX7_note_90 : decode cX7_note 90 = .ok (.putfield 166, 3) := by decide +kernel
theorem dX7_note_93 : decode cX7_note 93 = .ok (.return_, 1) := by decide +kernel
theorem dX7_cut_0 : decode cX7_cut 0 = .ok (.aload_n 0, 1) := by decide +kernel
theorem dX7_cut_1 : decode cX7_cut 1 = .ok (.iload_n 1, 1) := by decide +kernel
theorem dX7_cut_2 : decode cX7_cut 2 = .ok (.invokevirtual 172, 3) := by decide +kernel
theorem dX7_cut_5 : decode cX7_cut 5 = .ok (.ifCond .ne 6, 3) := by decide +kernel
theorem dX7_cut_8 : decode cX7_cut 8 = .ok (.bipush (-2), 2) := by decide +kernel
theorem dX7_cut_10 : decode cX7_cut 10 = .ok (.ireturn, 1) := by decide +kernel
theorem dX7_cut_11 : decode cX7_cut 11 = .ok (.aload_n 0, 1) := by decide +kernel
theorem dX7_cut_12 : decode cX7_cut 12 = .ok (.iload_n 1, 1) := by decide +kernel
theorem dX7_cut_13 : decode cX7_cut 13 = .ok (.invokevirtual 169, 3) := by decide +kernel
theorem dX7_cut_16 : decode cX7_cut 16 = .ok (.ifCond .ne 6, 3) := by decide +kernel
theorem dX7_cut_19 : decode cX7_cut 19 = .ok (.bipush (-4), 2) := by decide +kernel
theorem dX7_cut_21 : decode cX7_cut 21 = .ok (.ireturn, 1) := by decide +kernel
theorem dX7_cut_22 : decode cX7_cut 22 = .ok (.aload_n 0, 1) := by decide +kernel
theorem dX7_cut_23 : decode cX7_cut 23 = .ok (.invokevirtual 192, 3) := by decide +kernel
theorem dX7_cut_26 : decode cX7_cut 26 = .ok (.aload_n 0, 1) := by decide +kernel
theorem dX7_cut_27 : decode cX7_cut 27 = .ok (.iload_n 1, 1) := by decide +kernel
theorem dX7_cut_28 : decode cX7_cut 28 = .ok (.invokevirtual 195, 3) := by decide +kernel
theorem dX7_cut_31 : decode cX7_cut 31 = .ok (.invokestatic 198, 3) := by decide +kernel
theorem dX7_cut_34 : decode cX7_cut 34 = .ok (.ireturn, 1) := by decide +kernel
theorem dX7_areTwo_0 : decode cX7_areTwo 0 = .ok (.aload_n 0, 1) := by decide +kernel
theorem dX7_areTwo_1 : decode cX7_areTwo 1 = .ok (.iload_n 1, 1) := by decide +kernel
theorem dX7_areTwo_2 : decode cX7_areTwo 2 = .ok (.invokevirtual 172, 3) := by decide +kernel
theorem dX7_areTwo_5 : decode cX7_areTwo 5 = .ok (.ifCond .eq 20, 3) := by decide +kernel
theorem dX7_areTwo_8 : decode cX7_areTwo 8 = .ok (.aload_n 0, 1) := by decide +kernel
theorem dX7_areTwo_9 : decode cX7_areTwo 9 = .ok (.iload_n 2, 1) := by decide +kernel
theorem dX7_areTwo_10 : decode cX7_areTwo 10 = .ok (.invokevirtual 172, 3) := by decide +kernel
theorem dX7_areTwo_13 : decode cX7_areTwo 13 = .ok (.ifCond .eq 12, 3) := by decide +kernel
theorem dX7_areTwo_16 : decode cX7_areTwo 16 = .ok (.iload_n 1, 1) := by decide +kernel
theorem dX7_areTwo_17 : decode cX7_areTwo 17 = .ok (.iload_n 2, 1) := by decide +kernel
theorem dX7_areTwo_18 : decode cX7_areTwo 18 = .ok (.if_icmp .eq 7, 3) := by decide +kernel
theorem dX7_areTwo_21 : decode cX7_areTwo 21 = .ok (.iconst 1, 1) := by decide +kernel
theorem dX7_areTwo_22 : decode cX7_areTwo 22 = .ok (.goto 4, 3) := by decide +kernel
theorem dX7_areTwo_25 : decode cX7_areTwo 25 = .ok (.iconst 0, 1) := by decide +kernel
theorem dX7_areTwo_26 : decode cX7_areTwo 26 = .ok (.ireturn, 1) := by decide +kernel
theorem dX7_put_0 : decode cX7_put 0 = .ok (.aload_n 0, 1) := by decide +kernel
theorem dX7_put_1 : decode cX7_put 1 = .ok (.iload_n 1, 1) := by decide +kernel
theorem dX7_put_2 : decode cX7_put 2 = .ok (.iload_n 2, 1) := by decide +kernel
theorem dX7_put_3 : decode cX7_put 3 = .ok (.invokevirtual 201, 3) := by decide +kernel
theorem dX7_put_6 : decode cX7_put 6 = .ok (.ifCond .ne 6, 3) := by decide +kernel
theorem dX7_put_9 : decode cX7_put 9 = .ok (.bipush (-2), 2) := by decide +kernel
theorem dX7_put_11 : decode cX7_put 11 = .ok (.ireturn, 1) := by decide +kernel
theorem dX7_put_12 : decode cX7_put 12 = .ok (.iconst 0, 1) := by decide +kernel
theorem dX7_put_13 : decode cX7_put 13 = .ok (.istore_n 3, 1) := by decide +kernel
theorem dX7_put_14 : decode cX7_put 14 = .ok (.iload_n 3, 1) := by decide +kernel
theorem dX7_put_15 : decode cX7_put 15 = .ok (.bipush 8, 2) := by decide +kernel
theorem dX7_put_17 : decode cX7_put 17 = .ok (.if_icmp .ge 24, 3) := by decide +kernel
theorem dX7_put_20 : decode cX7_put 20 = .ok (.aload_n 0, 1) := by decide +kernel
theorem dX7_put_21 : decode cX7_put 21 = .ok (.getfield 49, 3) := by decide +kernel
theorem dX7_put_24 : decode cX7_put 24 = .ok (.iload_n 3, 1) := by decide +kernel
theorem dX7_put_25 : decode cX7_put 25 = .ok (.aload_n 0, 1) := by decide +kernel
theorem dX7_put_26 : decode cX7_put 26 = .ok (.getfield 25, 3) := by decide +kernel
theorem dX7_put_29 : decode cX7_put 29 = .ok (.bipush 24, 2) := by decide +kernel
theorem dX7_put_31 : decode cX7_put 31 = .ok (.iload_n 3, 1) := by decide +kernel
theorem dX7_put_32 : decode cX7_put 32 = .ok (.iadd, 1) := by decide +kernel
theorem dX7_put_33 : decode cX7_put 33 = .ok (.iaload, 1) := by decide +kernel
theorem dX7_put_34 : decode cX7_put 34 = .ok (.iastore, 1) := by decide +kernel
theorem dX7_put_35 : decode cX7_put 35 = .ok (.iinc 3 1, 3) := by decide +kernel
theorem dX7_put_38 : decode cX7_put 38 = .ok (.goto (-24), 3) := by decide +kernel
theorem dX7_put_41 : decode cX7_put 41 = .ok (.aload_n 0, 1) := by decide +kernel
theorem dX7_put_42 : decode cX7_put 42 = .ok (.iload_n 1, 1) := by decide +kernel
theorem dX7_put_43 : decode cX7_put 43 = .ok (.invokevirtual 169, 3) := by decide +kernel
theorem dX7_put_46 : decode cX7_put 46 = .ok (.ifCond .eq 36, 3) := by decide +kernel
theorem dX7_put_49 : decode cX7_put 49 = .ok (.aload_n 0, 1) := by decide +kernel
theorem dX7_put_50 : decode cX7_put 50 = .ok (.iload_n 2, 1) := by decide +kernel
theorem dX7_put_51 : decode cX7_put 51 = .ok (.invokevirtual 169, 3) := by decide +kernel
theorem dX7_put_54 : decode cX7_put 54 = .ok (.ifCond .eq 28, 3) := by decide +kernel
theorem dX7_put_57 : decode cX7_put 57 = .ok (.aload_n 0, 1) := by decide +kernel
theorem dX7_put_58 : decode cX7_put 58 = .ok (.getfield 49, 3) := by decide +kernel
theorem dX7_put_61 : decode cX7_put 61 = .ok (.iload_n 2, 1) := by decide +kernel
theorem dX7_put_62 : decode cX7_put 62 = .ok (.iaload, 1) := by decide +kernel
theorem dX7_put_63 : decode cX7_put 63 = .ok (.iload_n 1, 1) := by decide +kernel
theorem dX7_put_64 : decode cX7_put 64 = .ok (.invokestatic 124, 3) := by decide +kernel
theorem dX7_put_67 : decode cX7_put 67 = .ok (.ifCond .ne 15, 3) := by decide +kernel
theorem dX7_put_70 : decode cX7_put 70 = .ok (.aload_n 0, 1) := by decide +kernel
theorem dX7_put_71 : decode cX7_put 71 = .ok (.getfield 49, 3) := by decide +kernel
theorem dX7_put_74 : decode cX7_put 74 = .ok (.iload_n 2, 1) := by decide +kernel
theorem dX7_put_75 : decode cX7_put 75 = .ok (.iload_n 1, 1) := by decide +kernel
theorem dX7_put_76 : decode cX7_put 76 = .ok (.invokestatic 138, 3) := by decide +kernel
theorem dX7_put_79 : decode cX7_put 79 = .ok (.ifCond .eq 6, 3) := by decide +kernel
theorem dX7_put_82 : decode cX7_put 82 = .ok (.bipush (-4), 2) := by decide +kernel
theorem dX7_put_84 : decode cX7_put 84 = .ok (.ireturn, 1) := by decide +kernel
theorem dX7_put_85 : decode cX7_put 85 = .ok (.aload_n 0, 1) := by decide +kernel
theorem dX7_put_86 : decode cX7_put 86 = .ok (.invokevirtual 192, 3) := by decide +kernel
theorem dX7_put_89 : decode cX7_put 89 = .ok (.aload_n 0, 1) := by decide +kernel
theorem dX7_put_90 : decode cX7_put 90 = .ok (.getfield 25, 3) := by decide +kernel
theorem dX7_put_93 : decode cX7_put 93 = .ok (.bipush 24, 2) := by decide +kernel
theorem dX7_put_95 : decode cX7_put 95 = .ok (.iload_n 2, 1) := by decide +kernel
theorem dX7_put_96 : decode cX7_put 96 = .ok (.iadd, 1) := by decide +kernel
theorem dX7_put_97 : decode cX7_put 97 = .ok (.dup2, 1) := by decide +kernel
theorem dX7_put_98 : decode cX7_put 98 = .ok (.iaload, 1) := by decide +kernel
theorem dX7_put_99 : decode cX7_put 99 = .ok (.iconst 1, 1) := by decide +kernel
theorem dX7_put_100 : decode cX7_put 100 = .ok (.iload_n 1, 1) := by decide +kernel
theorem dX7_put_101 : decode cX7_put 101 = .ok (.ishl, 1) := by decide +kernel
theorem dX7_put_102 : decode cX7_put 102 = .ok (.ior, 1) := by decide +kernel
theorem dX7_put_103 : decode cX7_put 103 = .ok (.iastore, 1) := by decide +kernel
theorem dX7_put_104 : decode cX7_put 104 = .ok (.aload_n 0, 1) := by decide +kernel
theorem dX7_put_105 : decode cX7_put 105 = .ok (.getfield 25, 3) := by decide +kernel
theorem dX7_put_108 : decode cX7_put 108 = .ok (.bipush 24, 2) := by decide +kernel
theorem dX7_put_110 : decode cX7_put 110 = .ok (.iload_n 2, 1) := by decide +kernel
theorem dX7_put_111 : decode cX7_put 111 = .ok (.iadd, 1) := by decide +kernel
theorem dX7_put_112 : decode cX7_put 112 = .ok (.iaload, 1) := by decide +kernel
theorem dX7_put_113 : decode cX7_put 113 = .ok (.invokestatic 198, 3) := by decide +kernel
theorem dX7_put_116 : decode cX7_put 116 = .ok (.ireturn, 1) := by decide +kernel
theorem dX7_liesOver_0 : decode cX7_liesOver 0 = .ok (.iconst 0, 1) := by decide +kernel
theorem dX7_liesOver_1 : decode cX7_liesOver 1 = .ok (.istore_n 2, 1) := by decide +kernel
theorem dX7_liesOver_2 : decode cX7_liesOver 2 = .ok (.iconst 0, 1) := by decide +kernel
theorem dX7_liesOver_3 : decode cX7_liesOver 3 = .ok (.istore_n 3, 1) := by decide +kernel
theorem dX7_liesOver_4 : decode cX7_liesOver 4 = .ok (.iload_n 3, 1) := by decide +kernel
theorem dX7_liesOver_5 : decode cX7_liesOver 5 = .ok (.aload_n 0, 1) := by decide +kernel
theorem dX7_liesOver_6 : decode cX7_liesOver 6 = .ok (.getfield 74, 3) := by decide +kernel
theorem dX7_liesOver_9 : decode cX7_liesOver 9 = .ok (.if_icmp .ge 33, 3) := by decide +kernel
theorem dX7_liesOver_12 : decode cX7_liesOver 12 = .ok (.iload_n 2, 1) := by decide +kernel
theorem dX7_liesOver_13 : decode cX7_liesOver 13 = .ok (.aload_n 0, 1) := by decide +kernel
theorem dX7_liesOver_14 : decode cX7_liesOver 14 = .ok (.getfield 25, 3) := by decide +kernel
theorem dX7_liesOver_17 : decode cX7_liesOver 17 = .ok (.bipush 24, 2) := by decide +kernel
theorem dX7_liesOver_19 : decode cX7_liesOver 19 = .ok (.iload_n 3, 1) := by decide +kernel
theorem dX7_liesOver_20 : decode cX7_liesOver 20 = .ok (.iadd, 1) := by decide +kernel
theorem dX7_liesOver_21 : decode cX7_liesOver 21 = .ok (.iaload, 1) := by decide +kernel
theorem dX7_liesOver_22 : decode cX7_liesOver 22 = .ok (.iload_n 1, 1) := by decide +kernel
theorem dX7_liesOver_23 : decode cX7_liesOver 23 = .ok (.invokestatic 124, 3) := by decide +kernel
theorem dX7_liesOver_26 : decode cX7_liesOver 26 = .ok (.ifCond .eq 7, 3) := by decide +kernel
theorem dX7_liesOver_29 : decode cX7_liesOver 29 = .ok (.iconst 1, 1) := by decide +kernel
theorem dX7_liesOver_30 : decode cX7_liesOver 30 = .ok (.goto 4, 3) := by decide +kernel
theorem dX7_liesOver_33 : decode cX7_liesOver 33 = .ok (.iconst 0, 1) := by decide +kernel
theorem dX7_liesOver_34 : decode cX7_liesOver 34 = .ok (.iadd, 1) := by decide +kernel
theorem dX7_liesOver_35 : decode cX7_liesOver 35 = .ok (.istore_n 2, 1) := by decide +kernel
theorem dX7_liesOver_36 : decode cX7_liesOver 36 = .ok (.iinc 3 1, 3) := by decide +kernel
theorem dX7_liesOver_39 : decode cX7_liesOver 39 = .ok (.goto (-35), 3) := by decide +kernel
theorem dX7_liesOver_42 : decode cX7_liesOver 42 = .ok (.iload_n 2, 1) := by decide +kernel
theorem dX7_liesOver_43 : decode cX7_liesOver 43 = .ok (.ireturn, 1) := by decide +kernel
theorem dX7_lift_0 : decode cX7_lift 0 = .ok (.aload_n 0, 1) := by decide +kernel
theorem dX7_lift_1 : decode cX7_lift 1 = .ok (.iload_n 1, 1) := by decide +kernel
theorem dX7_lift_2 : decode cX7_lift 2 = .ok (.invokevirtual 172, 3) := by decide +kernel
theorem dX7_lift_5 : decode cX7_lift 5 = .ok (.ifCond .ne 6, 3) := by decide +kernel
theorem dX7_lift_8 : decode cX7_lift 8 = .ok (.bipush (-2), 2) := by decide +kernel
theorem dX7_lift_10 : decode cX7_lift 10 = .ok (.ireturn, 1) := by decide +kernel
theorem dX7_lift_11 : decode cX7_lift 11 = .ok (.aload_n 0, 1) := by decide +kernel
theorem dX7_lift_12 : decode cX7_lift 12 = .ok (.iload_n 1, 1) := by decide +kernel
theorem dX7_lift_13 : decode cX7_lift 13 = .ok (.invokevirtual 204, 3) := by decide +kernel
theorem dX7_lift_16 : decode cX7_lift 16 = .ok (.istore_n 2, 1) := by decide +kernel
theorem dX7_lift_17 : decode cX7_lift 17 = .ok (.aload_n 0, 1) := by decide +kernel
theorem dX7_lift_18 : decode cX7_lift 18 = .ok (.iload_n 1, 1) := by decide +kernel
theorem dX7_lift_19 : decode cX7_lift 19 = .ok (.invokevirtual 169, 3) := by decide +kernel
theorem dX7_lift_22 : decode cX7_lift 22 = .ok (.ifCond .eq 7, 3) := by decide +kernel
theorem dX7_lift_25 : decode cX7_lift 25 = .ok (.iload_n 2, 1) := by decide +kernel
theorem dX7_lift_26 : decode cX7_lift 26 = .ok (.ifCond .ne 6, 3) := by decide +kernel
theorem dX7_lift_29 : decode cX7_lift 29 = .ok (.bipush (-4), 2) := by decide +kernel
theorem dX7_lift_31 : decode cX7_lift 31 = .ok (.ireturn, 1) := by decide +kernel
theorem dX7_lift_32 : decode cX7_lift 32 = .ok (.aload_n 0, 1) := by decide +kernel
theorem dX7_lift_33 : decode cX7_lift 33 = .ok (.invokevirtual 192, 3) := by decide +kernel
theorem dX7_lift_36 : decode cX7_lift 36 = .ok (.iconst 0, 1) := by decide +kernel
theorem dX7_lift_37 : decode cX7_lift 37 = .ok (.istore_n 3, 1) := by decide +kernel
theorem dX7_lift_38 : decode cX7_lift 38 = .ok (.iload_n 3, 1) := by decide +kernel
theorem dX7_lift_39 : decode cX7_lift 39 = .ok (.aload_n 0, 1) := by decide +kernel
theorem dX7_lift_40 : decode cX7_lift 40 = .ok (.getfield 74, 3) := by decide +kernel
theorem dX7_lift_43 : decode cX7_lift 43 = .ok (.if_icmp .ge 26, 3) := by decide +kernel
theorem dX7_lift_46 : decode cX7_lift 46 = .ok (.aload_n 0, 1) := by decide +kernel
theorem dX7_lift_47 : decode cX7_lift 47 = .ok (.getfield 25, 3) := by decide +kernel
theorem dX7_lift_50 : decode cX7_lift 50 = .ok (.bipush 24, 2) := by decide +kernel
theorem dX7_lift_52 : decode cX7_lift 52 = .ok (.iload_n 3, 1) := by decide +kernel
theorem dX7_lift_53 : decode cX7_lift 53 = .ok (.iadd, 1) := by decide +kernel
theorem dX7_lift_54 : decode cX7_lift 54 = .ok (.dup2, 1) := by decide +kernel
theorem dX7_lift_55 : decode cX7_lift 55 = .ok (.iaload, 1) := by decide +kernel
theorem dX7_lift_56 : decode cX7_lift 56 = .ok (.iconst 1, 1) := by decide +kernel
theorem dX7_lift_57 : decode cX7_lift 57 = .ok (.iload_n 1, 1) := by decide +kernel
theorem dX7_lift_58 : decode cX7_lift 58 = .ok (.ishl, 1) := by decide +kernel
theorem dX7_lift_59 : decode cX7_lift 59 = .ok (.iconst (-1), 1) := by decide +kernel
theorem dX7_lift_60 : decode cX7_lift 60 = .ok (.ixor, 1) := by decide +kernel
theorem dX7_lift_61 : decode cX7_lift 61 = .ok (.iand, 1) := by decide +kernel
theorem dX7_lift_62 : decode cX7_lift 62 = .ok (.iastore, 1) := by decide +kernel
theorem dX7_lift_63 : decode cX7_lift 63 = .ok (.iinc 3 1, 3) := by decide +kernel
theorem dX7_lift_66 : decode cX7_lift 66 = .ok (.goto (-28), 3) := by decide +kernel
theorem dX7_lift_69 : decode cX7_lift 69 = .ok (.iload_n 2, 1) := by decide +kernel
theorem dX7_lift_70 : decode cX7_lift 70 = .ok (.ireturn, 1) := by decide +kernel
theorem dX7_knot_0 : decode cX7_knot 0 = .ok (.aload_n 0, 1) := by decide +kernel
theorem dX7_knot_1 : decode cX7_knot 1 = .ok (.iload_n 1, 1) := by decide +kernel
theorem dX7_knot_2 : decode cX7_knot 2 = .ok (.iload_n 2, 1) := by decide +kernel
theorem dX7_knot_3 : decode cX7_knot 3 = .ok (.invokevirtual 201, 3) := by decide +kernel
theorem dX7_knot_6 : decode cX7_knot 6 = .ok (.ifCond .ne 6, 3) := by decide +kernel
theorem dX7_knot_9 : decode cX7_knot 9 = .ok (.bipush (-2), 2) := by decide +kernel
theorem dX7_knot_11 : decode cX7_knot 11 = .ok (.ireturn, 1) := by decide +kernel
theorem dX7_knot_12 : decode cX7_knot 12 = .ok (.iload_n 3, 1) := by decide +kernel
theorem dX7_knot_13 : decode cX7_knot 13 = .ok (.i2l, 1) := by decide +kernel
theorem dX7_knot_14 : decode cX7_knot 14 = .ok (.lconst 0, 1) := by decide +kernel
theorem dX7_knot_15 : decode cX7_knot 15 = .ok (.lconst 1, 1) := by decide +kernel
theorem dX7_knot_16 : decode cX7_knot 16 = .ok (.invokestatic 78, 3) := by decide +kernel
theorem dX7_knot_19 : decode cX7_knot 19 = .ok (.ifCond .ne 6, 3) := by decide +kernel
theorem dX7_knot_22 : decode cX7_knot 22 = .ok (.bipush (-3), 2) := by decide +kernel
theorem dX7_knot_24 : decode cX7_knot 24 = .ok (.ireturn, 1) := by decide +kernel
theorem dX7_knot_25 : decode cX7_knot 25 = .ok (.aload_n 0, 1) := by decide +kernel
theorem dX7_knot_26 : decode cX7_knot 26 = .ok (.iload_n 1, 1) := by decide +kernel
theorem dX7_knot_27 : decode cX7_knot 27 = .ok (.invokevirtual 169, 3) := by decide +kernel
theorem dX7_knot_30 : decode cX7_knot 30 = .ok (.ifCond .eq 11, 3) := by decide +kernel
theorem dX7_knot_33 : decode cX7_knot 33 = .ok (.aload_n 0, 1) := by decide +kernel
theorem dX7_knot_34 : decode cX7_knot 34 = .ok (.iload_n 2, 1) := by decide +kernel
theorem dX7_knot_35 : decode cX7_knot 35 = .ok (.invokevirtual 169, 3) := by decide +kernel
theorem dX7_knot_38 : decode cX7_knot 38 = .ok (.ifCond .ne 6, 3) := by decide +kernel
theorem dX7_knot_41 : decode cX7_knot 41 = .ok (.bipush (-4), 2) := by decide +kernel
theorem dX7_knot_43 : decode cX7_knot 43 = .ok (.ireturn, 1) := by decide +kernel
theorem dX7_knot_44 : decode cX7_knot 44 = .ok (.aload_n 0, 1) := by decide +kernel
theorem dX7_knot_45 : decode cX7_knot 45 = .ok (.invokevirtual 192, 3) := by decide +kernel
theorem dX7_knot_48 : decode cX7_knot 48 = .ok (.aload_n 0, 1) := by decide +kernel
theorem dX7_knot_49 : decode cX7_knot 49 = .ok (.getfield 25, 3) := by decide +kernel
theorem dX7_knot_52 : decode cX7_knot 52 = .ok (.bipush 32, 2) := by decide +kernel
theorem dX7_knot_54 : decode cX7_knot 54 = .ok (.iload_n 1, 1) := by decide +kernel
theorem dX7_knot_55 : decode cX7_knot 55 = .ok (.iadd, 1) := by decide +kernel
theorem dX7_knot_56 : decode cX7_knot 56 = .ok (.iaload, 1) := by decide +kernel
theorem dX7_knot_57 : decode cX7_knot 57 = .ok (.iload_n 2, 1) := by decide +kernel
theorem dX7_knot_58 : decode cX7_knot 58 = .ok (.invokestatic 124, 3) := by decide +kernel
theorem dX7_knot_61 : decode cX7_knot 61 = .ok (.ifCond .eq 7, 3) := by decide +kernel
theorem dX7_knot_64 : decode cX7_knot 64 = .ok (.iconst 1, 1) := by decide +kernel
theorem dX7_knot_65 : decode cX7_knot 65 = .ok (.goto 4, 3) := by decide +kernel
theorem dX7_knot_68 : decode cX7_knot 68 = .ok (.iconst 0, 1) := by decide +kernel
theorem dX7_knot_69 : decode cX7_knot 69 = .ok (.istore 4, 2) := by decide +kernel
theorem dX7_knot_71 : decode cX7_knot 71 = .ok (.aload_n 0, 1) := by decide +kernel
theorem dX7_knot_72 : decode cX7_knot 72 = .ok (.getfield 25, 3) := by decide +kernel
theorem dX7_knot_75 : decode cX7_knot 75 = .ok (.bipush 32, 2) := by decide +kernel
theorem dX7_knot_77 : decode cX7_knot 77 = .ok (.iload_n 1, 1) := by decide +kernel
theorem dX7_knot_78 : decode cX7_knot 78 = .ok (.iadd, 1) := by decide +kernel
theorem dX7_knot_79 : decode cX7_knot 79 = .ok (.aload_n 0, 1) := by decide +kernel
theorem dX7_knot_80 : decode cX7_knot 80 = .ok (.getfield 25, 3) := by decide +kernel
theorem dX7_knot_83 : decode cX7_knot 83 = .ok (.bipush 32, 2) := by decide +kernel
theorem dX7_knot_85 : decode cX7_knot 85 = .ok (.iload_n 1, 1) := by decide +kernel
theorem dX7_knot_86 : decode cX7_knot 86 = .ok (.iadd, 1) := by decide +kernel
theorem dX7_knot_87 : decode cX7_knot 87 = .ok (.iaload, 1) := by decide +kernel
theorem dX7_knot_88 : decode cX7_knot 88 = .ok (.iconst 1, 1) := by decide +kernel
theorem dX7_knot_89 : decode cX7_knot 89 = .ok (.iload_n 2, 1) := by decide +kernel
theorem dX7_knot_90 : decode cX7_knot 90 = .ok (.ishl, 1) := by decide +kernel
theorem dX7_knot_91 : decode cX7_knot 91 = .ok (.iconst (-1), 1) := by decide +kernel
theorem dX7_knot_92 : decode cX7_knot 92 = .ok (.ixor, 1) := by decide +kernel
theorem dX7_knot_93 : decode cX7_knot 93 = .ok (.iand, 1) := by decide +kernel
theorem dX7_knot_94 : decode cX7_knot 94 = .ok (.iload_n 3, 1) := by decide +kernel
theorem dX7_knot_95 : decode cX7_knot 95 = .ok (.iload_n 2, 1) := by decide +kernel
theorem dX7_knot_96 : decode cX7_knot 96 = .ok (.ishl, 1) := by decide +kernel
theorem dX7_knot_97 : decode cX7_knot 97 = .ok (.ior, 1) := by decide +kernel
theorem dX7_knot_98 : decode cX7_knot 98 = .ok (.iastore, 1) := by decide +kernel
theorem dX7_knot_99 : decode cX7_knot 99 = .ok (.aload_n 0, 1) := by decide +kernel
theorem dX7_knot_100 : decode cX7_knot 100 = .ok (.getfield 25, 3) := by decide +kernel
theorem dX7_knot_103 : decode cX7_knot 103 = .ok (.bipush 32, 2) := by decide +kernel
theorem dX7_knot_105 : decode cX7_knot 105 = .ok (.iload_n 2, 1) := by decide +kernel
theorem dX7_knot_106 : decode cX7_knot 106 = .ok (.iadd, 1) := by decide +kernel
theorem dX7_knot_107 : decode cX7_knot 107 = .ok (.aload_n 0, 1) := by decide +kernel
theorem dX7_knot_108 : decode cX7_knot 108 = .ok (.getfield 25, 3) := by decide +kernel
theorem dX7_knot_111 : decode cX7_knot 111 = .ok (.bipush 32, 2) := by decide +kernel
theorem dX7_knot_113 : decode cX7_knot 113 = .ok (.iload_n 2, 1) := by decide +kernel
theorem dX7_knot_114 : decode cX7_knot 114 = .ok (.iadd, 1) := by decide +kernel
theorem dX7_knot_115 : decode cX7_knot 115 = .ok (.iaload, 1) := by decide +kernel
theorem dX7_knot_116 : decode cX7_knot 116 = .ok (.iconst 1, 1) := by decide +kernel
theorem dX7_knot_117 : decode cX7_knot 117 = .ok (.iload_n 1, 1) := by decide +kernel
theorem dX7_knot_118 : decode cX7_knot 118 = .ok (.ishl, 1) := by decide +kernel
theorem dX7_knot_119 : decode cX7_knot 119 = .ok (.iconst (-1), 1) := by decide +kernel
theorem dX7_knot_120 : decode cX7_knot 120 = .ok (.ixor, 1) := by decide +kernel
theorem dX7_knot_121 : decode cX7_knot 121 = .ok (.iand, 1) := by decide +kernel
theorem dX7_knot_122 : decode cX7_knot 122 = .ok (.iload_n 3, 1) := by decide +kernel
theorem dX7_knot_123 : decode cX7_knot 123 = .ok (.iload_n 1, 1) := by decide +kernel
theorem dX7_knot_124 : decode cX7_knot 124 = .ok (.ishl, 1) := by decide +kernel
theorem dX7_knot_125 : decode cX7_knot 125 = .ok (.ior, 1) := by decide +kernel
theorem dX7_knot_126 : decode cX7_knot 126 = .ok (.iastore, 1) := by decide +kernel
theorem dX7_knot_127 : decode cX7_knot 127 = .ok (.iload 4, 2) := by decide +kernel
theorem dX7_knot_129 : decode cX7_knot 129 = .ok (.ireturn, 1) := by decide +kernel
theorem dX7_dye_0 : decode cX7_dye 0 = .ok (.aload_n 0, 1) := by decide +kernel
theorem dX7_dye_1 : decode cX7_dye 1 = .ok (.iload_n 1, 1) := by decide +kernel
theorem dX7_dye_2 : decode cX7_dye 2 = .ok (.invokevirtual 172, 3) := by decide +kernel
theorem dX7_dye_5 : decode cX7_dye 5 = .ok (.ifCond .ne 6, 3) := by decide +kernel
theorem dX7_dye_8 : decode cX7_dye 8 = .ok (.bipush (-2), 2) := by decide +kernel
theorem dX7_dye_10 : decode cX7_dye 10 = .ok (.ireturn, 1) := by decide +kernel
theorem dX7_dye_11 : decode cX7_dye 11 = .ok (.iload_n 2, 1) := by decide +kernel
theorem dX7_dye_12 : decode cX7_dye 12 = .ok (.i2l, 1) := by decide +kernel
theorem dX7_dye_13 : decode cX7_dye 13 = .ok (.lconst 0, 1) := by decide +kernel
theorem dX7_dye_14 : decode cX7_dye 14 = .ok (.ldc2_w 207, 3) := by decide +kernel
theorem dX7_dye_17 : decode cX7_dye 17 = .ok (.invokestatic 78, 3) := by decide +kernel
theorem dX7_dye_20 : decode cX7_dye 20 = .ok (.ifCond .ne 6, 3) := by decide +kernel
theorem dX7_dye_23 : decode cX7_dye 23 = .ok (.bipush (-3), 2) := by decide +kernel
theorem dX7_dye_25 : decode cX7_dye 25 = .ok (.ireturn, 1) := by decide +kernel
theorem dX7_dye_26 : decode cX7_dye 26 = .ok (.aload_n 0, 1) := by decide +kernel
theorem dX7_dye_27 : decode cX7_dye 27 = .ok (.iload_n 1, 1) := by decide +kernel
theorem dX7_dye_28 : decode cX7_dye 28 = .ok (.invokevirtual 169, 3) := by decide +kernel
theorem dX7_dye_31 : decode cX7_dye 31 = .ok (.ifCond .ne 6, 3) := by decide +kernel
theorem dX7_dye_34 : decode cX7_dye 34 = .ok (.bipush (-4), 2) := by decide +kernel
theorem dX7_dye_36 : decode cX7_dye 36 = .ok (.ireturn, 1) := by decide +kernel
theorem dX7_dye_37 : decode cX7_dye 37 = .ok (.aload_n 0, 1) := by decide +kernel
theorem dX7_dye_38 : decode cX7_dye 38 = .ok (.invokevirtual 192, 3) := by decide +kernel
theorem dX7_dye_41 : decode cX7_dye 41 = .ok (.aload_n 0, 1) := by decide +kernel
theorem dX7_dye_42 : decode cX7_dye 42 = .ok (.getfield 25, 3) := by decide +kernel
theorem dX7_dye_45 : decode cX7_dye 45 = .ok (.iconst 0, 1) := by decide +kernel
theorem dX7_dye_46 : decode cX7_dye 46 = .ok (.iload_n 1, 1) := by decide +kernel
theorem dX7_dye_47 : decode cX7_dye 47 = .ok (.iadd, 1) := by decide +kernel
theorem dX7_dye_48 : decode cX7_dye 48 = .ok (.iaload, 1) := by decide +kernel
theorem dX7_dye_49 : decode cX7_dye 49 = .ok (.istore_n 3, 1) := by decide +kernel
theorem dX7_dye_50 : decode cX7_dye 50 = .ok (.aload_n 0, 1) := by decide +kernel
theorem dX7_dye_51 : decode cX7_dye 51 = .ok (.getfield 25, 3) := by decide +kernel
theorem dX7_dye_54 : decode cX7_dye 54 = .ok (.iconst 0, 1) := by decide +kernel
theorem dX7_dye_55 : decode cX7_dye 55 = .ok (.iload_n 1, 1) := by decide +kernel
theorem dX7_dye_56 : decode cX7_dye 56 = .ok (.iadd, 1) := by decide +kernel
theorem dX7_dye_57 : decode cX7_dye 57 = .ok (.iload_n 2, 1) := by decide +kernel
theorem dX7_dye_58 : decode cX7_dye 58 = .ok (.iastore, 1) := by decide +kernel
theorem dX7_dye_59 : decode cX7_dye 59 = .ok (.iload_n 3, 1) := by decide +kernel
theorem dX7_dye_60 : decode cX7_dye 60 = .ok (.ireturn, 1) := by decide +kernel
theorem dX7_oneDay_0 : decode cX7_oneDay 0 = .ok (.iconst 0, 1) := by decide +kernel
theorem dX7_oneDay_1 : decode cX7_oneDay 1 = .ok (.istore_n 1, 1) := by decide +kernel
theorem dX7_oneDay_2 : decode cX7_oneDay 2 = .ok (.iconst 0, 1) := by decide +kernel
theorem dX7_oneDay_3 : decode cX7_oneDay 3 = .ok (.istore_n 2, 1) := by decide +kernel
theorem dX7_oneDay_4 : decode cX7_oneDay 4 = .ok (.iload_n 2, 1) := by decide +kernel
theorem dX7_oneDay_5 : decode cX7_oneDay 5 = .ok (.aload_n 0, 1) := by decide +kernel
theorem dX7_oneDay_6 : decode cX7_oneDay 6 = .ok (.getfield 156, 3) := by decide +kernel
theorem dX7_oneDay_9 : decode cX7_oneDay 9 = .ok (.if_icmp .ge 42, 3) := by decide +kernel
theorem dX7_oneDay_12 : decode cX7_oneDay 12 = .ok (.iload_n 1, 1) := by decide +kernel
theorem dX7_oneDay_13 : decode cX7_oneDay 13 = .ok (.aload_n 0, 1) := by decide +kernel
theorem dX7_oneDay_14 : decode cX7_oneDay 14 = .ok (.getfield 52, 3) := by decide +kernel
theorem dX7_oneDay_17 : decode cX7_oneDay 17 = .ok (.iload_n 2, 1) := by decide +kernel
theorem dX7_oneDay_18 : decode cX7_oneDay 18 = .ok (.iaload, 1) := by decide +kernel
theorem dX7_oneDay_19 : decode cX7_oneDay 19 = .ok (.aload_n 0, 1) := by decide +kernel
theorem dX7_oneDay_20 : decode cX7_oneDay 20 = .ok (.getfield 25, 3) := by decide +kernel
theorem dX7_oneDay_23 : decode cX7_oneDay 23 = .ok (.bipush 40, 2) := by decide +kernel
theorem dX7_oneDay_25 : decode cX7_oneDay 25 = .ok (.iaload, 1) := by decide +kernel
theorem dX7_oneDay_26 : decode cX7_oneDay 26 = .ok (.if_icmp .ne 16, 3) := by decide +kernel
theorem dX7_oneDay_29 : decode cX7_oneDay 29 = .ok (.aload_n 0, 1) := by decide +kernel
theorem dX7_oneDay_30 : decode cX7_oneDay 30 = .ok (.aload_n 0, 1) := by decide +kernel
theorem dX7_oneDay_31 : decode cX7_oneDay 31 = .ok (.getfield 16, 3) := by decide +kernel
theorem dX7_oneDay_34 : decode cX7_oneDay 34 = .ok (.iload_n 2, 1) := by decide +kernel
theorem dX7_oneDay_35 : decode cX7_oneDay 35 = .ok (.iaload, 1) := by decide +kernel
theorem dX7_oneDay_36 : decode cX7_oneDay 36 = .ok (.invokevirtual 195, 3) := by decide +kernel
theorem dX7_oneDay_39 : decode cX7_oneDay 39 = .ok (.goto 4, 3) := by decide +kernel
theorem dX7_oneDay_42 : decode cX7_oneDay 42 = .ok (.iconst 0, 1) := by decide +kernel
theorem dX7_oneDay_43 : decode cX7_oneDay 43 = .ok (.ior, 1) := by decide +kernel
theorem dX7_oneDay_44 : decode cX7_oneDay 44 = .ok (.istore_n 1, 1) := by decide +kernel
theorem dX7_oneDay_45 : decode cX7_oneDay 45 = .ok (.iinc 2 1, 3) := by decide +kernel
theorem dX7_oneDay_48 : decode cX7_oneDay 48 = .ok (.goto (-44), 3) := by decide +kernel
theorem dX7_oneDay_51 : decode cX7_oneDay 51 = .ok (.aload_n 0, 1) := by decide +kernel
theorem dX7_oneDay_52 : decode cX7_oneDay 52 = .ok (.getfield 25, 3) := by decide +kernel
theorem dX7_oneDay_55 : decode cX7_oneDay 55 = .ok (.bipush 40, 2) := by decide +kernel
theorem dX7_oneDay_57 : decode cX7_oneDay 57 = .ok (.dup2, 1) := by decide +kernel
theorem dX7_oneDay_58 : decode cX7_oneDay 58 = .ok (.iaload, 1) := by decide +kernel
theorem dX7_oneDay_59 : decode cX7_oneDay 59 = .ok (.iconst 1, 1) := by decide +kernel
theorem dX7_oneDay_60 : decode cX7_oneDay 60 = .ok (.iadd, 1) := by decide +kernel
theorem dX7_oneDay_61 : decode cX7_oneDay 61 = .ok (.iastore, 1) := by decide +kernel
theorem dX7_oneDay_62 : decode cX7_oneDay 62 = .ok (.iconst 0, 1) := by decide +kernel
theorem dX7_oneDay_63 : decode cX7_oneDay 63 = .ok (.istore_n 2, 1) := by decide +kernel
theorem dX7_oneDay_64 : decode cX7_oneDay 64 = .ok (.iload_n 2, 1) := by decide +kernel
theorem dX7_oneDay_65 : decode cX7_oneDay 65 = .ok (.aload_n 0, 1) := by decide +kernel
theorem dX7_oneDay_66 : decode cX7_oneDay 66 = .ok (.getfield 74, 3) := by decide +kernel
theorem dX7_oneDay_69 : decode cX7_oneDay 69 = .ok (.if_icmp .ge 75, 3) := by decide +kernel
theorem dX7_oneDay_72 : decode cX7_oneDay 72 = .ok (.aload_n 0, 1) := by decide +kernel
theorem dX7_oneDay_73 : decode cX7_oneDay 73 = .ok (.iload_n 2, 1) := by decide +kernel
theorem dX7_oneDay_74 : decode cX7_oneDay 74 = .ok (.invokevirtual 169, 3) := by decide +kernel
theorem dX7_oneDay_77 : decode cX7_oneDay 77 = .ok (.ifCond .eq 33, 3) := by decide +kernel
theorem dX7_oneDay_80 : decode cX7_oneDay 80 = .ok (.aload_n 0, 1) := by decide +kernel
theorem dX7_oneDay_81 : decode cX7_oneDay 81 = .ok (.getfield 7, 3) := by decide +kernel
theorem dX7_oneDay_84 : decode cX7_oneDay 84 = .ok (.iload_n 2, 1) := by decide +kernel
theorem dX7_oneDay_85 : decode cX7_oneDay 85 = .ok (.iaload, 1) := by decide +kernel
theorem dX7_oneDay_86 : decode cX7_oneDay 86 = .ok (.iconst 3, 1) := by decide +kernel
theorem dX7_oneDay_87 : decode cX7_oneDay 87 = .ok (.if_icmp .eq 23, 3) := by decide +kernel
theorem dX7_oneDay_90 : decode cX7_oneDay 90 = .ok (.aload_n 0, 1) := by decide +kernel
theorem dX7_oneDay_91 : decode cX7_oneDay 91 = .ok (.getfield 13, 3) := by decide +kernel
theorem dX7_oneDay_94 : decode cX7_oneDay 94 = .ok (.iload_n 2, 1) := by decide +kernel
theorem dX7_oneDay_95 : decode cX7_oneDay 95 = .ok (.iaload, 1) := by decide +kernel
theorem dX7_oneDay_96 : decode cX7_oneDay 96 = .ok (.aload_n 0, 1) := by decide +kernel
theorem dX7_oneDay_97 : decode cX7_oneDay 97 = .ok (.getfield 25, 3) := by decide +kernel
theorem dX7_oneDay_100 : decode cX7_oneDay 100 = .ok (.bipush 40, 2) := by decide +kernel
theorem dX7_oneDay_102 : decode cX7_oneDay 102 = .ok (.iaload, 1) := by decide +kernel
theorem dX7_oneDay_103 : decode cX7_oneDay 103 = .ok (.if_icmp .gt 7, 3) := by decide +kernel
theorem dX7_oneDay_106 : decode cX7_oneDay 106 = .ok (.iconst 1, 1) := by decide +kernel
theorem dX7_oneDay_107 : decode cX7_oneDay 107 = .ok (.goto 4, 3) := by decide +kernel
theorem dX7_oneDay_110 : decode cX7_oneDay 110 = .ok (.iconst 0, 1) := by decide +kernel
theorem dX7_oneDay_111 : decode cX7_oneDay 111 = .ok (.istore_n 3, 1) := by decide +kernel
theorem dX7_oneDay_112 : decode cX7_oneDay 112 = .ok (.aload_n 0, 1) := by decide +kernel
theorem dX7_oneDay_113 : decode cX7_oneDay 113 = .ok (.getfield 25, 3) := by decide +kernel
theorem dX7_oneDay_116 : decode cX7_oneDay 116 = .ok (.bipush 8, 2) := by decide +kernel
theorem dX7_oneDay_118 : decode cX7_oneDay 118 = .ok (.iload_n 2, 1) := by decide +kernel
theorem dX7_oneDay_119 : decode cX7_oneDay 119 = .ok (.iadd, 1) := by decide +kernel
theorem dX7_oneDay_120 : decode cX7_oneDay 120 = .ok (.iload_n 3, 1) := by decide +kernel
theorem dX7_oneDay_121 : decode cX7_oneDay 121 = .ok (.ifCond .eq 7, 3) := by decide +kernel
theorem dX7_oneDay_124 : decode cX7_oneDay 124 = .ok (.iconst 2, 1) := by decide +kernel
theorem dX7_oneDay_125 : decode cX7_oneDay 125 = .ok (.goto 12, 3) := by decide +kernel
theorem dX7_oneDay_128 : decode cX7_oneDay 128 = .ok (.aload_n 0, 1) := by decide +kernel
theorem dX7_oneDay_129 : decode cX7_oneDay 129 = .ok (.getfield 25, 3) := by decide +kernel
theorem dX7_oneDay_132 : decode cX7_oneDay 132 = .ok (.bipush 8, 2) := by decide +kernel
theorem dX7_oneDay_134 : decode cX7_oneDay 134 = .ok (.iload_n 2, 1) := by decide +kernel
theorem dX7_oneDay_135 : decode cX7_oneDay 135 = .ok (.iadd, 1) := by decide +kernel
theorem dX7_oneDay_136 : decode cX7_oneDay 136 = .ok (.iaload, 1) := by decide +kernel
theorem dX7_oneDay_137 : decode cX7_oneDay 137 = .ok (.iastore, 1) := by decide +kernel
theorem dX7_oneDay_138 : decode cX7_oneDay 138 = .ok (.iinc 2 1, 3) := by decide +kernel
theorem dX7_oneDay_141 : decode cX7_oneDay 141 = .ok (.goto (-77), 3) := by decide +kernel
theorem dX7_oneDay_144 : decode cX7_oneDay 144 = .ok (.iload_n 1, 1) := by decide +kernel
theorem dX7_oneDay_145 : decode cX7_oneDay 145 = .ok (.ireturn, 1) := by decide +kernel
theorem dX7_asTold_0 : decode cX7_asTold 0 = .ok (.iconst 0, 1) := by decide +kernel
theorem dX7_asTold_1 : decode cX7_asTold 1 = .ok (.istore_n 1, 1) := by decide +kernel
theorem dX7_asTold_2 : decode cX7_asTold 2 = .ok (.iload_n 1, 1) := by decide +kernel
theorem dX7_asTold_3 : decode cX7_asTold 3 = .ok (.bipush 6, 2) := by decide +kernel
theorem dX7_asTold_5 : decode cX7_asTold 5 = .ok (.if_icmp .ge 21, 3) := by decide +kernel
theorem dX7_asTold_8 : decode cX7_asTold 8 = .ok (.aload_n 0, 1) := by decide +kernel
theorem dX7_asTold_9 : decode cX7_asTold 9 = .ok (.getfield 52, 3) := by decide +kernel
theorem dX7_asTold_12 : decode cX7_asTold 12 = .ok (.iload_n 1, 1) := by decide +kernel
theorem dX7_asTold_13 : decode cX7_asTold 13 = .ok (.aload_n 0, 1) := by decide +kernel
theorem dX7_asTold_14 : decode cX7_asTold 14 = .ok (.getfield 19, 3) := by decide +kernel
theorem dX7_asTold_17 : decode cX7_asTold 17 = .ok (.iload_n 1, 1) := by decide +kernel
theorem dX7_asTold_18 : decode cX7_asTold 18 = .ok (.iaload, 1) := by decide +kernel
theorem dX7_asTold_19 : decode cX7_asTold 19 = .ok (.iastore, 1) := by decide +kernel
theorem dX7_asTold_20 : decode cX7_asTold 20 = .ok (.iinc 1 1, 3) := by decide +kernel
theorem dX7_asTold_23 : decode cX7_asTold 23 = .ok (.goto (-21), 3) := by decide +kernel
theorem dX7_asTold_26 : decode cX7_asTold 26 = .ok (.return_, 1) := by decide +kernel
theorem dX7_go_0 : decode cX7_go 0 = .ok (.iload_n 1, 1) := by decide +kernel
theorem dX7_go_1 : decode cX7_go 1 = .ok (.i2l, 1) := by decide +kernel
theorem dX7_go_2 : decode cX7_go 2 = .ok (.lconst 1, 1) := by decide +kernel
theorem dX7_go_3 : decode cX7_go 3 = .ok (.ldc2_w 209, 3) := by decide +kernel
theorem dX7_go_6 : decode cX7_go 6 = .ok (.invokestatic 78, 3) := by decide +kernel
theorem dX7_go_9 : decode cX7_go 9 = .ok (.ifCond .ne 6, 3) := by decide +kernel
theorem dX7_go_12 : decode cX7_go 12 = .ok (.bipush (-3), 2) := by decide +kernel
theorem dX7_go_14 : decode cX7_go 14 = .ok (.ireturn, 1) := by decide +kernel
theorem dX7_go_15 : decode cX7_go 15 = .ok (.aload_n 0, 1) := by decide +kernel
theorem dX7_go_16 : decode cX7_go 16 = .ok (.getfield 25, 3) := by decide +kernel
theorem dX7_go_19 : decode cX7_go 19 = .ok (.bipush 40, 2) := by decide +kernel
theorem dX7_go_21 : decode cX7_go 21 = .ok (.iaload, 1) := by decide +kernel
theorem dX7_go_22 : decode cX7_go 22 = .ok (.iload_n 1, 1) := by decide +kernel
theorem dX7_go_23 : decode cX7_go 23 = .ok (.iadd, 1) := by decide +kernel
theorem dX7_go_24 : decode cX7_go 24 = .ok (.sipush 999, 3) := by decide +kernel
theorem dX7_go_27 : decode cX7_go 27 = .ok (.if_icmp .le 6, 3) := by decide +kernel
theorem dX7_go_30 : decode cX7_go 30 = .ok (.bipush (-5), 2) := by decide +kernel
theorem dX7_go_32 : decode cX7_go 32 = .ok (.ireturn, 1) := by decide +kernel
theorem dX7_go_33 : decode cX7_go 33 = .ok (.aload_n 0, 1) := by decide +kernel
theorem dX7_go_34 : decode cX7_go 34 = .ok (.invokevirtual 192, 3) := by decide +kernel
theorem dX7_go_37 : decode cX7_go 37 = .ok (.aload_n 0, 1) := by decide +kernel
theorem dX7_go_38 : decode cX7_go 38 = .ok (.invokevirtual 211, 3) := by decide +kernel
theorem dX7_go_41 : decode cX7_go 41 = .ok (.aload_n 0, 1) := by decide +kernel
theorem dX7_go_42 : decode cX7_go 42 = .ok (.getfield 25, 3) := by decide +kernel
theorem dX7_go_45 : decode cX7_go 45 = .ok (.bipush 41, 2) := by decide +kernel
theorem dX7_go_47 : decode cX7_go 47 = .ok (.iaload, 1) := by decide +kernel
theorem dX7_go_48 : decode cX7_go 48 = .ok (.istore_n 2, 1) := by decide +kernel
theorem dX7_go_49 : decode cX7_go 49 = .ok (.iconst 0, 1) := by decide +kernel
theorem dX7_go_50 : decode cX7_go 50 = .ok (.istore_n 3, 1) := by decide +kernel
theorem dX7_go_51 : decode cX7_go 51 = .ok (.iload_n 3, 1) := by decide +kernel
theorem dX7_go_52 : decode cX7_go 52 = .ok (.iload_n 1, 1) := by decide +kernel
theorem dX7_go_53 : decode cX7_go 53 = .ok (.if_icmp .ge 14, 3) := by decide +kernel
theorem dX7_go_56 : decode cX7_go 56 = .ok (.aload_n 0, 1) := by decide +kernel
theorem dX7_go_57 : decode cX7_go 57 = .ok (.invokevirtual 214, 3) := by decide +kernel
theorem dX7_go_60 : decode cX7_go 60 = .ok (.pop, 1) := by decide +kernel
theorem dX7_go_61 : decode cX7_go 61 = .ok (.iinc 3 1, 3) := by decide +kernel
theorem dX7_go_64 : decode cX7_go 64 = .ok (.goto (-13), 3) := by decide +kernel
theorem dX7_go_67 : decode cX7_go 67 = .ok (.aload_n 0, 1) := by decide +kernel
theorem dX7_go_68 : decode cX7_go 68 = .ok (.getfield 25, 3) := by decide +kernel
theorem dX7_go_71 : decode cX7_go 71 = .ok (.bipush 41, 2) := by decide +kernel
theorem dX7_go_73 : decode cX7_go 73 = .ok (.iaload, 1) := by decide +kernel
theorem dX7_go_74 : decode cX7_go 74 = .ok (.iload_n 2, 1) := by decide +kernel
theorem dX7_go_75 : decode cX7_go 75 = .ok (.isub, 1) := by decide +kernel
theorem dX7_go_76 : decode cX7_go 76 = .ok (.ireturn, 1) := by decide +kernel
theorem dX7_undo_0 : decode cX7_undo 0 = .ok (.aload_n 0, 1) := by decide +kernel
theorem dX7_undo_1 : decode cX7_undo 1 = .ok (.getfield 166, 3) := by decide +kernel
theorem dX7_undo_4 : decode cX7_undo 4 = .ok (.ifCond .ne 6, 3) := by decide +kernel
theorem dX7_undo_7 : decode cX7_undo 7 = .ok (.bipush (-4), 2) := by decide +kernel
theorem dX7_undo_9 : decode cX7_undo 9 = .ok (.ireturn, 1) := by decide +kernel
theorem dX7_undo_10 : decode cX7_undo 10 = .ok (.aload_n 0, 1) := by decide +kernel
theorem dX7_undo_11 : decode cX7_undo 11 = .ok (.dup, 1) := by decide +kernel
theorem dX7_undo_12 : decode cX7_undo 12 = .ok (.getfield 166, 3) := by decide +kernel
theorem dX7_undo_15 : decode cX7_undo 15 = .ok (.iconst 1, 1) := by decide +kernel
theorem dX7_undo_16 : decode cX7_undo 16 = .ok (.isub, 1) := by decide +kernel
theorem dX7_undo_17 : decode cX7_undo 17 = .ok (.putfield 166, 3) := by decide +kernel
theorem dX7_undo_20 : decode cX7_undo 20 = .ok (.iconst 0, 1) := by decide +kernel
theorem dX7_undo_21 : decode cX7_undo 21 = .ok (.istore_n 1, 1) := by decide +kernel
theorem dX7_undo_22 : decode cX7_undo 22 = .ok (.iload_n 1, 1) := by decide +kernel
theorem dX7_undo_23 : decode cX7_undo 23 = .ok (.bipush 42, 2) := by decide +kernel
theorem dX7_undo_25 : decode cX7_undo 25 = .ok (.if_icmp .ge 29, 3) := by decide +kernel
theorem dX7_undo_28 : decode cX7_undo 28 = .ok (.aload_n 0, 1) := by decide +kernel
theorem dX7_undo_29 : decode cX7_undo 29 = .ok (.getfield 25, 3) := by decide +kernel
theorem dX7_undo_32 : decode cX7_undo 32 = .ok (.iload_n 1, 1) := by decide +kernel
theorem dX7_undo_33 : decode cX7_undo 33 = .ok (.aload_n 0, 1) := by decide +kernel
theorem dX7_undo_34 : decode cX7_undo 34 = .ok (.getfield 46, 3) := by decide +kernel
theorem dX7_undo_37 : decode cX7_undo 37 = .ok (.bipush 42, 2) := by decide +kernel
theorem dX7_undo_39 : decode cX7_undo 39 = .ok (.aload_n 0, 1) := by decide +kernel
theorem dX7_undo_40 : decode cX7_undo 40 = .ok (.getfield 166, 3) := by decide +kernel
theorem dX7_undo_43 : decode cX7_undo 43 = .ok (.imul, 1) := by decide +kernel
theorem dX7_undo_44 : decode cX7_undo 44 = .ok (.iload_n 1, 1) := by decide +kernel
theorem dX7_undo_45 : decode cX7_undo 45 = .ok (.iadd, 1) := by decide +kernel
theorem dX7_undo_46 : decode cX7_undo 46 = .ok (.iaload, 1) := by decide +kernel
theorem dX7_undo_47 : decode cX7_undo 47 = .ok (.iastore, 1) := by decide +kernel
theorem dX7_undo_48 : decode cX7_undo 48 = .ok (.iinc 1 1, 3) := by decide +kernel
theorem dX7_undo_51 : decode cX7_undo 51 = .ok (.goto (-29), 3) := by decide +kernel
theorem dX7_undo_54 : decode cX7_undo 54 = .ok (.aload_n 0, 1) := by decide +kernel
theorem dX7_undo_55 : decode cX7_undo 55 = .ok (.getfield 166, 3) := by decide +kernel
theorem dX7_undo_58 : decode cX7_undo 58 = .ok (.ireturn, 1) := by decide +kernel
theorem dX7_keep_0 : decode cX7_keep 0 = .ok (.iload_n 1, 1) := by decide +kernel
theorem dX7_keep_1 : decode cX7_keep 1 = .ok (.i2l, 1) := by decide +kernel
theorem dX7_keep_2 : decode cX7_keep 2 = .ok (.lconst 0, 1) := by decide +kernel
theorem dX7_keep_3 : decode cX7_keep 3 = .ok (.lconst 1, 1) := by decide +kernel
theorem dX7_keep_4 : decode cX7_keep 4 = .ok (.invokestatic 78, 3) := by decide +kernel
theorem dX7_keep_7 : decode cX7_keep 7 = .ok (.ifCond .ne 6, 3) := by decide +kernel
theorem dX7_keep_10 : decode cX7_keep 10 = .ok (.bipush (-2), 2) := by decide +kernel
theorem dX7_keep_12 : decode cX7_keep 12 = .ok (.ireturn, 1) := by decide +kernel
theorem dX7_keep_13 : decode cX7_keep 13 = .ok (.iconst 0, 1) := by decide +kernel
theorem dX7_keep_14 : decode cX7_keep 14 = .ok (.istore_n 2, 1) := by decide +kernel
theorem dX7_keep_15 : decode cX7_keep 15 = .ok (.iload_n 2, 1) := by decide +kernel
theorem dX7_keep_16 : decode cX7_keep 16 = .ok (.bipush 42, 2) := by decide +kernel
theorem dX7_keep_18 : decode cX7_keep 18 = .ok (.if_icmp .ge 26, 3) := by decide +kernel
theorem dX7_keep_21 : decode cX7_keep 21 = .ok (.aload_n 0, 1) := by decide +kernel
theorem dX7_keep_22 : decode cX7_keep 22 = .ok (.getfield 59, 3) := by decide +kernel
theorem dX7_keep_25 : decode cX7_keep 25 = .ok (.bipush 42, 2) := by decide +kernel
theorem dX7_keep_27 : decode cX7_keep 27 = .ok (.iload_n 1, 1) := by decide +kernel
theorem dX7_keep_28 : decode cX7_keep 28 = .ok (.imul, 1) := by decide +kernel
theorem dX7_keep_29 : decode cX7_keep 29 = .ok (.iload_n 2, 1) := by decide +kernel
theorem dX7_keep_30 : decode cX7_keep 30 = .ok (.iadd, 1) := by decide +kernel
theorem dX7_keep_31 : decode cX7_keep 31 = .ok (.aload_n 0, 1) := by decide +kernel
theorem dX7_keep_32 : decode cX7_keep 32 = .ok (.getfield 25, 3) := by decide +kernel
theorem dX7_keep_35 : decode cX7_keep 35 = .ok (.iload_n 2, 1) := by decide +kernel
theorem dX7_keep_36 : decode cX7_keep 36 = .ok (.iaload, 1) := by decide +kernel
theorem dX7_keep_37 : decode cX7_keep 37 = .ok (.iastore, 1) := by decide +kernel
theorem dX7_keep_38 : decode cX7_keep 38 = .ok (.iinc 2 1, 3) := by decide +kernel
theorem dX7_keep_41 : decode cX7_keep 41 = .ok (.goto (-26), 3) := by decide +kernel
theorem dX7_keep_44 : decode cX7_keep 44 = .ok (.aload_n 0, 1) := by decide +kernel
theorem dX7_keep_45 : decode cX7_keep 45 = .ok (.getfield 55, 3) := by decide +kernel
theorem dX7_keep_48 : decode cX7_keep 48 = .ok (.iload_n 1, 1) := by decide +kernel
theorem dX7_keep_49 : decode cX7_keep 49 = .ok (.iconst 1, 1) := by decide +kernel
theorem dX7_keep_50 : decode cX7_keep 50 = .ok (.bastore, 1) := by decide +kernel
theorem dX7_keep_51 : decode cX7_keep 51 = .ok (.aload_n 0, 1) := by decide +kernel
theorem dX7_keep_52 : decode cX7_keep 52 = .ok (.getfield 25, 3) := by decide +kernel
theorem dX7_keep_55 : decode cX7_keep 55 = .ok (.bipush 40, 2) := by decide +kernel
theorem dX7_keep_57 : decode cX7_keep 57 = .ok (.iaload, 1) := by decide +kernel
theorem dX7_keep_58 : decode cX7_keep 58 = .ok (.ireturn, 1) := by decide +kernel
theorem dX7_back_0 : decode cX7_back 0 = .ok (.iload_n 1, 1) := by decide +kernel
theorem dX7_back_1 : decode cX7_back 1 = .ok (.i2l, 1) := by decide +kernel
theorem dX7_back_2 : decode cX7_back 2 = .ok (.lconst 0, 1) := by decide +kernel
theorem dX7_back_3 : decode cX7_back 3 = .ok (.lconst 1, 1) := by decide +kernel
theorem dX7_back_4 : decode cX7_back 4 = .ok (.invokestatic 78, 3) := by decide +kernel
theorem dX7_back_7 : decode cX7_back 7 = .ok (.ifCond .ne 6, 3) := by decide +kernel
theorem dX7_back_10 : decode cX7_back 10 = .ok (.bipush (-2), 2) := by decide +kernel
theorem dX7_back_12 : decode cX7_back 12 = .ok (.ireturn, 1) := by decide +kernel
theorem dX7_back_13 : decode cX7_back 13 = .ok (.aload_n 0, 1) := by decide +kernel
theorem dX7_back_14 : decode cX7_back 14 = .ok (.getfield 55, 3) := by decide +kernel
theorem dX7_back_17 : decode cX7_back 17 = .ok (.iload_n 1, 1) := by decide +kernel
theorem dX7_back_18 : decode cX7_back 18 = .ok (.baload, 1) := by decide +kernel
theorem dX7_back_19 : decode cX7_back 19 = .ok (.ifCond .ne 6, 3) := by decide +kernel
theorem dX7_back_22 : decode cX7_back 22 = .ok (.bipush (-4), 2) := by decide +kernel
theorem dX7_back_24 : decode cX7_back 24 = .ok (.ireturn, 1) := by decide +kernel
theorem dX7_back_25 : decode cX7_back 25 = .ok (.iconst 0, 1) := by decide +kernel
theorem dX7_back_26 : decode cX7_back 26 = .ok (.istore_n 2, 1) := by decide +kernel
theorem dX7_back_27 : decode cX7_back 27 = .ok (.iload_n 2, 1) := by decide +kernel
theorem dX7_back_28 : decode cX7_back 28 = .ok (.bipush 42, 2) := by decide +kernel
theorem dX7_back_30 : decode cX7_back 30 = .ok (.if_icmp .ge 26, 3) := by decide +kernel
theorem dX7_back_33 : decode cX7_back 33 = .ok (.aload_n 0, 1) := by decide +kernel
theorem dX7_back_34 : decode cX7_back 34 = .ok (.getfield 25, 3) := by decide +kernel
theorem dX7_back_37 : decode cX7_back 37 = .ok (.iload_n 2, 1) := by decide +kernel
theorem dX7_back_38 : decode cX7_back 38 = .ok (.aload_n 0, 1) := by decide +kernel
theorem dX7_back_39 : decode cX7_back 39 = .ok (.getfield 59, 3) := by decide +kernel
theorem dX7_back_42 : decode cX7_back 42 = .ok (.bipush 42, 2) := by decide +kernel
theorem dX7_back_44 : decode cX7_back 44 = .ok (.iload_n 1, 1) := by decide +kernel
theorem dX7_back_45 : decode cX7_back 45 = .ok (.imul, 1) := by decide +kernel
theorem dX7_back_46 : decode cX7_back 46 = .ok (.iload_n 2, 1) := by decide +kernel
theorem dX7_back_47 : decode cX7_back 47 = .ok (.iadd, 1) := by decide +kernel
theorem dX7_back_48 : decode cX7_back 48 = .ok (.iaload, 1) := by decide +kernel
theorem dX7_back_49 : decode cX7_back 49 = .ok (.iastore, 1) := by decide +kernel
theorem dX7_back_50 : decode cX7_back 50 = .ok (.iinc 2 1, 3) := by decide +kernel
theorem dX7_back_53 : decode cX7_back 53 = .ok (.goto (-26), 3) := by decide +kernel
theorem dX7_back_56 : decode cX7_back 56 = .ok (.aload_n 0, 1) := by decide +kernel
theorem dX7_back_57 : decode cX7_back 57 = .ok (.iconst 0, 1) := by decide +kernel
theorem dX7_back_58 : decode cX7_back 58 = .ok (.putfield 166, 3) := by decide +kernel
theorem dX7_back_61 : decode cX7_back 61 = .ok (.aload_n 0, 1) := by decide +kernel
theorem dX7_back_62 : decode cX7_back 62 = .ok (.getfield 25, 3) := by decide +kernel
theorem dX7_back_65 : decode cX7_back 65 = .ok (.bipush 40, 2) := by decide +kernel
theorem dX7_back_67 : decode cX7_back 67 = .ok (.iaload, 1) := by decide +kernel
theorem dX7_back_68 : decode cX7_back 68 = .ok (.ireturn, 1) := by decide +kernel
theorem dX7_takes_0 : decode cX7_takes 0 = .ok (.aload_n 0, 1) := by decide +kernel
theorem dX7_takes_1 : decode cX7_takes 1 = .ok (.iload_n 1, 1) := by decide +kernel
theorem dX7_takes_2 : decode cX7_takes 2 = .ok (.invokevirtual 172, 3) := by decide +kernel
theorem dX7_takes_5 : decode cX7_takes 5 = .ok (.ifCond .eq 11, 3) := by decide +kernel
theorem dX7_takes_8 : decode cX7_takes 8 = .ok (.aload_n 0, 1) := by decide +kernel
theorem dX7_takes_9 : decode cX7_takes 9 = .ok (.iload_n 1, 1) := by decide +kernel
theorem dX7_takes_10 : decode cX7_takes 10 = .ok (.invokevirtual 186, 3) := by decide +kernel
theorem dX7_takes_13 : decode cX7_takes 13 = .ok (.goto 5, 3) := by decide +kernel
theorem dX7_takes_16 : decode cX7_takes 16 = .ok (.bipush (-2), 2) := by decide +kernel
theorem dX7_takes_18 : decode cX7_takes 18 = .ok (.ireturn, 1) := by decide +kernel
theorem dX7_loss_0 : decode cX7_loss 0 = .ok (.aload_n 0, 1) := by decide +kernel
theorem dX7_loss_1 : decode cX7_loss 1 = .ok (.iload_n 1, 1) := by decide +kernel
theorem dX7_loss_2 : decode cX7_loss 2 = .ok (.invokevirtual 172, 3) := by decide +kernel
theorem dX7_loss_5 : decode cX7_loss 5 = .ok (.ifCond .eq 15, 3) := by decide +kernel
theorem dX7_loss_8 : decode cX7_loss 8 = .ok (.aload_n 0, 1) := by decide +kernel
theorem dX7_loss_9 : decode cX7_loss 9 = .ok (.aload_n 0, 1) := by decide +kernel
theorem dX7_loss_10 : decode cX7_loss 10 = .ok (.iload_n 1, 1) := by decide +kernel
theorem dX7_loss_11 : decode cX7_loss 11 = .ok (.invokevirtual 186, 3) := by decide +kernel
theorem dX7_loss_14 : decode cX7_loss 14 = .ok (.invokevirtual 189, 3) := by decide +kernel
theorem dX7_loss_17 : decode cX7_loss 17 = .ok (.goto 5, 3) := by decide +kernel
theorem dX7_loss_20 : decode cX7_loss 20 = .ok (.bipush (-2), 2) := by decide +kernel
theorem dX7_loss_22 : decode cX7_loss 22 = .ok (.ireturn, 1) := by decide +kernel
theorem dX7_lifts_0 : decode cX7_lifts 0 = .ok (.aload_n 0, 1) := by decide +kernel
theorem dX7_lifts_1 : decode cX7_lifts 1 = .ok (.iload_n 1, 1) := by decide +kernel
theorem dX7_lifts_2 : decode cX7_lifts 2 = .ok (.invokevirtual 172, 3) := by decide +kernel
theorem dX7_lifts_5 : decode cX7_lifts 5 = .ok (.ifCond .ne 6, 3) := by decide +kernel
theorem dX7_lifts_8 : decode cX7_lifts 8 = .ok (.bipush (-2), 2) := by decide +kernel
theorem dX7_lifts_10 : decode cX7_lifts 10 = .ok (.ireturn, 1) := by decide +kernel
theorem dX7_lifts_11 : decode cX7_lifts 11 = .ok (.iload_n 2, 1) := by decide +kernel
theorem dX7_lifts_12 : decode cX7_lifts 12 = .ok (.i2l, 1) := by decide +kernel
theorem dX7_lifts_13 : decode cX7_lifts 13 = .ok (.lconst 0, 1) := by decide +kernel
theorem dX7_lifts_14 : decode cX7_lifts 14 = .ok (.lconst 1, 1) := by decide +kernel
theorem dX7_lifts_15 : decode cX7_lifts 15 = .ok (.invokestatic 78, 3) := by decide +kernel
theorem dX7_lifts_18 : decode cX7_lifts 18 = .ok (.ifCond .ne 6, 3) := by decide +kernel
theorem dX7_lifts_21 : decode cX7_lifts 21 = .ok (.bipush (-3), 2) := by decide +kernel
theorem dX7_lifts_23 : decode cX7_lifts 23 = .ok (.ireturn, 1) := by decide +kernel
theorem dX7_lifts_24 : decode cX7_lifts 24 = .ok (.aload_n 0, 1) := by decide +kernel
theorem dX7_lifts_25 : decode cX7_lifts 25 = .ok (.iload_n 1, 1) := by decide +kernel
theorem dX7_lifts_26 : decode cX7_lifts 26 = .ok (.invokevirtual 169, 3) := by decide +kernel
theorem dX7_lifts_29 : decode cX7_lifts 29 = .ok (.ifCond .ne 6, 3) := by decide +kernel
theorem dX7_lifts_32 : decode cX7_lifts 32 = .ok (.bipush (-4), 2) := by decide +kernel
theorem dX7_lifts_34 : decode cX7_lifts 34 = .ok (.ireturn, 1) := by decide +kernel
theorem dX7_lifts_35 : decode cX7_lifts 35 = .ok (.aload_n 0, 1) := by decide +kernel
theorem dX7_lifts_36 : decode cX7_lifts 36 = .ok (.getfield 25, 3) := by decide +kernel
theorem dX7_lifts_39 : decode cX7_lifts 39 = .ok (.bipush 24, 2) := by decide +kernel
theorem dX7_lifts_41 : decode cX7_lifts 41 = .ok (.iload_n 1, 1) := by decide +kernel
theorem dX7_lifts_42 : decode cX7_lifts 42 = .ok (.iadd, 1) := by decide +kernel
theorem dX7_lifts_43 : decode cX7_lifts 43 = .ok (.iaload, 1) := by decide +kernel
theorem dX7_lifts_44 : decode cX7_lifts 44 = .ok (.aload_n 0, 1) := by decide +kernel
theorem dX7_lifts_45 : decode cX7_lifts 45 = .ok (.invokevirtual 180, 3) := by decide +kernel
theorem dX7_lifts_48 : decode cX7_lifts 48 = .ok (.iand, 1) := by decide +kernel
theorem dX7_lifts_49 : decode cX7_lifts 49 = .ok (.istore_n 3, 1) := by decide +kernel
theorem dX7_lifts_50 : decode cX7_lifts 50 = .ok (.iload_n 2, 1) := by decide +kernel
theorem dX7_lifts_51 : decode cX7_lifts 51 = .ok (.ifCond .ne 10, 3) := by decide +kernel
theorem dX7_lifts_54 : decode cX7_lifts 54 = .ok (.iload_n 3, 1) := by decide +kernel
theorem dX7_lifts_55 : decode cX7_lifts 55 = .ok (.invokestatic 198, 3) := by decide +kernel
theorem dX7_lifts_58 : decode cX7_lifts 58 = .ok (.goto 4, 3) := by decide +kernel
theorem dX7_lifts_61 : decode cX7_lifts 61 = .ok (.iload_n 3, 1) := by decide +kernel
theorem dX7_lifts_62 : decode cX7_lifts 62 = .ok (.ireturn, 1) := by decide +kernel
theorem dX7_doomBy_0 : decode cX7_doomBy 0 = .ok (.iconst 0, 1) := by decide +kernel
theorem dX7_doomBy_1 : decode cX7_doomBy 1 = .ok (.istore_n 1, 1) := by decide +kernel
theorem dX7_doomBy_2 : decode cX7_doomBy 2 = .ok (.iload_n 1, 1) := by decide +kernel
theorem dX7_doomBy_3 : decode cX7_doomBy 3 = .ok (.bipush 42, 2) := by decide +kernel
theorem dX7_doomBy_5 : decode cX7_doomBy 5 = .ok (.if_icmp .ge 21, 3) := by decide +kernel
theorem dX7_doomBy_8 : decode cX7_doomBy 8 = .ok (.aload_n 0, 1) := by decide +kernel
theorem dX7_doomBy_9 : decode cX7_doomBy 9 = .ok (.getfield 62, 3) := by decide +kernel
theorem dX7_doomBy_12 : decode cX7_doomBy 12 = .ok (.iload_n 1, 1) := by decide +kernel
theorem dX7_doomBy_13 : decode cX7_doomBy 13 = .ok (.aload_n 0, 1) := by decide +kernel
theorem dX7_doomBy_14 : decode cX7_doomBy 14 = .ok (.getfield 25, 3) := by decide +kernel
theorem dX7_doomBy_17 : decode cX7_doomBy 17 = .ok (.iload_n 1, 1) := by decide +kernel
theorem dX7_doomBy_18 : decode cX7_doomBy 18 = .ok (.iaload, 1) := by decide +kernel
theorem dX7_doomBy_19 : decode cX7_doomBy 19 = .ok (.iastore, 1) := by decide +kernel
theorem dX7_doomBy_20 : decode cX7_doomBy 20 = .ok (.iinc 1 1, 3) := by decide +kernel
theorem dX7_doomBy_23 : decode cX7_doomBy 23 = .ok (.goto (-21), 3) := by decide +kernel
theorem dX7_doomBy_26 : decode cX7_doomBy 26 = .ok (.aload_n 0, 1) := by decide +kernel
theorem dX7_doomBy_27 : decode cX7_doomBy 27 = .ok (.iconst 0, 1) := by decide +kernel
theorem dX7_doomBy_28 : decode cX7_doomBy 28 = .ok (.putfield 217, 3) := by decide +kernel
theorem dX7_doomBy_31 : decode cX7_doomBy 31 = .ok (.aload_n 0, 1) := by decide +kernel
theorem dX7_doomBy_32 : decode cX7_doomBy 32 = .ok (.getfield 25, 3) := by decide +kernel
theorem dX7_doomBy_35 : decode cX7_doomBy 35 = .ok (.bipush 40, 2) := by decide +kernel
theorem dX7_doomBy_37 : decode cX7_doomBy 37 = .ok (.iaload, 1) := by decide +kernel
theorem dX7_doomBy_38 : decode cX7_doomBy 38 = .ok (.bipush 99, 2) := by decide +kernel
theorem dX7_doomBy_40 : decode cX7_doomBy 40 = .ok (.if_icmp .gt 19, 3) := by decide +kernel
theorem dX7_doomBy_43 : decode cX7_doomBy 43 = .ok (.aload_n 0, 1) := by decide +kernel
theorem dX7_doomBy_44 : decode cX7_doomBy 44 = .ok (.dup, 1) := by decide +kernel
theorem dX7_doomBy_45 : decode cX7_doomBy 45 = .ok (.getfield 217, 3) := by decide +kernel
theorem dX7_doomBy_48 : decode cX7_doomBy 48 = .ok (.aload_n 0, 1) := by decide +kernel
theorem dX7_doomBy_49 : decode cX7_doomBy 49 = .ok (.invokevirtual 214, 3) := by decide +kernel
theorem dX7_doomBy_52 : decode cX7_doomBy 52 = .ok (.ior, 1) := by decide +kernel
theorem dX7_doomBy_53 : decode cX7_doomBy 53 = .ok (.putfield 217, 3) := by decide +kernel
theorem dX7_doomBy_56 : decode cX7_doomBy 56 = .ok (.goto (-25), 3) := by decide +kernel
theorem dX7_doomBy_59 : decode cX7_doomBy 59 = .ok (.aload_n 0, 1) := by decide +kernel
theorem dX7_doomBy_60 : decode cX7_doomBy 60 = .ok (.getfield 25, 3) := by decide +kernel
theorem dX7_doomBy_63 : decode cX7_doomBy 63 = .ok (.bipush 41, 2) := by decide +kernel
theorem dX7_doomBy_65 : decode cX7_doomBy 65 = .ok (.iaload, 1) := by decide +kernel
theorem dX7_doomBy_66 : decode cX7_doomBy 66 = .ok (.aload_n 0, 1) := by decide +kernel
theorem dX7_doomBy_67 : decode cX7_doomBy 67 = .ok (.getfield 62, 3) := by decide +kernel
theorem dX7_doomBy_70 : decode cX7_doomBy 70 = .ok (.bipush 41, 2) := by decide +kernel
theorem dX7_doomBy_72 : decode cX7_doomBy 72 = .ok (.iaload, 1) := by decide +kernel
theorem dX7_doomBy_73 : decode cX7_doomBy 73 = .ok (.isub, 1) := by decide +kernel
theorem dX7_doomBy_74 : decode cX7_doomBy 74 = .ok (.istore_n 1, 1) := by decide +kernel
theorem dX7_doomBy_75 : decode cX7_doomBy 75 = .ok (.iconst 0, 1) := by decide +kernel
theorem dX7_doomBy_76 : decode cX7_doomBy 76 = .ok (.istore_n 2, 1) := by decide +kernel
theorem dX7_doomBy_77 : decode cX7_doomBy 77 = .ok (.iload_n 2, 1) := by decide +kernel
theorem dX7_doomBy_78 : decode cX7_doomBy 78 = .ok (.bipush 42, 2) := by decide +kernel
theorem dX7_doomBy_80 : decode cX7_doomBy 80 = .ok (.if_icmp .ge 21, 3) := by decide +kernel
theorem dX7_doomBy_83 : decode cX7_doomBy 83 = .ok (.aload_n 0, 1) := by decide +kernel
theorem dX7_doomBy_84 : decode cX7_doomBy 84 = .ok (.getfield 25, 3) := by decide +kernel
theorem dX7_doomBy_87 : decode cX7_doomBy 87 = .ok (.iload_n 2, 1) := by decide +kernel
theorem dX7_doomBy_88 : decode cX7_doomBy 88 = .ok (.aload_n 0, 1) := by decide +kernel
theorem dX7_doomBy_89 : decode cX7_doomBy 89 = .ok (.getfield 62, 3) := by decide +kernel
theorem dX7_doomBy_92 : decode cX7_doomBy 92 = .ok (.iload_n 2, 1) := by decide +kernel
theorem dX7_doomBy_93 : decode cX7_doomBy 93 = .ok (.iaload, 1) := by decide +kernel
theorem dX7_doomBy_94 : decode cX7_doomBy 94 = .ok (.iastore, 1) := by decide +kernel
theorem dX7_doomBy_95 : decode cX7_doomBy 95 = .ok (.iinc 2 1, 3) := by decide +kernel
theorem dX7_doomBy_98 : decode cX7_doomBy 98 = .ok (.goto (-21), 3) := by decide +kernel
theorem dX7_doomBy_101 : decode cX7_doomBy 101 = .ok (.iload_n 1, 1) := by decide +kernel
theorem dX7_doomBy_102 : decode cX7_doomBy 102 = .ok (.ireturn, 1) := by decide +kernel
theorem dX7_doom_0 : decode cX7_doom 0 = .ok (.iload_n 1, 1) := by decide +kernel
theorem dX7_doom_1 : decode cX7_doom 1 = .ok (.i2l, 1) := by decide +kernel
theorem dX7_doom_2 : decode cX7_doom 2 = .ok (.lconst 0, 1) := by decide +kernel
theorem dX7_doom_3 : decode cX7_doom 3 = .ok (.lconst 1, 1) := by decide +kernel
theorem dX7_doom_4 : decode cX7_doom 4 = .ok (.invokestatic 78, 3) := by decide +kernel
theorem dX7_doom_7 : decode cX7_doom 7 = .ok (.ifCond .ne 6, 3) := by decide +kernel
theorem dX7_doom_10 : decode cX7_doom 10 = .ok (.bipush (-3), 2) := by decide +kernel
theorem dX7_doom_12 : decode cX7_doom 12 = .ok (.ireturn, 1) := by decide +kernel
theorem dX7_doom_13 : decode cX7_doom 13 = .ok (.aload_n 0, 1) := by decide +kernel
theorem dX7_doom_14 : decode cX7_doom 14 = .ok (.invokevirtual 211, 3) := by decide +kernel
theorem dX7_doom_17 : decode cX7_doom 17 = .ok (.aload_n 0, 1) := by decide +kernel
theorem dX7_doom_18 : decode cX7_doom 18 = .ok (.invokevirtual 220, 3) := by decide +kernel
theorem dX7_doom_21 : decode cX7_doom 21 = .ok (.istore_n 2, 1) := by decide +kernel
theorem dX7_doom_22 : decode cX7_doom 22 = .ok (.iload_n 1, 1) := by decide +kernel
theorem dX7_doom_23 : decode cX7_doom 23 = .ok (.ifCond .ne 7, 3) := by decide +kernel
theorem dX7_doom_26 : decode cX7_doom 26 = .ok (.iload_n 2, 1) := by decide +kernel
theorem dX7_doom_27 : decode cX7_doom 27 = .ok (.goto 7, 3) := by decide +kernel
theorem dX7_doom_30 : decode cX7_doom 30 = .ok (.aload_n 0, 1) := by decide +kernel
theorem dX7_doom_31 : decode cX7_doom 31 = .ok (.getfield 217, 3) := by decide +kernel
theorem dX7_doom_34 : decode cX7_doom 34 = .ok (.ireturn, 1) := by decide +kernel
theorem dX7_nextRow_0 : decode cX7_nextRow 0 = .ok (.iload_n 1, 1) := by decide +kernel
theorem dX7_nextRow_1 : decode cX7_nextRow 1 = .ok (.iconst 2, 1) := by decide +kernel
theorem dX7_nextRow_2 : decode cX7_nextRow 2 = .ok (.isub, 1) := by decide +kernel
theorem dX7_nextRow_3 : decode cX7_nextRow 3 = .ok (.istore_n 2, 1) := by decide +kernel
theorem dX7_nextRow_4 : decode cX7_nextRow 4 = .ok (.iload_n 2, 1) := by decide +kernel
theorem dX7_nextRow_5 : decode cX7_nextRow 5 = .ok (.ifCond .lt 36, 3) := by decide +kernel
theorem dX7_nextRow_8 : decode cX7_nextRow 8 = .ok (.aload_n 0, 1) := by decide +kernel
theorem dX7_nextRow_9 : decode cX7_nextRow 9 = .ok (.getfield 52, 3) := by decide +kernel
theorem dX7_nextRow_12 : decode cX7_nextRow 12 = .ok (.aload_n 0, 1) := by decide +kernel
theorem dX7_nextRow_13 : decode cX7_nextRow 13 = .ok (.getfield 65, 3) := by decide +kernel
theorem dX7_nextRow_16 : decode cX7_nextRow 16 = .ok (.iload_n 2, 1) := by decide +kernel
theorem dX7_nextRow_17 : decode cX7_nextRow 17 = .ok (.iaload, 1) := by decide +kernel
theorem dX7_nextRow_18 : decode cX7_nextRow 18 = .ok (.iaload, 1) := by decide +kernel
theorem dX7_nextRow_19 : decode cX7_nextRow 19 = .ok (.aload_n 0, 1) := by decide +kernel
theorem dX7_nextRow_20 : decode cX7_nextRow 20 = .ok (.getfield 52, 3) := by decide +kernel
theorem dX7_nextRow_23 : decode cX7_nextRow 23 = .ok (.aload_n 0, 1) := by decide +kernel
theorem dX7_nextRow_24 : decode cX7_nextRow 24 = .ok (.getfield 65, 3) := by decide +kernel
theorem dX7_nextRow_27 : decode cX7_nextRow 27 = .ok (.iload_n 2, 1) := by decide +kernel
theorem dX7_nextRow_28 : decode cX7_nextRow 28 = .ok (.iconst 1, 1) := by decide +kernel
theorem dX7_nextRow_29 : decode cX7_nextRow 29 = .ok (.iadd, 1) := by decide +kernel
theorem dX7_nextRow_30 : decode cX7_nextRow 30 = .ok (.iaload, 1) := by decide +kernel
theorem dX7_nextRow_31 : decode cX7_nextRow 31 = .ok (.iaload, 1) := by decide +kernel
theorem dX7_nextRow_32 : decode cX7_nextRow 32 = .ok (.if_icmp .lt 9, 3) := by decide +kernel
theorem dX7_nextRow_35 : decode cX7_nextRow 35 = .ok (.iinc 2 (-1), 3) := by decide +kernel
theorem dX7_nextRow_38 : decode cX7_nextRow 38 = .ok (.goto (-34), 3) := by decide +kernel
theorem dX7_nextRow_41 : decode cX7_nextRow 41 = .ok (.iload_n 2, 1) := by decide +kernel
theorem dX7_nextRow_42 : decode cX7_nextRow 42 = .ok (.ifCond .ge 5, 3) := by decide +kernel
theorem dX7_nextRow_45 : decode cX7_nextRow 45 = .ok (.iconst 0, 1) := by decide +kernel
theorem dX7_nextRow_46 : decode cX7_nextRow 46 = .ok (.ireturn, 1) := by decide +kernel
theorem dX7_nextRow_47 : decode cX7_nextRow 47 = .ok (.iload_n 1, 1) := by decide +kernel
theorem dX7_nextRow_48 : decode cX7_nextRow 48 = .ok (.iconst 1, 1) := by decide +kernel
theorem dX7_nextRow_49 : decode cX7_nextRow 49 = .ok (.isub, 1) := by decide +kernel
theorem dX7_nextRow_50 : decode cX7_nextRow 50 = .ok (.istore_n 3, 1) := by decide +kernel
theorem dX7_nextRow_51 : decode cX7_nextRow 51 = .ok (.aload_n 0, 1) := by decide +kernel
theorem dX7_nextRow_52 : decode cX7_nextRow 52 = .ok (.getfield 52, 3) := by decide +kernel
theorem dX7_nextRow_55 : decode cX7_nextRow 55 = .ok (.aload_n 0, 1) := by decide +kernel
theorem dX7_nextRow_56 : decode cX7_nextRow 56 = .ok (.getfield 65, 3) := by decide +kernel
theorem dX7_nextRow_59 : decode cX7_nextRow 59 = .ok (.iload_n 3, 1) := by decide +kernel
theorem dX7_nextRow_60 : decode cX7_nextRow 60 = .ok (.iaload, 1) := by decide +kernel
theorem dX7_nextRow_61 : decode cX7_nextRow 61 = .ok (.iaload, 1) := by decide +kernel
theorem dX7_nextRow_62 : decode cX7_nextRow 62 = .ok (.aload_n 0, 1) := by decide +kernel
theorem dX7_nextRow_63 : decode cX7_nextRow 63 = .ok (.getfield 52, 3) := by decide +kernel
theorem dX7_nextRow_66 : decode cX7_nextRow 66 = .ok (.aload_n 0, 1) := by decide +kernel
theorem dX7_nextRow_67 : decode cX7_nextRow 67 = .ok (.getfield 65, 3) := by decide +kernel
theorem dX7_nextRow_70 : decode cX7_nextRow 70 = .ok (.iload_n 2, 1) := by decide +kernel
theorem dX7_nextRow_71 : decode cX7_nextRow 71 = .ok (.iaload, 1) := by decide +kernel
theorem dX7_nextRow_72 : decode cX7_nextRow 72 = .ok (.iaload, 1) := by decide +kernel
theorem dX7_nextRow_73 : decode cX7_nextRow 73 = .ok (.if_icmp .gt 9, 3) := by decide +kernel
theorem dX7_nextRow_76 : decode cX7_nextRow 76 = .ok (.iinc 3 (-1), 3) := by decide +kernel
theorem dX7_nextRow_79 : decode cX7_nextRow 79 = .ok (.goto (-28), 3) := by decide +kernel
theorem dX7_nextRow_82 : decode cX7_nextRow 82 = .ok (.aload_n 0, 1) := by decide +kernel
theorem dX7_nextRow_83 : decode cX7_nextRow 83 = .ok (.aload_n 0, 1) := by decide +kernel
theorem dX7_nextRow_84 : decode cX7_nextRow 84 = .ok (.getfield 65, 3) := by decide +kernel
theorem dX7_nextRow_87 : decode cX7_nextRow 87 = .ok (.iload_n 2, 1) := by decide +kernel
theorem dX7_nextRow_88 : decode cX7_nextRow 88 = .ok (.iaload, 1) := by decide +kernel
theorem dX7_nextRow_89 : decode cX7_nextRow 89 = .ok (.aload_n 0, 1) := by decide +kernel
theorem dX7_nextRow_90 : decode cX7_nextRow 90 = .ok (.getfield 65, 3) := by decide +kernel
theorem dX7_nextRow_93 : decode cX7_nextRow 93 = .ok (.iload_n 3, 1) := by decide +kernel
theorem dX7_nextRow_94 : decode cX7_nextRow 94 = .ok (.iaload, 1) := by decide +kernel
theorem dX7_nextRow_95 : decode cX7_nextRow 95 = .ok (.invokevirtual 223, 3) := by decide +kernel
theorem dX7_nextRow_98 : decode cX7_nextRow 98 = .ok (.iload_n 1, 1) := by decide +kernel
theorem dX7_nextRow_99 : decode cX7_nextRow 99 = .ok (.iconst 1, 1) := by decide +kernel
theorem dX7_nextRow_100 : decode cX7_nextRow 100 = .ok (.isub, 1) := by decide +kernel
theorem dX7_nextRow_101 : decode cX7_nextRow 101 = .ok (.istore 4, 2) := by decide +kernel
theorem dX7_nextRow_103 : decode cX7_nextRow 103 = .ok (.iload_n 2, 1) := by decide +kernel
theorem dX7_nextRow_104 : decode cX7_nextRow 104 = .ok (.iconst 1, 1) := by decide +kernel
theorem dX7_nextRow_105 : decode cX7_nextRow 105 = .ok (.iadd, 1) := by decide +kernel
theorem dX7_nextRow_106 : decode cX7_nextRow 106 = .ok (.istore 5, 2) := by decide +kernel
theorem dX7_nextRow_108 : decode cX7_nextRow 108 = .ok (.iload 5, 2) := by decide +kernel
theorem dX7_nextRow_110 : decode cX7_nextRow 110 = .ok (.iload 4, 2) := by decide +kernel
theorem dX7_nextRow_112 : decode cX7_nextRow 112 = .ok (.if_icmp .ge 30, 3) := by decide +kernel
theorem dX7_nextRow_115 : decode cX7_nextRow 115 = .ok (.aload_n 0, 1) := by decide +kernel
theorem dX7_nextRow_116 : decode cX7_nextRow 116 = .ok (.aload_n 0, 1) := by decide +kernel
theorem dX7_nextRow_117 : decode cX7_nextRow 117 = .ok (.getfield 65, 3) := by decide +kernel
theorem dX7_nextRow_120 : decode cX7_nextRow 120 = .ok (.iload 5, 2) := by decide +kernel
theorem dX7_nextRow_122 : decode cX7_nextRow 122 = .ok (.iaload, 1) := by decide +kernel
theorem dX7_nextRow_123 : decode cX7_nextRow 123 = .ok (.aload_n 0, 1) := by decide +kernel
theorem dX7_nextRow_124 : decode cX7_nextRow 124 = .ok (.getfield 65, 3) := by decide +kernel
theorem dX7_nextRow_127 : decode cX7_nextRow 127 = .ok (.iload 4, 2) := by decide +kernel
theorem dX7_nextRow_129 : decode cX7_nextRow 129 = .ok (.iaload, 1) := by decide +kernel
theorem dX7_nextRow_130 : decode cX7_nextRow 130 = .ok (.invokevirtual 223, 3) := by decide +kernel
theorem dX7_nextRow_133 : decode cX7_nextRow 133 = .ok (.iinc 4 (-1), 3) := by decide +kernel
theorem dX7_nextRow_136 : decode cX7_nextRow 136 = .ok (.iinc 5 1, 3) := by decide +kernel
theorem dX7_nextRow_139 : decode cX7_nextRow 139 = .ok (.goto (-31), 3) := by decide +kernel
theorem dX7_nextRow_142 : decode cX7_nextRow 142 = .ok (.iconst 1, 1) := by decide +kernel
theorem dX7_nextRow_143 : decode cX7_nextRow 143 = .ok (.ireturn, 1) := by decide +kernel
theorem dX7_exchange_0 : decode cX7_exchange 0 = .ok (.aload_n 0, 1) := by decide +kernel
theorem dX7_exchange_1 : decode cX7_exchange 1 = .ok (.getfield 52, 3) := by decide +kernel
theorem dX7_exchange_4 : decode cX7_exchange 4 = .ok (.iload_n 1, 1) := by decide +kernel
theorem dX7_exchange_5 : decode cX7_exchange 5 = .ok (.iaload, 1) := by decide +kernel
theorem dX7_exchange_6 : decode cX7_exchange 6 = .ok (.istore_n 3, 1) := by decide +kernel
theorem dX7_exchange_7 : decode cX7_exchange 7 = .ok (.aload_n 0, 1) := by decide +kernel
theorem dX7_exchange_8 : decode cX7_exchange 8 = .ok (.getfield 52, 3) := by decide +kernel
theorem dX7_exchange_11 : decode cX7_exchange 11 = .ok (.iload_n 1, 1) := by decide +kernel
theorem dX7_exchange_12 : decode cX7_exchange 12 = .ok (.aload_n 0, 1) := by decide +kernel
theorem dX7_exchange_13 : decode cX7_exchange 13 = .ok (.getfield 52, 3) := by decide +kernel
theorem dX7_exchange_16 : decode cX7_exchange 16 = .ok (.iload_n 2, 1) := by decide +kernel
theorem dX7_exchange_17 : decode cX7_exchange 17 = .ok (.iaload, 1) := by decide +kernel
theorem dX7_exchange_18 : decode cX7_exchange 18 = .ok (.iastore, 1) := by decide +kernel
theorem dX7_exchange_19 : decode cX7_exchange 19 = .ok (.aload_n 0, 1) := by decide +kernel
theorem dX7_exchange_20 : decode cX7_exchange 20 = .ok (.getfield 52, 3) := by decide +kernel
theorem dX7_exchange_23 : decode cX7_exchange 23 = .ok (.iload_n 2, 1) := by decide +kernel
theorem dX7_exchange_24 : decode cX7_exchange 24 = .ok (.iload_n 3, 1) := by decide +kernel
theorem dX7_exchange_25 : decode cX7_exchange 25 = .ok (.iastore, 1) := by decide +kernel
theorem dX7_exchange_26 : decode cX7_exchange 26 = .ok (.return_, 1) := by decide +kernel
theorem dX7_swapped_0 : decode cX7_swapped 0 = .ok (.iload_n 1, 1) := by decide +kernel
theorem dX7_swapped_1 : decode cX7_swapped 1 = .ok (.i2l, 1) := by decide +kernel
theorem dX7_swapped_2 : decode cX7_swapped 2 = .ok (.ldc2_w 227, 3) := by decide +kernel
theorem dX7_swapped_5 : decode cX7_swapped 5 = .ok (.aload_n 0, 1) := by decide +kernel
theorem dX7_swapped_6 : decode cX7_swapped 6 = .ok (.getfield 156, 3) := by decide +kernel
theorem dX7_swapped_9 : decode cX7_swapped 9 = .ok (.iconst 1, 1) := by decide +kernel
theorem dX7_swapped_10 : decode cX7_swapped 10 = .ok (.isub, 1) := by decide +kernel
theorem dX7_swapped_11 : decode cX7_swapped 11 = .ok (.i2l, 1) := by decide +kernel
theorem dX7_swapped_12 : decode cX7_swapped 12 = .ok (.invokestatic 78, 3) := by decide +kernel
theorem dX7_swapped_15 : decode cX7_swapped 15 = .ok (.ifCond .ne 6, 3) := by decide +kernel
theorem dX7_swapped_18 : decode cX7_swapped 18 = .ok (.bipush (-2), 2) := by decide +kernel
theorem dX7_swapped_20 : decode cX7_swapped 20 = .ok (.ireturn, 1) := by decide +kernel
theorem dX7_swapped_21 : decode cX7_swapped 21 = .ok (.aload_n 0, 1) := by decide +kernel
theorem dX7_swapped_22 : decode cX7_swapped 22 = .ok (.invokevirtual 211, 3) := by decide +kernel
theorem dX7_swapped_25 : decode cX7_swapped 25 = .ok (.iconst 0, 1) := by decide +kernel
theorem dX7_swapped_26 : decode cX7_swapped 26 = .ok (.istore_n 2, 1) := by decide +kernel
theorem dX7_swapped_27 : decode cX7_swapped 27 = .ok (.iconst 0, 1) := by decide +kernel
theorem dX7_swapped_28 : decode cX7_swapped 28 = .ok (.istore_n 3, 1) := by decide +kernel
theorem dX7_swapped_29 : decode cX7_swapped 29 = .ok (.iload_n 3, 1) := by decide +kernel
theorem dX7_swapped_30 : decode cX7_swapped 30 = .ok (.aload_n 0, 1) := by decide +kernel
theorem dX7_swapped_31 : decode cX7_swapped 31 = .ok (.getfield 156, 3) := by decide +kernel
theorem dX7_swapped_34 : decode cX7_swapped 34 = .ok (.if_icmp .ge 35, 3) := by decide +kernel
theorem dX7_swapped_37 : decode cX7_swapped 37 = .ok (.aload_n 0, 1) := by decide +kernel
theorem dX7_swapped_38 : decode cX7_swapped 38 = .ok (.getfield 19, 3) := by decide +kernel
theorem dX7_swapped_41 : decode cX7_swapped 41 = .ok (.iload_n 3, 1) := by decide +kernel
theorem dX7_swapped_42 : decode cX7_swapped 42 = .ok (.iaload, 1) := by decide +kernel
theorem dX7_swapped_43 : decode cX7_swapped 43 = .ok (.aload_n 0, 1) := by decide +kernel
theorem dX7_swapped_44 : decode cX7_swapped 44 = .ok (.getfield 25, 3) := by decide +kernel
theorem dX7_swapped_47 : decode cX7_swapped 47 = .ok (.bipush 40, 2) := by decide +kernel
theorem dX7_swapped_49 : decode cX7_swapped 49 = .ok (.iaload, 1) := by decide +kernel
theorem dX7_swapped_50 : decode cX7_swapped 50 = .ok (.if_icmp .lt 13, 3) := by decide +kernel
theorem dX7_swapped_53 : decode cX7_swapped 53 = .ok (.aload_n 0, 1) := by decide +kernel
theorem dX7_swapped_54 : decode cX7_swapped 54 = .ok (.getfield 65, 3) := by decide +kernel
theorem dX7_swapped_57 : decode cX7_swapped 57 = .ok (.iload_n 2, 1) := by decide +kernel
theorem dX7_swapped_58 : decode cX7_swapped 58 = .ok (.iload_n 3, 1) := by decide +kernel
theorem dX7_swapped_59 : decode cX7_swapped 59 = .ok (.iastore, 1) := by decide +kernel
theorem dX7_swapped_60 : decode cX7_swapped 60 = .ok (.iinc 2 1, 3) := by decide +kernel
theorem dX7_swapped_63 : decode cX7_swapped 63 = .ok (.iinc 3 1, 3) := by decide +kernel
theorem dX7_swapped_66 : decode cX7_swapped 66 = .ok (.goto (-37), 3) := by decide +kernel
theorem dX7_swapped_69 : decode cX7_swapped 69 = .ok (.iconst 0, 1) := by decide +kernel
theorem dX7_swapped_70 : decode cX7_swapped 70 = .ok (.istore_n 3, 1) := by decide +kernel
theorem dX7_swapped_71 : decode cX7_swapped 71 = .ok (.iload_n 3, 1) := by decide +kernel
theorem dX7_swapped_72 : decode cX7_swapped 72 = .ok (.iload_n 2, 1) := by decide +kernel
theorem dX7_swapped_73 : decode cX7_swapped 73 = .ok (.if_icmp .ge 69, 3) := by decide +kernel
theorem dX7_swapped_76 : decode cX7_swapped 76 = .ok (.iload_n 3, 1) := by decide +kernel
theorem dX7_swapped_77 : decode cX7_swapped 77 = .ok (.iconst 1, 1) := by decide +kernel
theorem dX7_swapped_78 : decode cX7_swapped 78 = .ok (.iadd, 1) := by decide +kernel
theorem dX7_swapped_79 : decode cX7_swapped 79 = .ok (.istore 4, 2) := by decide +kernel
theorem dX7_swapped_81 : decode cX7_swapped 81 = .ok (.iload 4, 2) := by decide +kernel
theorem dX7_swapped_83 : decode cX7_swapped 83 = .ok (.iload_n 2, 1) := by decide +kernel
theorem dX7_swapped_84 : decode cX7_swapped 84 = .ok (.if_icmp .ge 52, 3) := by decide +kernel
theorem dX7_swapped_87 : decode cX7_swapped 87 = .ok (.aload_n 0, 1) := by decide +kernel
theorem dX7_swapped_88 : decode cX7_swapped 88 = .ok (.getfield 52, 3) := by decide +kernel
theorem dX7_swapped_91 : decode cX7_swapped 91 = .ok (.aload_n 0, 1) := by decide +kernel
theorem dX7_swapped_92 : decode cX7_swapped 92 = .ok (.getfield 65, 3) := by decide +kernel
theorem dX7_swapped_95 : decode cX7_swapped 95 = .ok (.iload 4, 2) := by decide +kernel
theorem dX7_swapped_97 : decode cX7_swapped 97 = .ok (.iaload, 1) := by decide +kernel
theorem dX7_swapped_98 : decode cX7_swapped 98 = .ok (.iaload, 1) := by decide +kernel
theorem dX7_swapped_99 : decode cX7_swapped 99 = .ok (.aload_n 0, 1) := by decide +kernel
theorem dX7_swapped_100 : decode cX7_swapped 100 = .ok (.getfield 52, 3) := by decide +kernel
theorem dX7_swapped_103 : decode cX7_swapped 103 = .ok (.aload_n 0, 1) := by decide +kernel
theorem dX7_swapped_104 : decode cX7_swapped 104 = .ok (.getfield 65, 3) := by decide +kernel
theorem dX7_swapped_107 : decode cX7_swapped 107 = .ok (.iload_n 3, 1) := by decide +kernel
theorem dX7_swapped_108 : decode cX7_swapped 108 = .ok (.iaload, 1) := by decide +kernel
theorem dX7_swapped_109 : decode cX7_swapped 109 = .ok (.iaload, 1) := by decide +kernel
theorem dX7_swapped_110 : decode cX7_swapped 110 = .ok (.if_icmp .ge 20, 3) := by decide +kernel
theorem dX7_swapped_113 : decode cX7_swapped 113 = .ok (.aload_n 0, 1) := by decide +kernel
theorem dX7_swapped_114 : decode cX7_swapped 114 = .ok (.aload_n 0, 1) := by decide +kernel
theorem dX7_swapped_115 : decode cX7_swapped 115 = .ok (.getfield 65, 3) := by decide +kernel
theorem dX7_swapped_118 : decode cX7_swapped 118 = .ok (.iload_n 3, 1) := by decide +kernel
theorem dX7_swapped_119 : decode cX7_swapped 119 = .ok (.iaload, 1) := by decide +kernel
theorem dX7_swapped_120 : decode cX7_swapped 120 = .ok (.aload_n 0, 1) := by decide +kernel
theorem dX7_swapped_121 : decode cX7_swapped 121 = .ok (.getfield 65, 3) := by decide +kernel
theorem dX7_swapped_124 : decode cX7_swapped 124 = .ok (.iload 4, 2) := by decide +kernel
theorem dX7_swapped_126 : decode cX7_swapped 126 = .ok (.iaload, 1) := by decide +kernel
theorem dX7_swapped_127 : decode cX7_swapped 127 = .ok (.invokevirtual 223, 3) := by decide +kernel
theorem dX7_swapped_130 : decode cX7_swapped 130 = .ok (.iinc 4 1, 3) := by decide +kernel
theorem dX7_swapped_133 : decode cX7_swapped 133 = .ok (.goto (-52), 3) := by decide +kernel
theorem dX7_swapped_136 : decode cX7_swapped 136 = .ok (.iinc 3 1, 3) := by decide +kernel
theorem dX7_swapped_139 : decode cX7_swapped 139 = .ok (.goto (-68), 3) := by decide +kernel
theorem dX7_swapped_142 : decode cX7_swapped 142 = .ok (.iconst (-1), 1) := by decide +kernel
theorem dX7_swapped_143 : decode cX7_swapped 143 = .ok (.istore_n 3, 1) := by decide +kernel
theorem dX7_swapped_144 : decode cX7_swapped 144 = .ok (.iconst 1, 1) := by decide +kernel
theorem dX7_swapped_145 : decode cX7_swapped 145 = .ok (.istore 4, 2) := by decide +kernel
theorem dX7_swapped_147 : decode cX7_swapped 147 = .ok (.iload 4, 2) := by decide +kernel
theorem dX7_swapped_149 : decode cX7_swapped 149 = .ok (.ifCond .eq 85, 3) := by decide +kernel
theorem dX7_swapped_152 : decode cX7_swapped 152 = .ok (.aload_n 0, 1) := by decide +kernel
theorem dX7_swapped_153 : decode cX7_swapped 153 = .ok (.invokevirtual 220, 3) := by decide +kernel
theorem dX7_swapped_156 : decode cX7_swapped 156 = .ok (.istore 5, 2) := by decide +kernel
theorem dX7_swapped_158 : decode cX7_swapped 158 = .ok (.iload_n 3, 1) := by decide +kernel
theorem dX7_swapped_159 : decode cX7_swapped 159 = .ok (.ifCond .lt 9, 3) := by decide +kernel
theorem dX7_swapped_162 : decode cX7_swapped 162 = .ok (.iload 5, 2) := by decide +kernel
theorem dX7_swapped_164 : decode cX7_swapped 164 = .ok (.iload_n 3, 1) := by decide +kernel
theorem dX7_swapped_165 : decode cX7_swapped 165 = .ok (.if_icmp .ge 7, 3) := by decide +kernel
theorem dX7_swapped_168 : decode cX7_swapped 168 = .ok (.iconst 1, 1) := by decide +kernel
theorem dX7_swapped_169 : decode cX7_swapped 169 = .ok (.goto 4, 3) := by decide +kernel
theorem dX7_swapped_172 : decode cX7_swapped 172 = .ok (.iconst 0, 1) := by decide +kernel
theorem dX7_swapped_173 : decode cX7_swapped 173 = .ok (.istore 6, 2) := by decide +kernel
theorem dX7_swapped_175 : decode cX7_swapped 175 = .ok (.iload 6, 2) := by decide +kernel
theorem dX7_swapped_177 : decode cX7_swapped 177 = .ok (.ifCond .eq 8, 3) := by decide +kernel
theorem dX7_swapped_180 : decode cX7_swapped 180 = .ok (.iload 5, 2) := by decide +kernel
theorem dX7_swapped_182 : decode cX7_swapped 182 = .ok (.goto 4, 3) := by decide +kernel
theorem dX7_swapped_185 : decode cX7_swapped 185 = .ok (.iload_n 3, 1) := by decide +kernel
theorem dX7_swapped_186 : decode cX7_swapped 186 = .ok (.istore_n 3, 1) := by decide +kernel
theorem dX7_swapped_187 : decode cX7_swapped 187 = .ok (.iconst 0, 1) := by decide +kernel
theorem dX7_swapped_188 : decode cX7_swapped 188 = .ok (.istore 7, 2) := by decide +kernel
theorem dX7_swapped_190 : decode cX7_swapped 190 = .ok (.iload 7, 2) := by decide +kernel
theorem dX7_swapped_192 : decode cX7_swapped 192 = .ok (.aload_n 0, 1) := by decide +kernel
theorem dX7_swapped_193 : decode cX7_swapped 193 = .ok (.getfield 156, 3) := by decide +kernel
theorem dX7_swapped_196 : decode cX7_swapped 196 = .ok (.if_icmp .ge 28, 3) := by decide +kernel
theorem dX7_swapped_199 : decode cX7_swapped 199 = .ok (.iload 6, 2) := by decide +kernel
theorem dX7_swapped_201 : decode cX7_swapped 201 = .ok (.ifCond .eq 23, 3) := by decide +kernel
theorem dX7_swapped_204 : decode cX7_swapped 204 = .ok (.aload_n 0, 1) := by decide +kernel
theorem dX7_swapped_205 : decode cX7_swapped 205 = .ok (.getfield 68, 3) := by decide +kernel
theorem dX7_swapped_208 : decode cX7_swapped 208 = .ok (.iload 7, 2) := by decide +kernel
theorem dX7_swapped_210 : decode cX7_swapped 210 = .ok (.aload_n 0, 1) := by decide +kernel
theorem dX7_swapped_211 : decode cX7_swapped 211 = .ok (.getfield 52, 3) := by decide +kernel
theorem dX7_swapped_214 : decode cX7_swapped 214 = .ok (.iload 7, 2) := by decide +kernel
theorem dX7_swapped_216 : decode cX7_swapped 216 = .ok (.iaload, 1) := by decide +kernel
theorem dX7_swapped_217 : decode cX7_swapped 217 = .ok (.iastore, 1) := by decide +kernel
theorem dX7_swapped_218 : decode cX7_swapped 218 = .ok (.iinc 7 1, 3) := by decide +kernel
theorem dX7_swapped_221 : decode cX7_swapped 221 = .ok (.goto (-31), 3) := by decide +kernel
theorem dX7_swapped_224 : decode cX7_swapped 224 = .ok (.aload_n 0, 1) := by decide +kernel
theorem dX7_swapped_225 : decode cX7_swapped 225 = .ok (.iload_n 2, 1) := by decide +kernel
theorem dX7_swapped_226 : decode cX7_swapped 226 = .ok (.invokevirtual 229, 3) := by decide +kernel
theorem dX7_swapped_229 : decode cX7_swapped 229 = .ok (.istore 4, 2) := by decide +kernel
theorem dX7_swapped_231 : decode cX7_swapped 231 = .ok (.goto (-84), 3) := by decide +kernel
theorem dX7_swapped_234 : decode cX7_swapped 234 = .ok (.iload_n 1, 1) := by decide +kernel
theorem dX7_swapped_235 : decode cX7_swapped 235 = .ok (.ifCond .ge 7, 3) := by decide +kernel
theorem dX7_swapped_238 : decode cX7_swapped 238 = .ok (.iload_n 3, 1) := by decide +kernel
theorem dX7_swapped_239 : decode cX7_swapped 239 = .ok (.goto 9, 3) := by decide +kernel
theorem dX7_swapped_242 : decode cX7_swapped 242 = .ok (.aload_n 0, 1) := by decide +kernel
theorem dX7_swapped_243 : decode cX7_swapped 243 = .ok (.getfield 68, 3) := by decide +kernel
theorem dX7_swapped_246 : decode cX7_swapped 246 = .ok (.iload_n 1, 1) := by decide +kernel
theorem dX7_swapped_247 : decode cX7_swapped 247 = .ok (.iaload, 1) := by decide +kernel
theorem dX7_swapped_248 : decode cX7_swapped 248 = .ok (.ireturn, 1) := by decide +kernel
theorem dX7_tailOf_0 : decode cX7_tailOf 0 = .ok (.aload_n 0, 1) := by decide +kernel
theorem dX7_tailOf_1 : decode cX7_tailOf 1 = .ok (.getfield 25, 3) := by decide +kernel
theorem dX7_tailOf_4 : decode cX7_tailOf 4 = .ok (.bipush 8, 2) := by decide +kernel
theorem dX7_tailOf_6 : decode cX7_tailOf 6 = .ok (.iload_n 1, 1) := by decide +kernel
theorem dX7_tailOf_7 : decode cX7_tailOf 7 = .ok (.iadd, 1) := by decide +kernel
theorem dX7_tailOf_8 : decode cX7_tailOf 8 = .ok (.iaload, 1) := by decide +kernel
theorem dX7_tailOf_9 : decode cX7_tailOf 9 = .ok (.iconst 1, 1) := by decide +kernel
theorem dX7_tailOf_10 : decode cX7_tailOf 10 = .ok (.if_icmp .ne 32, 3) := by decide +kernel
theorem dX7_tailOf_13 : decode cX7_tailOf 13 = .ok (.aload_n 0, 1) := by decide +kernel
theorem dX7_tailOf_14 : decode cX7_tailOf 14 = .ok (.getfield 7, 3) := by decide +kernel
theorem dX7_tailOf_17 : decode cX7_tailOf 17 = .ok (.iload_n 1, 1) := by decide +kernel
theorem dX7_tailOf_18 : decode cX7_tailOf 18 = .ok (.iaload, 1) := by decide +kernel
theorem dX7_tailOf_19 : decode cX7_tailOf 19 = .ok (.iconst 3, 1) := by decide +kernel
theorem dX7_tailOf_20 : decode cX7_tailOf 20 = .ok (.if_icmp .eq 22, 3) := by decide +kernel
theorem dX7_tailOf_23 : decode cX7_tailOf 23 = .ok (.aload_n 0, 1) := by decide +kernel
theorem dX7_tailOf_24 : decode cX7_tailOf 24 = .ok (.getfield 13, 3) := by decide +kernel
theorem dX7_tailOf_27 : decode cX7_tailOf 27 = .ok (.iload_n 1, 1) := by decide +kernel
theorem dX7_tailOf_28 : decode cX7_tailOf 28 = .ok (.iaload, 1) := by decide +kernel
theorem dX7_tailOf_29 : decode cX7_tailOf 29 = .ok (.aload_n 0, 1) := by decide +kernel
theorem dX7_tailOf_30 : decode cX7_tailOf 30 = .ok (.getfield 25, 3) := by decide +kernel
theorem dX7_tailOf_33 : decode cX7_tailOf 33 = .ok (.bipush 16, 2) := by decide +kernel
theorem dX7_tailOf_35 : decode cX7_tailOf 35 = .ok (.iload_n 1, 1) := by decide +kernel
theorem dX7_tailOf_36 : decode cX7_tailOf 36 = .ok (.iadd, 1) := by decide +kernel
theorem dX7_tailOf_37 : decode cX7_tailOf 37 = .ok (.iaload, 1) := by decide +kernel
theorem dX7_tailOf_38 : decode cX7_tailOf 38 = .ok (.isub, 1) := by decide +kernel
theorem dX7_tailOf_39 : decode cX7_tailOf 39 = .ok (.goto 4, 3) := by decide +kernel
theorem dX7_tailOf_42 : decode cX7_tailOf 42 = .ok (.iconst 0, 1) := by decide +kernel
theorem dX7_tailOf_43 : decode cX7_tailOf 43 = .ok (.ireturn, 1) := by decide +kernel
theorem dX7_mayHave_0 : decode cX7_mayHave 0 = .ok (.aload_n 0, 1) := by decide +kernel
theorem dX7_mayHave_1 : decode cX7_mayHave 1 = .ok (.iload_n 2, 1) := by decide +kernel
theorem dX7_mayHave_2 : decode cX7_mayHave 2 = .ok (.invokevirtual 169, 3) := by decide +kernel
theorem dX7_mayHave_5 : decode cX7_mayHave 5 = .ok (.ifCond .eq 36, 3) := by decide +kernel
theorem dX7_mayHave_8 : decode cX7_mayHave 8 = .ok (.aload_n 0, 1) := by decide +kernel
theorem dX7_mayHave_9 : decode cX7_mayHave 9 = .ok (.getfield 7, 3) := by decide +kernel
theorem dX7_mayHave_12 : decode cX7_mayHave 12 = .ok (.iload_n 2, 1) := by decide +kernel
theorem dX7_mayHave_13 : decode cX7_mayHave 13 = .ok (.iaload, 1) := by decide +kernel
theorem dX7_mayHave_14 : decode cX7_mayHave 14 = .ok (.iconst 3, 1) := by decide +kernel
theorem dX7_mayHave_15 : decode cX7_mayHave 15 = .ok (.if_icmp .eq 26, 3) := by decide +kernel
theorem dX7_mayHave_18 : decode cX7_mayHave 18 = .ok (.aload_n 0, 1) := by decide +kernel
theorem dX7_mayHave_19 : decode cX7_mayHave 19 = .ok (.getfield 25, 3) := by decide +kernel
theorem dX7_mayHave_22 : decode cX7_mayHave 22 = .ok (.iconst 0, 1) := by decide +kernel
theorem dX7_mayHave_23 : decode cX7_mayHave 23 = .ok (.iload_n 1, 1) := by decide +kernel
theorem dX7_mayHave_24 : decode cX7_mayHave 24 = .ok (.iadd, 1) := by decide +kernel
theorem dX7_mayHave_25 : decode cX7_mayHave 25 = .ok (.iaload, 1) := by decide +kernel
theorem dX7_mayHave_26 : decode cX7_mayHave 26 = .ok (.aload_n 0, 1) := by decide +kernel
theorem dX7_mayHave_27 : decode cX7_mayHave 27 = .ok (.getfield 25, 3) := by decide +kernel
theorem dX7_mayHave_30 : decode cX7_mayHave 30 = .ok (.iconst 0, 1) := by decide +kernel
theorem dX7_mayHave_31 : decode cX7_mayHave 31 = .ok (.iload_n 2, 1) := by decide +kernel
theorem dX7_mayHave_32 : decode cX7_mayHave 32 = .ok (.iadd, 1) := by decide +kernel
theorem dX7_mayHave_33 : decode cX7_mayHave 33 = .ok (.iaload, 1) := by decide +kernel
theorem dX7_mayHave_34 : decode cX7_mayHave 34 = .ok (.if_icmp .ne 7, 3) := by decide +kernel
theorem dX7_mayHave_37 : decode cX7_mayHave 37 = .ok (.iconst 1, 1) := by decide +kernel
theorem dX7_mayHave_38 : decode cX7_mayHave 38 = .ok (.goto 4, 3) := by decide +kernel
theorem dX7_mayHave_41 : decode cX7_mayHave 41 = .ok (.iconst 0, 1) := by decide +kernel
theorem dX7_mayHave_42 : decode cX7_mayHave 42 = .ok (.ireturn, 1) := by decide +kernel
theorem dX7_findMosts_0 : decode cX7_findMosts 0 = .ok (.iconst 0, 1) := by decide +kernel
theorem dX7_findMosts_1 : decode cX7_findMosts 1 = .ok (.istore_n 1, 1) := by decide +kernel
theorem dX7_findMosts_2 : decode cX7_findMosts 2 = .ok (.iload_n 1, 1) := by decide +kernel
theorem dX7_findMosts_3 : decode cX7_findMosts 3 = .ok (.sipush 256, 3) := by decide +kernel
theorem dX7_findMosts_6 : decode cX7_findMosts 6 = .ok (.if_icmp .ge 25, 3) := by decide +kernel
theorem dX7_findMosts_9 : decode cX7_findMosts 9 = .ok (.aload_n 0, 1) := by decide +kernel
theorem dX7_findMosts_10 : decode cX7_findMosts 10 = .ok (.getfield 71, 3) := by decide +kernel
theorem dX7_findMosts_13 : decode cX7_findMosts 13 = .ok (.sipush 256, 3) := by decide +kernel
theorem dX7_findMosts_16 : decode cX7_findMosts 16 = .ok (.aload_n 0, 1) := by decide +kernel
theorem dX7_findMosts_17 : decode cX7_findMosts 17 = .ok (.getfield 74, 3) := by decide +kernel
theorem dX7_findMosts_20 : decode cX7_findMosts 20 = .ok (.imul, 1) := by decide +kernel
theorem dX7_findMosts_21 : decode cX7_findMosts 21 = .ok (.iload_n 1, 1) := by decide +kernel
theorem dX7_findMosts_22 : decode cX7_findMosts 22 = .ok (.iadd, 1) := by decide +kernel
theorem dX7_findMosts_23 : decode cX7_findMosts 23 = .ok (.iconst 0, 1) := by decide +kernel
theorem dX7_findMosts_24 : decode cX7_findMosts 24 = .ok (.iastore, 1) := by decide +kernel
theorem dX7_findMosts_25 : decode cX7_findMosts 25 = .ok (.iinc 1 1, 3) := by decide +kernel
theorem dX7_findMosts_28 : decode cX7_findMosts 28 = .ok (.goto (-26), 3) := by decide +kernel
theorem dX7_findMosts_31 : decode cX7_findMosts 31 = .ok (.aload_n 0, 1) := by decide +kernel
theorem dX7_findMosts_32 : decode cX7_findMosts 32 = .ok (.getfield 74, 3) := by decide +kernel
theorem dX7_findMosts_35 : decode cX7_findMosts 35 = .ok (.iconst 1, 1) := by decide +kernel
theorem dX7_findMosts_36 : decode cX7_findMosts 36 = .ok (.isub, 1) := by decide +kernel
theorem dX7_findMosts_37 : decode cX7_findMosts 37 = .ok (.istore_n 1, 1) := by decide +kernel
theorem dX7_findMosts_38 : decode cX7_findMosts 38 = .ok (.iload_n 1, 1) := by decide +kernel
theorem dX7_findMosts_39 : decode cX7_findMosts 39 = .ok (.ifCond .lt 141, 3) := by decide +kernel
theorem dX7_findMosts_42 : decode cX7_findMosts 42 = .ok (.iconst 0, 1) := by decide +kernel
theorem dX7_findMosts_43 : decode cX7_findMosts 43 = .ok (.istore_n 2, 1) := by decide +kernel
theorem dX7_findMosts_44 : decode cX7_findMosts 44 = .ok (.iload_n 2, 1) := by decide +kernel
theorem dX7_findMosts_45 : decode cX7_findMosts 45 = .ok (.sipush 256, 3) := by decide +kernel
theorem dX7_findMosts_48 : decode cX7_findMosts 48 = .ok (.if_icmp .ge 126, 3) := by decide +kernel
theorem dX7_findMosts_51 : decode cX7_findMosts 51 = .ok (.aload_n 0, 1) := by decide +kernel
theorem dX7_findMosts_52 : decode cX7_findMosts 52 = .ok (.getfield 71, 3) := by decide +kernel
theorem dX7_findMosts_55 : decode cX7_findMosts 55 = .ok (.sipush 256, 3) := by decide +kernel
theorem dX7_findMosts_58 : decode cX7_findMosts 58 = .ok (.iload_n 1, 1) := by decide +kernel
theorem dX7_findMosts_59 : decode cX7_findMosts 59 = .ok (.iconst 1, 1) := by decide +kernel
theorem dX7_findMosts_60 : decode cX7_findMosts 60 = .ok (.iadd, 1) := by decide +kernel
theorem dX7_findMosts_61 : decode cX7_findMosts 61 = .ok (.imul, 1) := by decide +kernel
theorem dX7_findMosts_62 : decode cX7_findMosts 62 = .ok (.iload_n 2, 1) := by decide +kernel
theorem dX7_findMosts_63 : decode cX7_findMosts 63 = .ok (.iadd, 1) := by decide +kernel
theorem dX7_findMosts_64 : decode cX7_findMosts 64 = .ok (.iaload, 1) := by decide +kernel
theorem dX7_findMosts_65 : decode cX7_findMosts 65 = .ok (.istore_n 3, 1) := by decide +kernel
theorem dX7_findMosts_66 : decode cX7_findMosts 66 = .ok (.iconst 0, 1) := by decide +kernel
theorem dX7_findMosts_67 : decode cX7_findMosts 67 = .ok (.istore 4, 2) := by decide +kernel
theorem dX7_findMosts_69 : decode cX7_findMosts 69 = .ok (.iload 4, 2) := by decide +kernel
theorem dX7_findMosts_71 : decode cX7_findMosts 71 = .ok (.aload_n 0, 1) := by decide +kernel
theorem dX7_findMosts_72 : decode cX7_findMosts 72 = .ok (.getfield 74, 3) := by decide +kernel
theorem dX7_findMosts_75 : decode cX7_findMosts 75 = .ok (.if_icmp .ge 80, 3) := by decide +kernel
theorem dX7_findMosts_78 : decode cX7_findMosts 78 = .ok (.aload_n 0, 1) := by decide +kernel
theorem dX7_findMosts_79 : decode cX7_findMosts 79 = .ok (.iload_n 1, 1) := by decide +kernel
theorem dX7_findMosts_80 : decode cX7_findMosts 80 = .ok (.invokevirtual 232, 3) := by decide +kernel
theorem dX7_findMosts_83 : decode cX7_findMosts 83 = .ok (.ifCond .le 72, 3) := by decide +kernel
theorem dX7_findMosts_86 : decode cX7_findMosts 86 = .ok (.aload_n 0, 1) := by decide +kernel
theorem dX7_findMosts_87 : decode cX7_findMosts 87 = .ok (.iload_n 1, 1) := by decide +kernel
theorem dX7_findMosts_88 : decode cX7_findMosts 88 = .ok (.iload 4, 2) := by decide +kernel
theorem dX7_findMosts_90 : decode cX7_findMosts 90 = .ok (.invokevirtual 235, 3) := by decide +kernel
theorem dX7_findMosts_93 : decode cX7_findMosts 93 = .ok (.ifCond .eq 40, 3) := by decide +kernel
theorem dX7_findMosts_96 : decode cX7_findMosts 96 = .ok (.iload_n 2, 1) := by decide +kernel
theorem dX7_findMosts_97 : decode cX7_findMosts 97 = .ok (.iload 4, 2) := by decide +kernel
theorem dX7_findMosts_99 : decode cX7_findMosts 99 = .ok (.invokestatic 124, 3) := by decide +kernel
theorem dX7_findMosts_102 : decode cX7_findMosts 102 = .ok (.ifCond .ne 31, 3) := by decide +kernel
theorem dX7_findMosts_105 : decode cX7_findMosts 105 = .ok (.aload_n 0, 1) := by decide +kernel
theorem dX7_findMosts_106 : decode cX7_findMosts 106 = .ok (.iload_n 1, 1) := by decide +kernel
theorem dX7_findMosts_107 : decode cX7_findMosts 107 = .ok (.invokevirtual 232, 3) := by decide +kernel
theorem dX7_findMosts_110 : decode cX7_findMosts 110 = .ok (.aload_n 0, 1) := by decide +kernel
theorem dX7_findMosts_111 : decode cX7_findMosts 111 = .ok (.getfield 71, 3) := by decide +kernel
theorem dX7_findMosts_114 : decode cX7_findMosts 114 = .ok (.sipush 256, 3) := by decide +kernel
theorem dX7_findMosts_117 : decode cX7_findMosts 117 = .ok (.iload_n 1, 1) := by decide +kernel
theorem dX7_findMosts_118 : decode cX7_findMosts 118 = .ok (.iconst 1, 1) := by decide +kernel
theorem dX7_findMosts_119 : decode cX7_findMosts 119 = .ok (.iadd, 1) := by decide +kernel
theorem dX7_findMosts_120 : decode cX7_findMosts 120 = .ok (.imul, 1) := by decide +kernel
theorem dX7_findMosts_121 : decode cX7_findMosts 121 = .ok (.iload_n 2, 1) := by decide +kernel
theorem dX7_findMosts_122 : decode cX7_findMosts 122 = .ok (.iconst 1, 1) := by decide +kernel
theorem dX7_findMosts_123 : decode cX7_findMosts 123 = .ok (.iload 4, 2) := by decide +kernel
theorem dX7_findMosts_125 : decode cX7_findMosts 125 = .ok (.ishl, 1) := by decide +kernel
theorem dX7_findMosts_126 : decode cX7_findMosts 126 = .ok (.ior, 1) := by decide +kernel
theorem dX7_findMosts_127 : decode cX7_findMosts 127 = .ok (.iadd, 1) := by decide +kernel
theorem dX7_findMosts_128 : decode cX7_findMosts 128 = .ok (.iaload, 1) := by decide +kernel
theorem dX7_findMosts_129 : decode cX7_findMosts 129 = .ok (.iadd, 1) := by decide +kernel
theorem dX7_findMosts_130 : decode cX7_findMosts 130 = .ok (.goto 4, 3) := by decide +kernel
theorem dX7_findMosts_133 : decode cX7_findMosts 133 = .ok (.iconst 0, 1) := by decide +kernel
theorem dX7_findMosts_134 : decode cX7_findMosts 134 = .ok (.istore 5, 2) := by decide +kernel
theorem dX7_findMosts_136 : decode cX7_findMosts 136 = .ok (.iload 5, 2) := by decide +kernel
theorem dX7_findMosts_138 : decode cX7_findMosts 138 = .ok (.iload_n 3, 1) := by decide +kernel
theorem dX7_findMosts_139 : decode cX7_findMosts 139 = .ok (.if_icmp .le 8, 3) := by decide +kernel
theorem dX7_findMosts_142 : decode cX7_findMosts 142 = .ok (.iload 5, 2) := by decide +kernel
theorem dX7_findMosts_144 : decode cX7_findMosts 144 = .ok (.goto 4, 3) := by decide +kernel
theorem dX7_findMosts_147 : decode cX7_findMosts 147 = .ok (.iload_n 3, 1) := by decide +kernel
theorem dX7_findMosts_148 : decode cX7_findMosts 148 = .ok (.istore_n 3, 1) := by decide +kernel
theorem dX7_findMosts_149 : decode cX7_findMosts 149 = .ok (.iinc 4 1, 3) := by decide +kernel
theorem dX7_findMosts_152 : decode cX7_findMosts 152 = .ok (.goto (-83), 3) := by decide +kernel
theorem dX7_findMosts_155 : decode cX7_findMosts 155 = .ok (.aload_n 0, 1) := by decide +kernel
theorem dX7_findMosts_156 : decode cX7_findMosts 156 = .ok (.getfield 71, 3) := by decide +kernel
theorem dX7_findMosts_159 : decode cX7_findMosts 159 = .ok (.sipush 256, 3) := by decide +kernel
theorem dX7_findMosts_162 : decode cX7_findMosts 162 = .ok (.iload_n 1, 1) := by decide +kernel
theorem dX7_findMosts_163 : decode cX7_findMosts 163 = .ok (.imul, 1) := by decide +kernel
theorem dX7_findMosts_164 : decode cX7_findMosts 164 = .ok (.iload_n 2, 1) := by decide +kernel
theorem dX7_findMosts_165 : decode cX7_findMosts 165 = .ok (.iadd, 1) := by decide +kernel
theorem dX7_findMosts_166 : decode cX7_findMosts 166 = .ok (.iload_n 3, 1) := by decide +kernel
theorem dX7_findMosts_167 : decode cX7_findMosts 167 = .ok (.iastore, 1) := by decide +kernel
theorem dX7_findMosts_168 : decode cX7_findMosts 168 = .ok (.iinc 2 1, 3) := by decide +kernel
theorem dX7_findMosts_171 : decode cX7_findMosts 171 = .ok (.goto (-127), 3) := by decide +kernel
theorem dX7_findMosts_174 : decode cX7_findMosts 174 = .ok (.iinc 1 (-1), 3) := by decide +kernel
theorem dX7_findMosts_177 : decode cX7_findMosts 177 = .ok (.goto (-139), 3) := by decide +kernel
theorem dX7_findMosts_180 : decode cX7_findMosts 180 = .ok (.return_, 1) := by decide +kernel
theorem dX7_tails_0 : decode cX7_tails 0 = .ok (.iload_n 1, 1) := by decide +kernel
theorem dX7_tails_1 : decode cX7_tails 1 = .ok (.iconst (-1), 1) := by decide +kernel
theorem dX7_tails_2 : decode cX7_tails 2 = .ok (.if_icmp .eq 14, 3) := by decide +kernel
theorem dX7_tails_5 : decode cX7_tails 5 = .ok (.aload_n 0, 1) := by decide +kernel
theorem dX7_tails_6 : decode cX7_tails 6 = .ok (.iload_n 1, 1) := by decide +kernel
theorem dX7_tails_7 : decode cX7_tails 7 = .ok (.invokevirtual 172, 3) := by decide +kernel
theorem dX7_tails_10 : decode cX7_tails 10 = .ok (.ifCond .ne 6, 3) := by decide +kernel
theorem dX7_tails_13 : decode cX7_tails 13 = .ok (.bipush (-2), 2) := by decide +kernel
theorem dX7_tails_15 : decode cX7_tails 15 = .ok (.ireturn, 1) := by decide +kernel
theorem dX7_tails_16 : decode cX7_tails 16 = .ok (.aload_n 0, 1) := by decide +kernel
theorem dX7_tails_17 : decode cX7_tails 17 = .ok (.invokevirtual 238, 3) := by decide +kernel
theorem dX7_tails_20 : decode cX7_tails 20 = .ok (.iload_n 1, 1) := by decide +kernel
theorem dX7_tails_21 : decode cX7_tails 21 = .ok (.ifCond .ge 10, 3) := by decide +kernel
theorem dX7_tails_24 : decode cX7_tails 24 = .ok (.aload_n 0, 1) := by decide +kernel
theorem dX7_tails_25 : decode cX7_tails 25 = .ok (.getfield 71, 3) := by decide +kernel
theorem dX7_tails_28 : decode cX7_tails 28 = .ok (.iconst 0, 1) := by decide +kernel
theorem dX7_tails_29 : decode cX7_tails 29 = .ok (.iaload, 1) := by decide +kernel
theorem dX7_tails_30 : decode cX7_tails 30 = .ok (.ireturn, 1) := by decide +kernel
theorem dX7_tails_31 : decode cX7_tails 31 = .ok (.iconst 0, 1) := by decide +kernel
theorem dX7_tails_32 : decode cX7_tails 32 = .ok (.istore_n 2, 1) := by decide +kernel
theorem dX7_tails_33 : decode cX7_tails 33 = .ok (.iconst (-1), 1) := by decide +kernel
theorem dX7_tails_34 : decode cX7_tails 34 = .ok (.istore_n 3, 1) := by decide +kernel
theorem dX7_tails_35 : decode cX7_tails 35 = .ok (.iconst 0, 1) := by decide +kernel
theorem dX7_tails_36 : decode cX7_tails 36 = .ok (.istore 4, 2) := by decide +kernel
theorem dX7_tails_38 : decode cX7_tails 38 = .ok (.iload 4, 2) := by decide +kernel
theorem dX7_tails_40 : decode cX7_tails 40 = .ok (.iload_n 1, 1) := by decide +kernel
theorem dX7_tails_41 : decode cX7_tails 41 = .ok (.if_icmp .gt 178, 3) := by decide +kernel
theorem dX7_tails_44 : decode cX7_tails 44 = .ok (.iconst (-1), 1) := by decide +kernel
theorem dX7_tails_45 : decode cX7_tails 45 = .ok (.istore_n 3, 1) := by decide +kernel
theorem dX7_tails_46 : decode cX7_tails 46 = .ok (.aload_n 0, 1) := by decide +kernel
theorem dX7_tails_47 : decode cX7_tails 47 = .ok (.getfield 71, 3) := by decide +kernel
theorem dX7_tails_50 : decode cX7_tails 50 = .ok (.sipush 256, 3) := by decide +kernel
theorem dX7_tails_53 : decode cX7_tails 53 = .ok (.iload 4, 2) := by decide +kernel
theorem dX7_tails_55 : decode cX7_tails 55 = .ok (.iconst 1, 1) := by decide +kernel
theorem dX7_tails_56 : decode cX7_tails 56 = .ok (.iadd, 1) := by decide +kernel
theorem dX7_tails_57 : decode cX7_tails 57 = .ok (.imul, 1) := by decide +kernel
theorem dX7_tails_58 : decode cX7_tails 58 = .ok (.iload_n 2, 1) := by decide +kernel
theorem dX7_tails_59 : decode cX7_tails 59 = .ok (.iadd, 1) := by decide +kernel
theorem dX7_tails_60 : decode cX7_tails 60 = .ok (.iaload, 1) := by decide +kernel
theorem dX7_tails_61 : decode cX7_tails 61 = .ok (.aload_n 0, 1) := by decide +kernel
theorem dX7_tails_62 : decode cX7_tails 62 = .ok (.getfield 71, 3) := by decide +kernel
theorem dX7_tails_65 : decode cX7_tails 65 = .ok (.sipush 256, 3) := by decide +kernel
theorem dX7_tails_68 : decode cX7_tails 68 = .ok (.iload 4, 2) := by decide +kernel
theorem dX7_tails_70 : decode cX7_tails 70 = .ok (.imul, 1) := by decide +kernel
theorem dX7_tails_71 : decode cX7_tails 71 = .ok (.iload_n 2, 1) := by decide +kernel
theorem dX7_tails_72 : decode cX7_tails 72 = .ok (.iadd, 1) := by decide +kernel
theorem dX7_tails_73 : decode cX7_tails 73 = .ok (.iaload, 1) := by decide +kernel
theorem dX7_tails_74 : decode cX7_tails 74 = .ok (.if_icmp .ne 7, 3) := by decide +kernel
theorem dX7_tails_77 : decode cX7_tails 77 = .ok (.iconst 1, 1) := by decide +kernel
theorem dX7_tails_78 : decode cX7_tails 78 = .ok (.goto 4, 3) := by decide +kernel
theorem dX7_tails_81 : decode cX7_tails 81 = .ok (.iconst 0, 1) := by decide +kernel
theorem dX7_tails_82 : decode cX7_tails 82 = .ok (.istore 5, 2) := by decide +kernel
theorem dX7_tails_84 : decode cX7_tails 84 = .ok (.aload_n 0, 1) := by decide +kernel
theorem dX7_tails_85 : decode cX7_tails 85 = .ok (.getfield 74, 3) := by decide +kernel
theorem dX7_tails_88 : decode cX7_tails 88 = .ok (.iconst 1, 1) := by decide +kernel
theorem dX7_tails_89 : decode cX7_tails 89 = .ok (.isub, 1) := by decide +kernel
theorem dX7_tails_90 : decode cX7_tails 90 = .ok (.istore 6, 2) := by decide +kernel
theorem dX7_tails_92 : decode cX7_tails 92 = .ok (.iload 6, 2) := by decide +kernel
theorem dX7_tails_94 : decode cX7_tails 94 = .ok (.ifCond .lt 105, 3) := by decide +kernel
theorem dX7_tails_97 : decode cX7_tails 97 = .ok (.iload 5, 2) := by decide +kernel
theorem dX7_tails_99 : decode cX7_tails 99 = .ok (.ifCond .ne 100, 3) := by decide +kernel
theorem dX7_tails_102 : decode cX7_tails 102 = .ok (.aload_n 0, 1) := by decide +kernel
theorem dX7_tails_103 : decode cX7_tails 103 = .ok (.iload 4, 2) := by decide +kernel
theorem dX7_tails_105 : decode cX7_tails 105 = .ok (.invokevirtual 232, 3) := by decide +kernel
theorem dX7_tails_108 : decode cX7_tails 108 = .ok (.ifCond .le 70, 3) := by decide +kernel
theorem dX7_tails_111 : decode cX7_tails 111 = .ok (.aload_n 0, 1) := by decide +kernel
theorem dX7_tails_112 : decode cX7_tails 112 = .ok (.iload 4, 2) := by decide +kernel
theorem dX7_tails_114 : decode cX7_tails 114 = .ok (.iload 6, 2) := by decide +kernel
theorem dX7_tails_116 : decode cX7_tails 116 = .ok (.invokevirtual 235, 3) := by decide +kernel
theorem dX7_tails_119 : decode cX7_tails 119 = .ok (.ifCond .eq 59, 3) := by decide +kernel
theorem dX7_tails_122 : decode cX7_tails 122 = .ok (.iload_n 2, 1) := by decide +kernel
theorem dX7_tails_123 : decode cX7_tails 123 = .ok (.iload 6, 2) := by decide +kernel
theorem dX7_tails_125 : decode cX7_tails 125 = .ok (.invokestatic 124, 3) := by decide +kernel
theorem dX7_tails_128 : decode cX7_tails 128 = .ok (.ifCond .ne 50, 3) := by decide +kernel
theorem dX7_tails_131 : decode cX7_tails 131 = .ok (.aload_n 0, 1) := by decide +kernel
theorem dX7_tails_132 : decode cX7_tails 132 = .ok (.iload 4, 2) := by decide +kernel
theorem dX7_tails_134 : decode cX7_tails 134 = .ok (.invokevirtual 232, 3) := by decide +kernel
theorem dX7_tails_137 : decode cX7_tails 137 = .ok (.aload_n 0, 1) := by decide +kernel
theorem dX7_tails_138 : decode cX7_tails 138 = .ok (.getfield 71, 3) := by decide +kernel
theorem dX7_tails_141 : decode cX7_tails 141 = .ok (.sipush 256, 3) := by decide +kernel
theorem dX7_tails_144 : decode cX7_tails 144 = .ok (.iload 4, 2) := by decide +kernel
theorem dX7_tails_146 : decode cX7_tails 146 = .ok (.iconst 1, 1) := by decide +kernel
theorem dX7_tails_147 : decode cX7_tails 147 = .ok (.iadd, 1) := by decide +kernel
theorem dX7_tails_148 : decode cX7_tails 148 = .ok (.imul, 1) := by decide +kernel
theorem dX7_tails_149 : decode cX7_tails 149 = .ok (.iload_n 2, 1) := by decide +kernel
theorem dX7_tails_150 : decode cX7_tails 150 = .ok (.iconst 1, 1) := by decide +kernel
theorem dX7_tails_151 : decode cX7_tails 151 = .ok (.iload 6, 2) := by decide +kernel
theorem dX7_tails_153 : decode cX7_tails 153 = .ok (.ishl, 1) := by decide +kernel
theorem dX7_tails_154 : decode cX7_tails 154 = .ok (.ior, 1) := by decide +kernel
theorem dX7_tails_155 : decode cX7_tails 155 = .ok (.iadd, 1) := by decide +kernel
theorem dX7_tails_156 : decode cX7_tails 156 = .ok (.iaload, 1) := by decide +kernel
theorem dX7_tails_157 : decode cX7_tails 157 = .ok (.iadd, 1) := by decide +kernel
theorem dX7_tails_158 : decode cX7_tails 158 = .ok (.aload_n 0, 1) := by decide +kernel
theorem dX7_tails_159 : decode cX7_tails 159 = .ok (.getfield 71, 3) := by decide +kernel
theorem dX7_tails_162 : decode cX7_tails 162 = .ok (.sipush 256, 3) := by decide +kernel
theorem dX7_tails_165 : decode cX7_tails 165 = .ok (.iload 4, 2) := by decide +kernel
theorem dX7_tails_167 : decode cX7_tails 167 = .ok (.imul, 1) := by decide +kernel
theorem dX7_tails_168 : decode cX7_tails 168 = .ok (.iload_n 2, 1) := by decide +kernel
theorem dX7_tails_169 : decode cX7_tails 169 = .ok (.iadd, 1) := by decide +kernel
theorem dX7_tails_170 : decode cX7_tails 170 = .ok (.iaload, 1) := by decide +kernel
theorem dX7_tails_171 : decode cX7_tails 171 = .ok (.if_icmp .ne 7, 3) := by decide +kernel
theorem dX7_tails_174 : decode cX7_tails 174 = .ok (.iconst 1, 1) := by decide +kernel
theorem dX7_tails_175 : decode cX7_tails 175 = .ok (.goto 4, 3) := by decide +kernel
theorem dX7_tails_178 : decode cX7_tails 178 = .ok (.iconst 0, 1) := by decide +kernel
theorem dX7_tails_179 : decode cX7_tails 179 = .ok (.istore 7, 2) := by decide +kernel
theorem dX7_tails_181 : decode cX7_tails 181 = .ok (.iload 7, 2) := by decide +kernel
theorem dX7_tails_183 : decode cX7_tails 183 = .ok (.ifCond .eq 8, 3) := by decide +kernel
theorem dX7_tails_186 : decode cX7_tails 186 = .ok (.iload 6, 2) := by decide +kernel
theorem dX7_tails_188 : decode cX7_tails 188 = .ok (.goto 4, 3) := by decide +kernel
theorem dX7_tails_191 : decode cX7_tails 191 = .ok (.iload_n 3, 1) := by decide +kernel
theorem dX7_tails_192 : decode cX7_tails 192 = .ok (.istore_n 3, 1) := by decide +kernel
theorem dX7_tails_193 : decode cX7_tails 193 = .ok (.iinc 6 (-1), 3) := by decide +kernel
theorem dX7_tails_196 : decode cX7_tails 196 = .ok (.goto (-104), 3) := by decide +kernel
theorem dX7_tails_199 : decode cX7_tails 199 = .ok (.iload_n 2, 1) := by decide +kernel
theorem dX7_tails_200 : decode cX7_tails 200 = .ok (.iload_n 3, 1) := by decide +kernel
theorem dX7_tails_201 : decode cX7_tails 201 = .ok (.ifCond .ge 7, 3) := by decide +kernel
theorem dX7_tails_204 : decode cX7_tails 204 = .ok (.iconst 0, 1) := by decide +kernel
theorem dX7_tails_205 : decode cX7_tails 205 = .ok (.goto 6, 3) := by decide +kernel
theorem dX7_tails_208 : decode cX7_tails 208 = .ok (.iconst 1, 1) := by decide +kernel
theorem dX7_tails_209 : decode cX7_tails 209 = .ok (.iload_n 3, 1) := by decide +kernel
theorem dX7_tails_210 : decode cX7_tails 210 = .ok (.ishl, 1) := by decide +kernel
theorem dX7_tails_211 : decode cX7_tails 211 = .ok (.ior, 1) := by decide +kernel
theorem dX7_tails_212 : decode cX7_tails 212 = .ok (.istore_n 2, 1) := by decide +kernel
theorem dX7_tails_213 : decode cX7_tails 213 = .ok (.iinc 4 1, 3) := by decide +kernel
theorem dX7_tails_216 : decode cX7_tails 216 = .ok (.goto (-178), 3) := by decide +kernel
theorem dX7_tails_219 : decode cX7_tails 219 = .ok (.iload_n 3, 1) := by decide +kernel
theorem dX7_tails_220 : decode cX7_tails 220 = .ok (.ireturn, 1) := by decide +kernel
theorem dX7_canGive_0 : decode cX7_canGive 0 = .ok (.aload_n 0, 1) := by decide +kernel
theorem dX7_canGive_1 : decode cX7_canGive 1 = .ok (.iload_n 1, 1) := by decide +kernel
theorem dX7_canGive_2 : decode cX7_canGive 2 = .ok (.invokevirtual 177, 3) := by decide +kernel
theorem dX7_canGive_5 : decode cX7_canGive 5 = .ok (.iload_n 2, 1) := by decide +kernel
theorem dX7_canGive_6 : decode cX7_canGive 6 = .ok (.isub, 1) := by decide +kernel
theorem dX7_canGive_7 : decode cX7_canGive 7 = .ok (.istore_n 3, 1) := by decide +kernel
theorem dX7_canGive_8 : decode cX7_canGive 8 = .ok (.iload_n 3, 1) := by decide +kernel
theorem dX7_canGive_9 : decode cX7_canGive 9 = .ok (.ifCond .ge 7, 3) := by decide +kernel
theorem dX7_canGive_12 : decode cX7_canGive 12 = .ok (.iconst 0, 1) := by decide +kernel
theorem dX7_canGive_13 : decode cX7_canGive 13 = .ok (.goto 20, 3) := by decide +kernel
theorem dX7_canGive_16 : decode cX7_canGive 16 = .ok (.aload_n 0, 1) := by decide +kernel
theorem dX7_canGive_17 : decode cX7_canGive 17 = .ok (.getfield 7, 3) := by decide +kernel
theorem dX7_canGive_20 : decode cX7_canGive 20 = .ok (.iload_n 1, 1) := by decide +kernel
theorem dX7_canGive_21 : decode cX7_canGive 21 = .ok (.iaload, 1) := by decide +kernel
theorem dX7_canGive_22 : decode cX7_canGive 22 = .ok (.iconst 1, 1) := by decide +kernel
theorem dX7_canGive_23 : decode cX7_canGive 23 = .ok (.if_icmp .ne 9, 3) := by decide +kernel
theorem dX7_canGive_26 : decode cX7_canGive 26 = .ok (.iload_n 3, 1) := by decide +kernel
theorem dX7_canGive_27 : decode cX7_canGive 27 = .ok (.iconst 2, 1) := by decide +kernel
theorem dX7_canGive_28 : decode cX7_canGive 28 = .ok (.idiv, 1) := by decide +kernel
theorem dX7_canGive_29 : decode cX7_canGive 29 = .ok (.goto 4, 3) := by decide +kernel
theorem dX7_canGive_32 : decode cX7_canGive 32 = .ok (.iload_n 3, 1) := by decide +kernel
theorem dX7_canGive_33 : decode cX7_canGive 33 = .ok (.ireturn, 1) := by decide +kernel
theorem dX7_given_0 : decode cX7_given 0 = .ok (.aload_n 0, 1) := by decide +kernel
theorem dX7_given_1 : decode cX7_given 1 = .ok (.iload_n 1, 1) := by decide +kernel
theorem dX7_given_2 : decode cX7_given 2 = .ok (.invokevirtual 172, 3) := by decide +kernel
theorem dX7_given_5 : decode cX7_given 5 = .ok (.ifCond .ne 6, 3) := by decide +kernel
theorem dX7_given_8 : decode cX7_given 8 = .ok (.bipush (-2), 2) := by decide +kernel
theorem dX7_given_10 : decode cX7_given 10 = .ok (.ireturn, 1) := by decide +kernel
theorem dX7_given_11 : decode cX7_given 11 = .ok (.iload_n 2, 1) := by decide +kernel
theorem dX7_given_12 : decode cX7_given 12 = .ok (.i2l, 1) := by decide +kernel
theorem dX7_given_13 : decode cX7_given 13 = .ok (.lconst 1, 1) := by decide +kernel
theorem dX7_given_14 : decode cX7_given 14 = .ok (.ldc2_w 209, 3) := by decide +kernel
theorem dX7_given_17 : decode cX7_given 17 = .ok (.invokestatic 78, 3) := by decide +kernel
theorem dX7_given_20 : decode cX7_given 20 = .ok (.ifCond .eq 15, 3) := by decide +kernel
theorem dX7_given_23 : decode cX7_given 23 = .ok (.iload_n 3, 1) := by decide +kernel
theorem dX7_given_24 : decode cX7_given 24 = .ok (.i2l, 1) := by decide +kernel
theorem dX7_given_25 : decode cX7_given 25 = .ok (.lconst 0, 1) := by decide +kernel
theorem dX7_given_26 : decode cX7_given 26 = .ok (.ldc2_w 209, 3) := by decide +kernel
theorem dX7_given_29 : decode cX7_given 29 = .ok (.invokestatic 78, 3) := by decide +kernel
theorem dX7_given_32 : decode cX7_given 32 = .ok (.ifCond .ne 6, 3) := by decide +kernel
theorem dX7_given_35 : decode cX7_given 35 = .ok (.bipush (-3), 2) := by decide +kernel
theorem dX7_given_37 : decode cX7_given 37 = .ok (.ireturn, 1) := by decide +kernel
theorem dX7_given_38 : decode cX7_given 38 = .ok (.aload_n 0, 1) := by decide +kernel
theorem dX7_given_39 : decode cX7_given 39 = .ok (.iload_n 1, 1) := by decide +kernel
theorem dX7_given_40 : decode cX7_given 40 = .ok (.invokevirtual 169, 3) := by decide +kernel
theorem dX7_given_43 : decode cX7_given 43 = .ok (.ifCond .ne 6, 3) := by decide +kernel
theorem dX7_given_46 : decode cX7_given 46 = .ok (.bipush (-4), 2) := by decide +kernel
theorem dX7_given_48 : decode cX7_given 48 = .ok (.ireturn, 1) := by decide +kernel
theorem dX7_given_49 : decode cX7_given 49 = .ok (.iconst 0, 1) := by decide +kernel
theorem dX7_given_50 : decode cX7_given 50 = .ok (.istore 4, 2) := by decide +kernel
theorem dX7_given_52 : decode cX7_given 52 = .ok (.iconst 0, 1) := by decide +kernel
theorem dX7_given_53 : decode cX7_given 53 = .ok (.istore 5, 2) := by decide +kernel
theorem dX7_given_55 : decode cX7_given 55 = .ok (.iconst (-1), 1) := by decide +kernel
theorem dX7_given_56 : decode cX7_given 56 = .ok (.istore 6, 2) := by decide +kernel
theorem dX7_given_58 : decode cX7_given 58 = .ok (.iconst 0, 1) := by decide +kernel
theorem dX7_given_59 : decode cX7_given 59 = .ok (.istore 7, 2) := by decide +kernel
theorem dX7_given_61 : decode cX7_given 61 = .ok (.iload 7, 2) := by decide +kernel
theorem dX7_given_63 : decode cX7_given 63 = .ok (.aload_n 0, 1) := by decide +kernel
theorem dX7_given_64 : decode cX7_given 64 = .ok (.getfield 74, 3) := by decide +kernel
theorem dX7_given_67 : decode cX7_given 67 = .ok (.if_icmp .ge 94, 3) := by decide +kernel
theorem dX7_given_70 : decode cX7_given 70 = .ok (.iload 7, 2) := by decide +kernel
theorem dX7_given_72 : decode cX7_given 72 = .ok (.iload_n 1, 1) := by decide +kernel
theorem dX7_given_73 : decode cX7_given 73 = .ok (.if_icmp .eq 82, 3) := by decide +kernel
theorem dX7_given_76 : decode cX7_given 76 = .ok (.aload_n 0, 1) := by decide +kernel
theorem dX7_given_77 : decode cX7_given 77 = .ok (.iload 7, 2) := by decide +kernel
theorem dX7_given_79 : decode cX7_given 79 = .ok (.invokevirtual 169, 3) := by decide +kernel
theorem dX7_given_82 : decode cX7_given 82 = .ok (.ifCond .eq 73, 3) := by decide +kernel
theorem dX7_given_85 : decode cX7_given 85 = .ok (.aload_n 0, 1) := by decide +kernel
theorem dX7_given_86 : decode cX7_given 86 = .ok (.getfield 7, 3) := by decide +kernel
theorem dX7_given_89 : decode cX7_given 89 = .ok (.iload 7, 2) := by decide +kernel
theorem dX7_given_91 : decode cX7_given 91 = .ok (.iaload, 1) := by decide +kernel
theorem dX7_given_92 : decode cX7_given 92 = .ok (.iconst 3, 1) := by decide +kernel
theorem dX7_given_93 : decode cX7_given 93 = .ok (.if_icmp .eq 62, 3) := by decide +kernel
theorem dX7_given_96 : decode cX7_given 96 = .ok (.iload 4, 2) := by decide +kernel
theorem dX7_given_98 : decode cX7_given 98 = .ok (.aload_n 0, 1) := by decide +kernel
theorem dX7_given_99 : decode cX7_given 99 = .ok (.iload 7, 2) := by decide +kernel
theorem dX7_given_101 : decode cX7_given 101 = .ok (.iload_n 3, 1) := by decide +kernel
theorem dX7_given_102 : decode cX7_given 102 = .ok (.invokevirtual 241, 3) := by decide +kernel
theorem dX7_given_105 : decode cX7_given 105 = .ok (.iadd, 1) := by decide +kernel
theorem dX7_given_106 : decode cX7_given 106 = .ok (.istore 4, 2) := by decide +kernel
theorem dX7_given_108 : decode cX7_given 108 = .ok (.aload_n 0, 1) := by decide +kernel
theorem dX7_given_109 : decode cX7_given 109 = .ok (.iload 7, 2) := by decide +kernel
theorem dX7_given_111 : decode cX7_given 111 = .ok (.iload_n 3, 1) := by decide +kernel
theorem dX7_given_112 : decode cX7_given 112 = .ok (.invokevirtual 241, 3) := by decide +kernel
theorem dX7_given_115 : decode cX7_given 115 = .ok (.iload 5, 2) := by decide +kernel
theorem dX7_given_117 : decode cX7_given 117 = .ok (.if_icmp .le 8, 3) := by decide +kernel
theorem dX7_given_120 : decode cX7_given 120 = .ok (.iload 7, 2) := by decide +kernel
theorem dX7_given_122 : decode cX7_given 122 = .ok (.goto 5, 3) := by decide +kernel
theorem dX7_given_125 : decode cX7_given 125 = .ok (.iload 6, 2) := by decide +kernel
theorem dX7_given_127 : decode cX7_given 127 = .ok (.istore 6, 2) := by decide +kernel
theorem dX7_given_129 : decode cX7_given 129 = .ok (.aload_n 0, 1) := by decide +kernel
theorem dX7_given_130 : decode cX7_given 130 = .ok (.iload 7, 2) := by decide +kernel
theorem dX7_given_132 : decode cX7_given 132 = .ok (.iload_n 3, 1) := by decide +kernel
theorem dX7_given_133 : decode cX7_given 133 = .ok (.invokevirtual 241, 3) := by decide +kernel
theorem dX7_given_136 : decode cX7_given 136 = .ok (.iload 5, 2) := by decide +kernel
theorem dX7_given_138 : decode cX7_given 138 = .ok (.if_icmp .le 13, 3) := by decide +kernel
theorem dX7_given_141 : decode cX7_given 141 = .ok (.aload_n 0, 1) := by decide +kernel
theorem dX7_given_142 : decode cX7_given 142 = .ok (.iload 7, 2) := by decide +kernel
theorem dX7_given_144 : decode cX7_given 144 = .ok (.iload_n 3, 1) := by decide +kernel
theorem dX7_given_145 : decode cX7_given 145 = .ok (.invokevirtual 241, 3) := by decide +kernel
theorem dX7_given_148 : decode cX7_given 148 = .ok (.goto 5, 3) := by decide +kernel
theorem dX7_given_151 : decode cX7_given 151 = .ok (.iload 5, 2) := by decide +kernel
theorem dX7_given_153 : decode cX7_given 153 = .ok (.istore 5, 2) := by decide +kernel
theorem dX7_given_155 : decode cX7_given 155 = .ok (.iinc 7 1, 3) := by decide +kernel
theorem dX7_given_158 : decode cX7_given 158 = .ok (.goto (-97), 3) := by decide +kernel
theorem dX7_given_161 : decode cX7_given 161 = .ok (.iload 4, 2) := by decide +kernel
theorem dX7_given_163 : decode cX7_given 163 = .ok (.iload_n 2, 1) := by decide +kernel
theorem dX7_given_164 : decode cX7_given 164 = .ok (.if_icmp .lt 8, 3) := by decide +kernel
theorem dX7_given_167 : decode cX7_given 167 = .ok (.iload 6, 2) := by decide +kernel
theorem dX7_given_169 : decode cX7_given 169 = .ok (.goto 4, 3) := by decide +kernel
theorem dX7_given_172 : decode cX7_given 172 = .ok (.iconst (-1), 1) := by decide +kernel
theorem dX7_given_173 : decode cX7_given 173 = .ok (.ireturn, 1) := by decide +kernel
theorem dX7_common_0 : decode cX7_common 0 = .ok (.iload_n 0, 1) := by decide +kernel
theorem dX7_common_1 : decode cX7_common 1 = .ok (.istore_n 2, 1) := by decide +kernel
theorem dX7_common_2 : decode cX7_common 2 = .ok (.iload_n 1, 1) := by decide +kernel
theorem dX7_common_3 : decode cX7_common 3 = .ok (.istore_n 3, 1) := by decide +kernel
theorem dX7_common_4 : decode cX7_common 4 = .ok (.iload_n 3, 1) := by decide +kernel
theorem dX7_common_5 : decode cX7_common 5 = .ok (.ifCond .eq 16, 3) := by decide +kernel
theorem dX7_common_8 : decode cX7_common 8 = .ok (.iload_n 2, 1) := by decide +kernel
theorem dX7_common_9 : decode cX7_common 9 = .ok (.iload_n 3, 1) := by decide +kernel
theorem dX7_common_10 : decode cX7_common 10 = .ok (.irem, 1) := by decide +kernel
theorem dX7_common_11 : decode cX7_common 11 = .ok (.istore 4, 2) := by decide +kernel
theorem dX7_common_13 : decode cX7_common 13 = .ok (.iload_n 3, 1) := by decide +kernel
theorem dX7_common_14 : decode cX7_common 14 = .ok (.istore_n 2, 1) := by decide +kernel
theorem dX7_common_15 : decode cX7_common 15 = .ok (.iload 4, 2) := by decide +kernel
theorem dX7_common_17 : decode cX7_common 17 = .ok (.istore_n 3, 1) := by decide +kernel
theorem dX7_common_18 : decode cX7_common 18 = .ok (.goto (-14), 3) := by decide +kernel
theorem dX7_common_21 : decode cX7_common 21 = .ok (.iload_n 2, 1) := by decide +kernel
theorem dX7_common_22 : decode cX7_common 22 = .ok (.ireturn, 1) := by decide +kernel
theorem dX7_part_0 : decode cX7_part 0 = .ok (.iload_n 0, 1) := by decide +kernel
theorem dX7_part_1 : decode cX7_part 1 = .ok (.iload_n 1, 1) := by decide +kernel
theorem dX7_part_2 : decode cX7_part 2 = .ok (.invokestatic 244, 3) := by decide +kernel
theorem dX7_part_5 : decode cX7_part 5 = .ok (.istore_n 3, 1) := by decide +kernel
theorem dX7_part_6 : decode cX7_part 6 = .ok (.iload_n 2, 1) := by decide +kernel
theorem dX7_part_7 : decode cX7_part 7 = .ok (.ifCond .ne 9, 3) := by decide +kernel
theorem dX7_part_10 : decode cX7_part 10 = .ok (.iload_n 0, 1) := by decide +kernel
theorem dX7_part_11 : decode cX7_part 11 = .ok (.iload_n 3, 1) := by decide +kernel
theorem dX7_part_12 : decode cX7_part 12 = .ok (.idiv, 1) := by decide +kernel
theorem dX7_part_13 : decode cX7_part 13 = .ok (.goto 6, 3) := by decide +kernel
theorem dX7_part_16 : decode cX7_part 16 = .ok (.iload_n 1, 1) := by decide +kernel
theorem dX7_part_17 : decode cX7_part 17 = .ok (.iload_n 3, 1) := by decide +kernel
theorem dX7_part_18 : decode cX7_part 18 = .ok (.idiv, 1) := by decide +kernel
theorem dX7_part_19 : decode cX7_part 19 = .ok (.ireturn, 1) := by decide +kernel
theorem dX7_cat_0 : decode cX7_cat 0 = .ok (.aload_n 0, 1) := by decide +kernel
theorem dX7_cat_1 : decode cX7_cat 1 = .ok (.iload_n 1, 1) := by decide +kernel
theorem dX7_cat_2 : decode cX7_cat 2 = .ok (.invokevirtual 172, 3) := by decide +kernel
theorem dX7_cat_5 : decode cX7_cat 5 = .ok (.ifCond .ne 6, 3) := by decide +kernel
theorem dX7_cat_8 : decode cX7_cat 8 = .ok (.bipush (-2), 2) := by decide +kernel
theorem dX7_cat_10 : decode cX7_cat 10 = .ok (.ireturn, 1) := by decide +kernel
theorem dX7_cat_11 : decode cX7_cat 11 = .ok (.iload_n 2, 1) := by decide +kernel
theorem dX7_cat_12 : decode cX7_cat 12 = .ok (.i2l, 1) := by decide +kernel
theorem dX7_cat_13 : decode cX7_cat 13 = .ok (.lconst 0, 1) := by decide +kernel
theorem dX7_cat_14 : decode cX7_cat 14 = .ok (.lconst 1, 1) := by decide +kernel
theorem dX7_cat_15 : decode cX7_cat 15 = .ok (.invokestatic 78, 3) := by decide +kernel
theorem dX7_cat_18 : decode cX7_cat 18 = .ok (.ifCond .ne 6, 3) := by decide +kernel
theorem dX7_cat_21 : decode cX7_cat 21 = .ok (.bipush (-3), 2) := by decide +kernel
theorem dX7_cat_23 : decode cX7_cat 23 = .ok (.ireturn, 1) := by decide +kernel
theorem dX7_cat_24 : decode cX7_cat 24 = .ok (.aload_n 0, 1) := by decide +kernel
theorem dX7_cat_25 : decode cX7_cat 25 = .ok (.invokevirtual 180, 3) := by decide +kernel
theorem dX7_cat_28 : decode cX7_cat 28 = .ok (.ifCond .ne 6, 3) := by decide +kernel
theorem dX7_cat_31 : decode cX7_cat 31 = .ok (.bipush (-4), 2) := by decide +kernel
theorem dX7_cat_33 : decode cX7_cat 33 = .ok (.ireturn, 1) := by decide +kernel
theorem dX7_cat_34 : decode cX7_cat 34 = .ok (.iconst 0, 1) := by decide +kernel
theorem dX7_cat_35 : decode cX7_cat 35 = .ok (.istore_n 3, 1) := by decide +kernel
theorem dX7_cat_36 : decode cX7_cat 36 = .ok (.iconst 0, 1) := by decide +kernel
theorem dX7_cat_37 : decode cX7_cat 37 = .ok (.istore 4, 2) := by decide +kernel
theorem dX7_cat_39 : decode cX7_cat 39 = .ok (.iload 4, 2) := by decide +kernel
theorem dX7_cat_41 : decode cX7_cat 41 = .ok (.aload_n 0, 1) := by decide +kernel
theorem dX7_cat_42 : decode cX7_cat 42 = .ok (.getfield 74, 3) := by decide +kernel
theorem dX7_cat_45 : decode cX7_cat 45 = .ok (.if_icmp .ge 30, 3) := by decide +kernel
theorem dX7_cat_48 : decode cX7_cat 48 = .ok (.iload_n 3, 1) := by decide +kernel
theorem dX7_cat_49 : decode cX7_cat 49 = .ok (.aload_n 0, 1) := by decide +kernel
theorem dX7_cat_50 : decode cX7_cat 50 = .ok (.iload 4, 2) := by decide +kernel
theorem dX7_cat_52 : decode cX7_cat 52 = .ok (.invokevirtual 186, 3) := by decide +kernel
theorem dX7_cat_55 : decode cX7_cat 55 = .ok (.iload_n 1, 1) := by decide +kernel
theorem dX7_cat_56 : decode cX7_cat 56 = .ok (.invokestatic 124, 3) := by decide +kernel
theorem dX7_cat_59 : decode cX7_cat 59 = .ok (.ifCond .eq 7, 3) := by decide +kernel
theorem dX7_cat_62 : decode cX7_cat 62 = .ok (.iconst 1, 1) := by decide +kernel
theorem dX7_cat_63 : decode cX7_cat 63 = .ok (.goto 4, 3) := by decide +kernel
theorem dX7_cat_66 : decode cX7_cat 66 = .ok (.iconst 0, 1) := by decide +kernel
theorem dX7_cat_67 : decode cX7_cat 67 = .ok (.iadd, 1) := by decide +kernel
theorem dX7_cat_68 : decode cX7_cat 68 = .ok (.istore_n 3, 1) := by decide +kernel
theorem dX7_cat_69 : decode cX7_cat 69 = .ok (.iinc 4 1, 3) := by decide +kernel
theorem dX7_cat_72 : decode cX7_cat 72 = .ok (.goto (-33), 3) := by decide +kernel
theorem dX7_cat_75 : decode cX7_cat 75 = .ok (.iload_n 3, 1) := by decide +kernel
theorem dX7_cat_76 : decode cX7_cat 76 = .ok (.aload_n 0, 1) := by decide +kernel
theorem dX7_cat_77 : decode cX7_cat 77 = .ok (.invokevirtual 180, 3) := by decide +kernel
theorem dX7_cat_80 : decode cX7_cat 80 = .ok (.invokestatic 198, 3) := by decide +kernel
theorem dX7_cat_83 : decode cX7_cat 83 = .ok (.iload_n 2, 1) := by decide +kernel
theorem dX7_cat_84 : decode cX7_cat 84 = .ok (.invokestatic 247, 3) := by decide +kernel
theorem dX7_cat_87 : decode cX7_cat 87 = .ok (.ireturn, 1) := by decide +kernel
theorem dX7_mean_0 : decode cX7_mean 0 = .ok (.iload_n 1, 1) := by decide +kernel
theorem dX7_mean_1 : decode cX7_mean 1 = .ok (.i2l, 1) := by decide +kernel
theorem dX7_mean_2 : decode cX7_mean 2 = .ok (.lconst 0, 1) := by decide +kernel
theorem dX7_mean_3 : decode cX7_mean 3 = .ok (.lconst 1, 1) := by decide +kernel
theorem dX7_mean_4 : decode cX7_mean 4 = .ok (.invokestatic 78, 3) := by decide +kernel
theorem dX7_mean_7 : decode cX7_mean 7 = .ok (.ifCond .ne 6, 3) := by decide +kernel
theorem dX7_mean_10 : decode cX7_mean 10 = .ok (.bipush (-3), 2) := by decide +kernel
theorem dX7_mean_12 : decode cX7_mean 12 = .ok (.ireturn, 1) := by decide +kernel
theorem dX7_mean_13 : decode cX7_mean 13 = .ok (.aload_n 0, 1) := by decide +kernel
theorem dX7_mean_14 : decode cX7_mean 14 = .ok (.invokevirtual 180, 3) := by decide +kernel
theorem dX7_mean_17 : decode cX7_mean 17 = .ok (.ifCond .ne 6, 3) := by decide +kernel
theorem dX7_mean_20 : decode cX7_mean 20 = .ok (.bipush (-4), 2) := by decide +kernel
theorem dX7_mean_22 : decode cX7_mean 22 = .ok (.ireturn, 1) := by decide +kernel
theorem dX7_mean_23 : decode cX7_mean 23 = .ok (.iconst 0, 1) := by decide +kernel
theorem dX7_mean_24 : decode cX7_mean 24 = .ok (.istore_n 2, 1) := by decide +kernel
theorem dX7_mean_25 : decode cX7_mean 25 = .ok (.iconst 0, 1) := by decide +kernel
theorem dX7_mean_26 : decode cX7_mean 26 = .ok (.istore_n 3, 1) := by decide +kernel
theorem dX7_mean_27 : decode cX7_mean 27 = .ok (.iload_n 3, 1) := by decide +kernel
theorem dX7_mean_28 : decode cX7_mean 28 = .ok (.aload_n 0, 1) := by decide +kernel
theorem dX7_mean_29 : decode cX7_mean 29 = .ok (.getfield 74, 3) := by decide +kernel
theorem dX7_mean_32 : decode cX7_mean 32 = .ok (.if_icmp .ge 21, 3) := by decide +kernel
theorem dX7_mean_35 : decode cX7_mean 35 = .ok (.iload_n 2, 1) := by decide +kernel
theorem dX7_mean_36 : decode cX7_mean 36 = .ok (.aload_n 0, 1) := by decide +kernel
theorem dX7_mean_37 : decode cX7_mean 37 = .ok (.aload_n 0, 1) := by decide +kernel
theorem dX7_mean_38 : decode cX7_mean 38 = .ok (.iload_n 3, 1) := by decide +kernel
theorem dX7_mean_39 : decode cX7_mean 39 = .ok (.invokevirtual 186, 3) := by decide +kernel
theorem dX7_mean_42 : decode cX7_mean 42 = .ok (.invokevirtual 189, 3) := by decide +kernel
theorem dX7_mean_45 : decode cX7_mean 45 = .ok (.iadd, 1) := by decide +kernel
theorem dX7_mean_46 : decode cX7_mean 46 = .ok (.istore_n 2, 1) := by decide +kernel
theorem dX7_mean_47 : decode cX7_mean 47 = .ok (.iinc 3 1, 3) := by decide +kernel
theorem dX7_mean_50 : decode cX7_mean 50 = .ok (.goto (-23), 3) := by decide +kernel
theorem dX7_mean_53 : decode cX7_mean 53 = .ok (.iload_n 2, 1) := by decide +kernel
theorem dX7_mean_54 : decode cX7_mean 54 = .ok (.aload_n 0, 1) := by decide +kernel
theorem dX7_mean_55 : decode cX7_mean 55 = .ok (.invokevirtual 180, 3) := by decide +kernel
theorem dX7_mean_58 : decode cX7_mean 58 = .ok (.invokestatic 198, 3) := by decide +kernel
theorem dX7_mean_61 : decode cX7_mean 61 = .ok (.iload_n 1, 1) := by decide +kernel
theorem dX7_mean_62 : decode cX7_mean 62 = .ok (.invokestatic 247, 3) := by decide +kernel
theorem dX7_mean_65 : decode cX7_mean 65 = .ok (.ireturn, 1) := by decide +kernel
theorem dX7_whose_0 : decode cX7_whose 0 = .ok (.iload_n 1, 1) := by decide +kernel
theorem dX7_whose_1 : decode cX7_whose 1 = .ok (.i2l, 1) := by decide +kernel
theorem dX7_whose_2 : decode cX7_whose 2 = .ok (.lconst 0, 1) := by decide +kernel
theorem dX7_whose_3 : decode cX7_whose 3 = .ok (.iconst 1, 1) := by decide +kernel
theorem dX7_whose_4 : decode cX7_whose 4 = .ok (.aload_n 0, 1) := by decide +kernel
theorem dX7_whose_5 : decode cX7_whose 5 = .ok (.getfield 74, 3) := by decide +kernel
theorem dX7_whose_8 : decode cX7_whose 8 = .ok (.ishl, 1) := by decide +kernel
theorem dX7_whose_9 : decode cX7_whose 9 = .ok (.iconst 1, 1) := by decide +kernel
theorem dX7_whose_10 : decode cX7_whose 10 = .ok (.isub, 1) := by decide +kernel
theorem dX7_whose_11 : decode cX7_whose 11 = .ok (.i2l, 1) := by decide +kernel
theorem dX7_whose_12 : decode cX7_whose 12 = .ok (.invokestatic 78, 3) := by decide +kernel
theorem dX7_whose_15 : decode cX7_whose 15 = .ok (.ifCond .ne 6, 3) := by decide +kernel
theorem dX7_whose_18 : decode cX7_whose 18 = .ok (.bipush (-2), 2) := by decide +kernel
theorem dX7_whose_20 : decode cX7_whose 20 = .ok (.ireturn, 1) := by decide +kernel
theorem dX7_whose_21 : decode cX7_whose 21 = .ok (.iconst 0, 1) := by decide +kernel
theorem dX7_whose_22 : decode cX7_whose 22 = .ok (.istore_n 2, 1) := by decide +kernel
theorem dX7_whose_23 : decode cX7_whose 23 = .ok (.iconst 0, 1) := by decide +kernel
theorem dX7_whose_24 : decode cX7_whose 24 = .ok (.istore_n 3, 1) := by decide +kernel
theorem dX7_whose_25 : decode cX7_whose 25 = .ok (.iload_n 3, 1) := by decide +kernel
theorem dX7_whose_26 : decode cX7_whose 26 = .ok (.aload_n 0, 1) := by decide +kernel
theorem dX7_whose_27 : decode cX7_whose 27 = .ok (.getfield 74, 3) := by decide +kernel
theorem dX7_whose_30 : decode cX7_whose 30 = .ok (.if_icmp .ge 28, 3) := by decide +kernel
theorem dX7_whose_33 : decode cX7_whose 33 = .ok (.iload_n 2, 1) := by decide +kernel
theorem dX7_whose_34 : decode cX7_whose 34 = .ok (.aload_n 0, 1) := by decide +kernel
theorem dX7_whose_35 : decode cX7_whose 35 = .ok (.iload_n 3, 1) := by decide +kernel
theorem dX7_whose_36 : decode cX7_whose 36 = .ok (.invokevirtual 186, 3) := by decide +kernel
theorem dX7_whose_39 : decode cX7_whose 39 = .ok (.iload_n 1, 1) := by decide +kernel
theorem dX7_whose_40 : decode cX7_whose 40 = .ok (.if_icmp .ne 9, 3) := by decide +kernel
theorem dX7_whose_43 : decode cX7_whose 43 = .ok (.iconst 1, 1) := by decide +kernel
theorem dX7_whose_44 : decode cX7_whose 44 = .ok (.iload_n 3, 1) := by decide +kernel
theorem dX7_whose_45 : decode cX7_whose 45 = .ok (.ishl, 1) := by decide +kernel
theorem dX7_whose_46 : decode cX7_whose 46 = .ok (.goto 4, 3) := by decide +kernel
theorem dX7_whose_49 : decode cX7_whose 49 = .ok (.iconst 0, 1) := by decide +kernel
theorem dX7_whose_50 : decode cX7_whose 50 = .ok (.ior, 1) := by decide +kernel
theorem dX7_whose_51 : decode cX7_whose 51 = .ok (.istore_n 2, 1) := by decide +kernel
theorem dX7_whose_52 : decode cX7_whose 52 = .ok (.iinc 3 1, 3) := by decide +kernel
theorem dX7_whose_55 : decode cX7_whose 55 = .ok (.goto (-30), 3) := by decide +kernel
theorem dX7_whose_58 : decode cX7_whose 58 = .ok (.iload_n 2, 1) := by decide +kernel
theorem dX7_whose_59 : decode cX7_whose 59 = .ok (.ireturn, 1) := by decide +kernel
theorem dX7_fourth_0 : decode cX7_fourth 0 = .ok (.iload_n 1, 1) := by decide +kernel
theorem dX7_fourth_1 : decode cX7_fourth 1 = .ok (.i2l, 1) := by decide +kernel
theorem dX7_fourth_2 : decode cX7_fourth 2 = .ok (.lconst 0, 1) := by decide +kernel
theorem dX7_fourth_3 : decode cX7_fourth 3 = .ok (.lconst 1, 1) := by decide +kernel
theorem dX7_fourth_4 : decode cX7_fourth 4 = .ok (.invokestatic 78, 3) := by decide +kernel
theorem dX7_fourth_7 : decode cX7_fourth 7 = .ok (.ifCond .ne 6, 3) := by decide +kernel
theorem dX7_fourth_10 : decode cX7_fourth 10 = .ok (.bipush (-3), 2) := by decide +kernel
theorem dX7_fourth_12 : decode cX7_fourth 12 = .ok (.ireturn, 1) := by decide +kernel
theorem dX7_fourth_13 : decode cX7_fourth 13 = .ok (.iconst (-1), 1) := by decide +kernel
theorem dX7_fourth_14 : decode cX7_fourth 14 = .ok (.istore_n 2, 1) := by decide +kernel
theorem dX7_fourth_15 : decode cX7_fourth 15 = .ok (.iconst (-1), 1) := by decide +kernel
theorem dX7_fourth_16 : decode cX7_fourth 16 = .ok (.istore_n 3, 1) := by decide +kernel
theorem dX7_fourth_17 : decode cX7_fourth 17 = .ok (.iconst 0, 1) := by decide +kernel
theorem dX7_fourth_18 : decode cX7_fourth 18 = .ok (.istore 4, 2) := by decide +kernel
theorem dX7_fourth_20 : decode cX7_fourth 20 = .ok (.iload 4, 2) := by decide +kernel
theorem dX7_fourth_22 : decode cX7_fourth 22 = .ok (.aload_n 0, 1) := by decide +kernel
theorem dX7_fourth_23 : decode cX7_fourth 23 = .ok (.getfield 74, 3) := by decide +kernel
theorem dX7_fourth_26 : decode cX7_fourth 26 = .ok (.if_icmp .ge 46, 3) := by decide +kernel
theorem dX7_fourth_29 : decode cX7_fourth 29 = .ok (.aload_n 0, 1) := by decide +kernel
theorem dX7_fourth_30 : decode cX7_fourth 30 = .ok (.iload 4, 2) := by decide +kernel
theorem dX7_fourth_32 : decode cX7_fourth 32 = .ok (.invokevirtual 186, 3) := by decide +kernel
theorem dX7_fourth_35 : decode cX7_fourth 35 = .ok (.istore 5, 2) := by decide +kernel
theorem dX7_fourth_37 : decode cX7_fourth 37 = .ok (.iload 5, 2) := by decide +kernel
theorem dX7_fourth_39 : decode cX7_fourth 39 = .ok (.ifCond .eq 27, 3) := by decide +kernel
theorem dX7_fourth_42 : decode cX7_fourth 42 = .ok (.iload_n 2, 1) := by decide +kernel
theorem dX7_fourth_43 : decode cX7_fourth 43 = .ok (.ifCond .lt 13, 3) := by decide +kernel
theorem dX7_fourth_46 : decode cX7_fourth 46 = .ok (.aload_n 0, 1) := by decide +kernel
theorem dX7_fourth_47 : decode cX7_fourth 47 = .ok (.iload 5, 2) := by decide +kernel
theorem dX7_fourth_49 : decode cX7_fourth 49 = .ok (.invokevirtual 189, 3) := by decide +kernel
theorem dX7_fourth_52 : decode cX7_fourth 52 = .ok (.iload_n 3, 1) := by decide +kernel
theorem dX7_fourth_53 : decode cX7_fourth 53 = .ok (.if_icmp .ge 13, 3) := by decide +kernel
theorem dX7_fourth_56 : decode cX7_fourth 56 = .ok (.iload 4, 2) := by decide +kernel
theorem dX7_fourth_58 : decode cX7_fourth 58 = .ok (.istore_n 2, 1) := by decide +kernel
theorem dX7_fourth_59 : decode cX7_fourth 59 = .ok (.aload_n 0, 1) := by decide +kernel
theorem dX7_fourth_60 : decode cX7_fourth 60 = .ok (.iload 5, 2) := by decide +kernel
theorem dX7_fourth_62 : decode cX7_fourth 62 = .ok (.invokevirtual 189, 3) := by decide +kernel
theorem dX7_fourth_65 : decode cX7_fourth 65 = .ok (.istore_n 3, 1) := by decide +kernel
theorem dX7_fourth_66 : decode cX7_fourth 66 = .ok (.iinc 4 1, 3) := by decide +kernel
theorem dX7_fourth_69 : decode cX7_fourth 69 = .ok (.goto (-49), 3) := by decide +kernel
theorem dX7_fourth_72 : decode cX7_fourth 72 = .ok (.iload_n 1, 1) := by decide +kernel
theorem dX7_fourth_73 : decode cX7_fourth 73 = .ok (.ifCond .ne 7, 3) := by decide +kernel
theorem dX7_fourth_76 : decode cX7_fourth 76 = .ok (.iload_n 2, 1) := by decide +kernel
theorem dX7_fourth_77 : decode cX7_fourth 77 = .ok (.goto 4, 3) := by decide +kernel
theorem dX7_fourth_80 : decode cX7_fourth 80 = .ok (.iload_n 3, 1) := by decide +kernel
theorem dX7_fourth_81 : decode cX7_fourth 81 = .ok (.ireturn, 1) := by decide +kernel
theorem dX7_count_0 : decode cX7_count 0 = .ok (.iconst 0, 1) := by decide +kernel
theorem dX7_count_1 : decode cX7_count 1 = .ok (.istore_n 2, 1) := by decide +kernel
theorem dX7_count_2 : decode cX7_count 2 = .ok (.iconst 0, 1) := by decide +kernel
theorem dX7_count_3 : decode cX7_count 3 = .ok (.istore_n 3, 1) := by decide +kernel
theorem dX7_count_4 : decode cX7_count 4 = .ok (.iconst 0, 1) := by decide +kernel
theorem dX7_count_5 : decode cX7_count 5 = .ok (.istore 4, 2) := by decide +kernel
theorem dX7_count_7 : decode cX7_count 7 = .ok (.iload 4, 2) := by decide +kernel
theorem dX7_count_9 : decode cX7_count 9 = .ok (.aload_n 0, 1) := by decide +kernel
theorem dX7_count_10 : decode cX7_count 10 = .ok (.getfield 74, 3) := by decide +kernel
theorem dX7_count_13 : decode cX7_count 13 = .ok (.if_icmp .ge 41, 3) := by decide +kernel
theorem dX7_count_16 : decode cX7_count 16 = .ok (.iload_n 2, 1) := by decide +kernel
theorem dX7_count_17 : decode cX7_count 17 = .ok (.aload_n 0, 1) := by decide +kernel
theorem dX7_count_18 : decode cX7_count 18 = .ok (.getfield 25, 3) := by decide +kernel
theorem dX7_count_21 : decode cX7_count 21 = .ok (.bipush 32, 2) := by decide +kernel
theorem dX7_count_23 : decode cX7_count 23 = .ok (.iload 4, 2) := by decide +kernel
theorem dX7_count_25 : decode cX7_count 25 = .ok (.iadd, 1) := by decide +kernel
theorem dX7_count_26 : decode cX7_count 26 = .ok (.iaload, 1) := by decide +kernel
theorem dX7_count_27 : decode cX7_count 27 = .ok (.invokestatic 198, 3) := by decide +kernel
theorem dX7_count_30 : decode cX7_count 30 = .ok (.iadd, 1) := by decide +kernel
theorem dX7_count_31 : decode cX7_count 31 = .ok (.istore_n 2, 1) := by decide +kernel
theorem dX7_count_32 : decode cX7_count 32 = .ok (.iload_n 3, 1) := by decide +kernel
theorem dX7_count_33 : decode cX7_count 33 = .ok (.aload_n 0, 1) := by decide +kernel
theorem dX7_count_34 : decode cX7_count 34 = .ok (.getfield 25, 3) := by decide +kernel
theorem dX7_count_37 : decode cX7_count 37 = .ok (.bipush 24, 2) := by decide +kernel
theorem dX7_count_39 : decode cX7_count 39 = .ok (.iload 4, 2) := by decide +kernel
theorem dX7_count_41 : decode cX7_count 41 = .ok (.iadd, 1) := by decide +kernel
theorem dX7_count_42 : decode cX7_count 42 = .ok (.iaload, 1) := by decide +kernel
theorem dX7_count_43 : decode cX7_count 43 = .ok (.invokestatic 198, 3) := by decide +kernel
theorem dX7_count_46 : decode cX7_count 46 = .ok (.iadd, 1) := by decide +kernel
theorem dX7_count_47 : decode cX7_count 47 = .ok (.istore_n 3, 1) := by decide +kernel
theorem dX7_count_48 : decode cX7_count 48 = .ok (.iinc 4 1, 3) := by decide +kernel
theorem dX7_count_51 : decode cX7_count 51 = .ok (.goto (-44), 3) := by decide +kernel
theorem dX7_count_54 : decode cX7_count 54 = .ok (.iload_n 1, 1) := by decide +kernel
theorem dX7_count_55 : decode cX7_count 55 = .ok (.tableswitch 96 0 8 #[49, 54, 59, 67, 72, 80, 84, 86, 91], 49) := by decide +kernel
theorem dX7_count_104 : decode cX7_count 104 = .ok (.aload_n 0, 1) := by decide +kernel
theorem dX7_count_105 : decode cX7_count 105 = .ok (.getfield 74, 3) := by decide +kernel
theorem dX7_count_108 : decode cX7_count 108 = .ok (.ireturn, 1) := by decide +kernel
theorem dX7_count_109 : decode cX7_count 109 = .ok (.aload_n 0, 1) := by decide +kernel
theorem dX7_count_110 : decode cX7_count 110 = .ok (.getfield 156, 3) := by decide +kernel
theorem dX7_count_113 : decode cX7_count 113 = .ok (.ireturn, 1) := by decide +kernel
theorem dX7_count_114 : decode cX7_count 114 = .ok (.aload_n 0, 1) := by decide +kernel
theorem dX7_count_115 : decode cX7_count 115 = .ok (.getfield 25, 3) := by decide +kernel
theorem dX7_count_118 : decode cX7_count 118 = .ok (.bipush 40, 2) := by decide +kernel
theorem dX7_count_120 : decode cX7_count 120 = .ok (.iaload, 1) := by decide +kernel
theorem dX7_count_121 : decode cX7_count 121 = .ok (.ireturn, 1) := by decide +kernel
theorem dX7_count_122 : decode cX7_count 122 = .ok (.aload_n 0, 1) := by decide +kernel
theorem dX7_count_123 : decode cX7_count 123 = .ok (.invokevirtual 180, 3) := by decide +kernel
theorem dX7_count_126 : decode cX7_count 126 = .ok (.ireturn, 1) := by decide +kernel
theorem dX7_count_127 : decode cX7_count 127 = .ok (.aload_n 0, 1) := by decide +kernel
theorem dX7_count_128 : decode cX7_count 128 = .ok (.getfield 25, 3) := by decide +kernel
theorem dX7_count_131 : decode cX7_count 131 = .ok (.bipush 41, 2) := by decide +kernel
theorem dX7_count_133 : decode cX7_count 133 = .ok (.iaload, 1) := by decide +kernel
theorem dX7_count_134 : decode cX7_count 134 = .ok (.ireturn, 1) := by decide +kernel
theorem dX7_count_135 : decode cX7_count 135 = .ok (.iload_n 2, 1) := by decide +kernel
theorem dX7_count_136 : decode cX7_count 136 = .ok (.iconst 2, 1) := by decide +kernel
theorem dX7_count_137 : decode cX7_count 137 = .ok (.idiv, 1) := by decide +kernel
theorem dX7_count_138 : decode cX7_count 138 = .ok (.ireturn, 1) := by decide +kernel
theorem dX7_count_139 : decode cX7_count 139 = .ok (.iload_n 3, 1) := by decide +kernel
theorem dX7_count_140 : decode cX7_count 140 = .ok (.ireturn, 1) := by decide +kernel
theorem dX7_count_141 : decode cX7_count 141 = .ok (.aload_n 0, 1) := by decide +kernel
theorem dX7_count_142 : decode cX7_count 142 = .ok (.getfield 166, 3) := by decide +kernel
theorem dX7_count_145 : decode cX7_count 145 = .ok (.ireturn, 1) := by decide +kernel
theorem dX7_count_146 : decode cX7_count 146 = .ok (.aload_n 0, 1) := by decide +kernel
theorem dX7_count_147 : decode cX7_count 147 = .ok (.getfield 84, 3) := by decide +kernel
theorem dX7_count_150 : decode cX7_count 150 = .ok (.ireturn, 1) := by decide +kernel
theorem dX7_count_151 : decode cX7_count 151 = .ok (.bipush (-3), 2) := by decide +kernel
theorem dX7_count_153 : decode cX7_count 153 = .ok (.ireturn, 1) := by decide +kernel
