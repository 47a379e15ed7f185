theorem dX0_init_0 : decode cX0_init 0 = .ok (.aload_n 0, 1) := by decide +kernel
theorem dX0_init_1 : decode cX0_init 1 = .ok (.invokespecial 3, 3) := by decide +kernel
theorem dX0_init_4 : decode cX0_init 4 = .ok (.aload_n 0, 1) := by decide +kernel
theorem dX0_init_5 : decode cX0_init 5 = .ok (.bipush 6, 2) := by decide +kernel
theorem dX0_init_7 : decode cX0_init 7 = .ok (.newarray .int, 2) := by decide +kernel
theorem dX0_init_9 : decode cX0_init 9 = .ok (.putfield 9, 3) := by decide +kernel
theorem dX0_init_12 : decode cX0_init 12 = .ok (.aload_n 0, 1) := by decide +kernel
theorem dX0_init_13 : decode cX0_init 13 = .ok (.bipush 6, 2) := by decide +kernel
theorem dX0_init_15 : decode cX0_init 15 = .ok (.newarray .int, 2) := by decide +kernel
theorem dX0_init_17 : decode cX0_init 17 = .ok (.putfield 15, 3) := by decide +kernel
theorem dX0_init_20 : decode cX0_init 20 = .ok (.aload_n 0, 1) := by decide +kernel
theorem dX0_init_21 : decode cX0_init 21 = .ok (.bipush 6, 2) := by decide +kernel
theorem dX0_init_23 : decode cX0_init 23 = .ok (.newarray .int, 2) := by decide +kernel
theorem dX0_init_25 : decode cX0_init 25 = .ok (.putfield 18, 3) := by decide +kernel
theorem dX0_init_28 : decode cX0_init 28 = .ok (.aload_n 0, 1) := by decide +kernel
theorem dX0_init_29 : decode cX0_init 29 = .ok (.aload_n 1, 1) := by decide +kernel
theorem dX0_init_30 : decode cX0_init 30 = .ok (.putfield 21, 3) := by decide +kernel
theorem dX0_init_33 : decode cX0_init 33 = .ok (.aload_n 0, 1) := by decide +kernel
theorem dX0_init_34 : decode cX0_init 34 = .ok (.aload_n 2, 1) := by decide +kernel
theorem dX0_init_35 : decode cX0_init 35 = .ok (.putfield 25, 3) := by decide +kernel
theorem dX0_init_38 : decode cX0_init 38 = .ok (.return_, 1) := by decide +kernel
theorem dX0_deal_0 : decode cX0_deal 0 = .ok (.aload_n 0, 1) := by decide +kernel
theorem dX0_deal_1 : decode cX0_deal 1 = .ok (.iconst 0, 1) := by decide +kernel
theorem dX0_deal_2 : decode cX0_deal 2 = .ok (.putfield 29, 3) := by decide +kernel
theorem dX0_deal_5 : decode cX0_deal 5 = .ok (.iconst 0, 1) := by decide +kernel
theorem dX0_deal_6 : decode cX0_deal 6 = .ok (.istore_n 1, 1) := by decide +kernel
theorem dX0_deal_7 : decode cX0_deal 7 = .ok (.iconst 0, 1) := by decide +kernel
theorem dX0_deal_8 : decode cX0_deal 8 = .ok (.istore_n 2, 1) := by decide +kernel
theorem dX0_deal_9 : decode cX0_deal 9 = .ok (.iload_n 2, 1) := by decide +kernel
theorem dX0_deal_10 : decode cX0_deal 10 = .ok (.aload_n 0, 1) := by decide +kernel
theorem dX0_deal_11 : decode cX0_deal 11 = .ok (.getfield 21, 3) := by decide +kernel
theorem dX0_deal_14 : decode cX0_deal 14 = .ok (.getfield 33, 3) := by decide +kernel
theorem dX0_deal_17 : decode cX0_deal 17 = .ok (.if_icmp .ge 57, 3) := by decide +kernel
theorem dX0_deal_20 : decode cX0_deal 20 = .ok (.aload_n 0, 1) := by decide +kernel
theorem dX0_deal_21 : decode cX0_deal 21 = .ok (.getfield 15, 3) := by decide +kernel
theorem dX0_deal_24 : decode cX0_deal 24 = .ok (.iload_n 2, 1) := by decide +kernel
theorem dX0_deal_25 : decode cX0_deal 25 = .ok (.aload_n 0, 1) := by decide +kernel
theorem dX0_deal_26 : decode cX0_deal 26 = .ok (.getfield 21, 3) := by decide +kernel
theorem dX0_deal_29 : decode cX0_deal 29 = .ok (.getfield 38, 3) := by decide +kernel
theorem dX0_deal_32 : decode cX0_deal 32 = .ok (.iload_n 2, 1) := by decide +kernel
theorem dX0_deal_33 : decode cX0_deal 33 = .ok (.iaload, 1) := by decide +kernel
theorem dX0_deal_34 : decode cX0_deal 34 = .ok (.iastore, 1) := by decide +kernel
theorem dX0_deal_35 : decode cX0_deal 35 = .ok (.aload_n 0, 1) := by decide +kernel
theorem dX0_deal_36 : decode cX0_deal 36 = .ok (.getfield 15, 3) := by decide +kernel
theorem dX0_deal_39 : decode cX0_deal 39 = .ok (.iload_n 2, 1) := by decide +kernel
theorem dX0_deal_40 : decode cX0_deal 40 = .ok (.iaload, 1) := by decide +kernel
theorem dX0_deal_41 : decode cX0_deal 41 = .ok (.aload_n 0, 1) := by decide +kernel
theorem dX0_deal_42 : decode cX0_deal 42 = .ok (.getfield 25, 3) := by decide +kernel
theorem dX0_deal_45 : decode cX0_deal 45 = .ok (.getfield 41, 3) := by decide +kernel
theorem dX0_deal_48 : decode cX0_deal 48 = .ok (.if_icmp .lt 20, 3) := by decide +kernel
theorem dX0_deal_51 : decode cX0_deal 51 = .ok (.aload_n 0, 1) := by decide +kernel
theorem dX0_deal_52 : decode cX0_deal 52 = .ok (.aload_n 0, 1) := by decide +kernel
theorem dX0_deal_53 : decode cX0_deal 53 = .ok (.getfield 15, 3) := by decide +kernel
theorem dX0_deal_56 : decode cX0_deal 56 = .ok (.iload_n 2, 1) := by decide +kernel
theorem dX0_deal_57 : decode cX0_deal 57 = .ok (.iaload, 1) := by decide +kernel
theorem dX0_deal_58 : decode cX0_deal 58 = .ok (.invokevirtual 46, 3) := by decide +kernel
theorem dX0_deal_61 : decode cX0_deal 61 = .ok (.iload_n 1, 1) := by decide +kernel
theorem dX0_deal_62 : decode cX0_deal 62 = .ok (.iload_n 2, 1) := by decide +kernel
theorem dX0_deal_63 : decode cX0_deal 63 = .ok (.invokestatic 50, 3) := by decide +kernel
theorem dX0_deal_66 : decode cX0_deal 66 = .ok (.ior, 1) := by decide +kernel
theorem dX0_deal_67 : decode cX0_deal 67 = .ok (.istore_n 1, 1) := by decide +kernel
theorem dX0_deal_68 : decode cX0_deal 68 = .ok (.iinc 2 1, 3) := by decide +kernel
theorem dX0_deal_71 : decode cX0_deal 71 = .ok (.goto (-62), 3) := by decide +kernel
theorem dX0_deal_74 : decode cX0_deal 74 = .ok (.aload_n 0, 1) := by decide +kernel
theorem dX0_deal_75 : decode cX0_deal 75 = .ok (.sipush 961, 3) := by decide +kernel
theorem dX0_deal_78 : decode cX0_deal 78 = .ok (.putfield 54, 3) := by decide +kernel
theorem dX0_deal_81 : decode cX0_deal 81 = .ok (.aload_n 0, 1) := by decide +kernel
theorem dX0_deal_82 : decode cX0_deal 82 = .ok (.iconst 0, 1) := by decide +kernel
theorem dX0_deal_83 : decode cX0_deal 83 = .ok (.iconst (-1), 1) := by decide +kernel
theorem dX0_deal_84 : decode cX0_deal 84 = .ok (.iload_n 1, 1) := by decide +kernel
theorem dX0_deal_85 : decode cX0_deal 85 = .ok (.aload_n 0, 1) := by decide +kernel
theorem dX0_deal_86 : decode cX0_deal 86 = .ok (.getfield 25, 3) := by decide +kernel
theorem dX0_deal_89 : decode cX0_deal 89 = .ok (.getfield 57, 3) := by decide +kernel
theorem dX0_deal_92 : decode cX0_deal 92 = .ok (.iconst 0, 1) := by decide +kernel
theorem dX0_deal_93 : decode cX0_deal 93 = .ok (.invokevirtual 60, 3) := by decide +kernel
theorem dX0_deal_96 : decode cX0_deal 96 = .ok (.return_, 1) := by decide +kernel
theorem dX0_addDay_0 : decode cX0_addDay 0 = .ok (.aload_n 0, 1) := by decide +kernel
theorem dX0_addDay_1 : decode cX0_addDay 1 = .ok (.getfield 29, 3) := by decide +kernel
theorem dX0_addDay_4 : decode cX0_addDay 4 = .ok (.bipush 6, 2) := by decide +kernel
theorem dX0_addDay_6 : decode cX0_addDay 6 = .ok (.if_icmp .lt 4, 3) := by decide +kernel
theorem dX0_addDay_9 : decode cX0_addDay 9 = .ok (.return_, 1) := by decide +kernel
theorem dX0_addDay_10 : decode cX0_addDay 10 = .ok (.aload_n 0, 1) := by decide +kernel
theorem dX0_addDay_11 : decode cX0_addDay 11 = .ok (.getfield 29, 3) := by decide +kernel
theorem dX0_addDay_14 : decode cX0_addDay 14 = .ok (.istore_n 2, 1) := by decide +kernel
theorem dX0_addDay_15 : decode cX0_addDay 15 = .ok (.iload_n 2, 1) := by decide +kernel
theorem dX0_addDay_16 : decode cX0_addDay 16 = .ok (.ifCond .le 35, 3) := by decide +kernel
theorem dX0_addDay_19 : decode cX0_addDay 19 = .ok (.aload_n 0, 1) := by decide +kernel
theorem dX0_addDay_20 : decode cX0_addDay 20 = .ok (.getfield 9, 3) := by decide +kernel
theorem dX0_addDay_23 : decode cX0_addDay 23 = .ok (.iload_n 2, 1) := by decide +kernel
theorem dX0_addDay_24 : decode cX0_addDay 24 = .ok (.iconst 1, 1) := by decide +kernel
theorem dX0_addDay_25 : decode cX0_addDay 25 = .ok (.isub, 1) := by decide +kernel
theorem dX0_addDay_26 : decode cX0_addDay 26 = .ok (.iaload, 1) := by decide +kernel
theorem dX0_addDay_27 : decode cX0_addDay 27 = .ok (.iload_n 1, 1) := by decide +kernel
theorem dX0_addDay_28 : decode cX0_addDay 28 = .ok (.if_icmp .le 23, 3) := by decide +kernel
theorem dX0_addDay_31 : decode cX0_addDay 31 = .ok (.aload_n 0, 1) := by decide +kernel
theorem dX0_addDay_32 : decode cX0_addDay 32 = .ok (.getfield 9, 3) := by decide +kernel
theorem dX0_addDay_35 : decode cX0_addDay 35 = .ok (.iload_n 2, 1) := by decide +kernel
theorem dX0_addDay_36 : decode cX0_addDay 36 = .ok (.aload_n 0, 1) := by decide +kernel
theorem dX0_addDay_37 : decode cX0_addDay 37 = .ok (.getfield 9, 3) := by decide +kernel
theorem dX0_addDay_40 : decode cX0_addDay 40 = .ok (.iload_n 2, 1) := by decide +kernel
theorem dX0_addDay_41 : decode cX0_addDay 41 = .ok (.iconst 1, 1) := by decide +kernel
theorem dX0_addDay_42 : decode cX0_addDay 42 = .ok (.isub, 1) := by decide +kernel
theorem dX0_addDay_43 : decode cX0_addDay 43 = .ok (.iaload, 1) := by decide +kernel
theorem dX0_addDay_44 : decode cX0_addDay 44 = .ok (.iastore, 1) := by decide +kernel
theorem dX0_addDay_45 : decode cX0_addDay 45 = .ok (.iinc 2 (-1), 3) := by decide +kernel
theorem dX0_addDay_48 : decode cX0_addDay 48 = .ok (.goto (-33), 3) := by decide +kernel
theorem dX0_addDay_51 : decode cX0_addDay 51 = .ok (.aload_n 0, 1) := by decide +kernel
theorem dX0_addDay_52 : decode cX0_addDay 52 = .ok (.getfield 9, 3) := by decide +kernel
theorem dX0_addDay_55 : decode cX0_addDay 55 = .ok (.iload_n 2, 1) := by decide +kernel
theorem dX0_addDay_56 : decode cX0_addDay 56 = .ok (.iload_n 1, 1) := by decide +kernel
theorem dX0_addDay_57 : decode cX0_addDay 57 = .ok (.iastore, 1) := by decide +kernel
theorem dX0_addDay_58 : decode cX0_addDay 58 = .ok (.aload_n 0, 1) := by decide +kernel
theorem dX0_addDay_59 : decode cX0_addDay 59 = .ok (.dup, 1) := by decide +kernel
theorem dX0_addDay_60 : decode cX0_addDay 60 = .ok (.getfield 29, 3) := by decide +kernel
theorem dX0_addDay_63 : decode cX0_addDay 63 = .ok (.iconst 1, 1) := by decide +kernel
theorem dX0_addDay_64 : decode cX0_addDay 64 = .ok (.iadd, 1) := by decide +kernel
theorem dX0_addDay_65 : decode cX0_addDay 65 = .ok (.putfield 29, 3) := by decide +kernel
theorem dX0_addDay_68 : decode cX0_addDay 68 = .ok (.return_, 1) := by decide +kernel
theorem dX0_dealFrom_0 : decode cX0_dealFrom 0 = .ok (.iload 5, 2) := by decide +kernel
theorem dX0_dealFrom_2 : decode cX0_dealFrom 2 = .ok (.aload_n 0, 1) := by decide +kernel
theorem dX0_dealFrom_3 : decode cX0_dealFrom 3 = .ok (.getfield 54, 3) := by decide +kernel
theorem dX0_dealFrom_6 : decode cX0_dealFrom 6 = .ok (.if_icmp .le 4, 3) := by decide +kernel
theorem dX0_dealFrom_9 : decode cX0_dealFrom 9 = .ok (.return_, 1) := by decide +kernel
theorem dX0_dealFrom_10 : decode cX0_dealFrom 10 = .ok (.iload_n 1, 1) := by decide +kernel
theorem dX0_dealFrom_11 : decode cX0_dealFrom 11 = .ok (.aload_n 0, 1) := by decide +kernel
theorem dX0_dealFrom_12 : decode cX0_dealFrom 12 = .ok (.getfield 29, 3) := by decide +kernel
theorem dX0_dealFrom_15 : decode cX0_dealFrom 15 = .ok (.if_icmp .lt 10, 3) := by decide +kernel
theorem dX0_dealFrom_18 : decode cX0_dealFrom 18 = .ok (.aload_n 0, 1) := by decide +kernel
theorem dX0_dealFrom_19 : decode cX0_dealFrom 19 = .ok (.iload 5, 2) := by decide +kernel
theorem dX0_dealFrom_21 : decode cX0_dealFrom 21 = .ok (.invokevirtual 64, 3) := by decide +kernel
theorem dX0_dealFrom_24 : decode cX0_dealFrom 24 = .ok (.return_, 1) := by decide +kernel
theorem dX0_dealFrom_25 : decode cX0_dealFrom 25 = .ok (.aload_n 0, 1) := by decide +kernel
theorem dX0_dealFrom_26 : decode cX0_dealFrom 26 = .ok (.getfield 9, 3) := by decide +kernel
theorem dX0_dealFrom_29 : decode cX0_dealFrom 29 = .ok (.iload_n 1, 1) := by decide +kernel
theorem dX0_dealFrom_30 : decode cX0_dealFrom 30 = .ok (.iaload, 1) := by decide +kernel
theorem dX0_dealFrom_31 : decode cX0_dealFrom 31 = .ok (.istore 6, 2) := by decide +kernel
theorem dX0_dealFrom_33 : decode cX0_dealFrom 33 = .ok (.aload_n 0, 1) := by decide +kernel
theorem dX0_dealFrom_34 : decode cX0_dealFrom 34 = .ok (.getfield 21, 3) := by decide +kernel
theorem dX0_dealFrom_37 : decode cX0_dealFrom 37 = .ok (.iload 4, 2) := by decide +kernel
theorem dX0_dealFrom_39 : decode cX0_dealFrom 39 = .ok (.iload 6, 2) := by decide +kernel
theorem dX0_dealFrom_41 : decode cX0_dealFrom 41 = .ok (.invokevirtual 67, 3) := by decide +kernel
theorem dX0_dealFrom_44 : decode cX0_dealFrom 44 = .ok (.istore 7, 2) := by decide +kernel
theorem dX0_dealFrom_46 : decode cX0_dealFrom 46 = .ok (.iload_n 1, 1) := by decide +kernel
theorem dX0_dealFrom_47 : decode cX0_dealFrom 47 = .ok (.ifCond .le 20, 3) := by decide +kernel
theorem dX0_dealFrom_50 : decode cX0_dealFrom 50 = .ok (.aload_n 0, 1) := by decide +kernel
theorem dX0_dealFrom_51 : decode cX0_dealFrom 51 = .ok (.getfield 9, 3) := by decide +kernel
theorem dX0_dealFrom_54 : decode cX0_dealFrom 54 = .ok (.iload_n 1, 1) := by decide +kernel
theorem dX0_dealFrom_55 : decode cX0_dealFrom 55 = .ok (.iconst 1, 1) := by decide +kernel
theorem dX0_dealFrom_56 : decode cX0_dealFrom 56 = .ok (.isub, 1) := by decide +kernel
theorem dX0_dealFrom_57 : decode cX0_dealFrom 57 = .ok (.iaload, 1) := by decide +kernel
theorem dX0_dealFrom_58 : decode cX0_dealFrom 58 = .ok (.iload 6, 2) := by decide +kernel
theorem dX0_dealFrom_60 : decode cX0_dealFrom 60 = .ok (.if_icmp .ne 7, 3) := by decide +kernel
theorem dX0_dealFrom_63 : decode cX0_dealFrom 63 = .ok (.iconst 1, 1) := by decide +kernel
theorem dX0_dealFrom_64 : decode cX0_dealFrom 64 = .ok (.goto 4, 3) := by decide +kernel
theorem dX0_dealFrom_67 : decode cX0_dealFrom 67 = .ok (.iconst 0, 1) := by decide +kernel
theorem dX0_dealFrom_68 : decode cX0_dealFrom 68 = .ok (.istore 8, 2) := by decide +kernel
theorem dX0_dealFrom_70 : decode cX0_dealFrom 70 = .ok (.iload 8, 2) := by decide +kernel
theorem dX0_dealFrom_72 : decode cX0_dealFrom 72 = .ok (.ifCond .eq 9, 3) := by decide +kernel
theorem dX0_dealFrom_75 : decode cX0_dealFrom 75 = .ok (.iload_n 2, 1) := by decide +kernel
theorem dX0_dealFrom_76 : decode cX0_dealFrom 76 = .ok (.iconst 1, 1) := by decide +kernel
theorem dX0_dealFrom_77 : decode cX0_dealFrom 77 = .ok (.iadd, 1) := by decide +kernel
theorem dX0_dealFrom_78 : decode cX0_dealFrom 78 = .ok (.goto 4, 3) := by decide +kernel
theorem dX0_dealFrom_81 : decode cX0_dealFrom 81 = .ok (.iconst 0, 1) := by decide +kernel
theorem dX0_dealFrom_82 : decode cX0_dealFrom 82 = .ok (.istore 9, 2) := by decide +kernel
theorem dX0_dealFrom_84 : decode cX0_dealFrom 84 = .ok (.iload 9, 2) := by decide +kernel
theorem dX0_dealFrom_86 : decode cX0_dealFrom 86 = .ok (.aload_n 0, 1) := by decide +kernel
theorem dX0_dealFrom_87 : decode cX0_dealFrom 87 = .ok (.getfield 21, 3) := by decide +kernel
theorem dX0_dealFrom_90 : decode cX0_dealFrom 90 = .ok (.getfield 33, 3) := by decide +kernel
theorem dX0_dealFrom_93 : decode cX0_dealFrom 93 = .ok (.if_icmp .ge 30, 3) := by decide +kernel
theorem dX0_dealFrom_96 : decode cX0_dealFrom 96 = .ok (.iload_n 3, 1) := by decide +kernel
theorem dX0_dealFrom_97 : decode cX0_dealFrom 97 = .ok (.iload 9, 2) := by decide +kernel
theorem dX0_dealFrom_99 : decode cX0_dealFrom 99 = .ok (.invokestatic 71, 3) := by decide +kernel
theorem dX0_dealFrom_102 : decode cX0_dealFrom 102 = .ok (.ifCond .eq 15, 3) := by decide +kernel
theorem dX0_dealFrom_105 : decode cX0_dealFrom 105 = .ok (.aload_n 0, 1) := by decide +kernel
theorem dX0_dealFrom_106 : decode cX0_dealFrom 106 = .ok (.iload 9, 2) := by decide +kernel
theorem dX0_dealFrom_108 : decode cX0_dealFrom 108 = .ok (.iload_n 1, 1) := by decide +kernel
theorem dX0_dealFrom_109 : decode cX0_dealFrom 109 = .ok (.iload_n 3, 1) := by decide +kernel
theorem dX0_dealFrom_110 : decode cX0_dealFrom 110 = .ok (.iload 7, 2) := by decide +kernel
theorem dX0_dealFrom_112 : decode cX0_dealFrom 112 = .ok (.iload 5, 2) := by decide +kernel
theorem dX0_dealFrom_114 : decode cX0_dealFrom 114 = .ok (.invokevirtual 75, 3) := by decide +kernel
theorem dX0_dealFrom_117 : decode cX0_dealFrom 117 = .ok (.iinc 9 1, 3) := by decide +kernel
theorem dX0_dealFrom_120 : decode cX0_dealFrom 120 = .ok (.goto (-36), 3) := by decide +kernel
theorem dX0_dealFrom_123 : decode cX0_dealFrom 123 = .ok (.return_, 1) := by decide +kernel
theorem dX0_dealTo_0 : decode cX0_dealTo 0 = .ok (.aload_n 0, 1) := by decide +kernel
theorem dX0_dealTo_1 : decode cX0_dealTo 1 = .ok (.getfield 9, 3) := by decide +kernel
theorem dX0_dealTo_4 : decode cX0_dealTo 4 = .ok (.iload_n 2, 1) := by decide +kernel
theorem dX0_dealTo_5 : decode cX0_dealTo 5 = .ok (.iaload, 1) := by decide +kernel
theorem dX0_dealTo_6 : decode cX0_dealTo 6 = .ok (.istore 6, 2) := by decide +kernel
theorem dX0_dealTo_8 : decode cX0_dealTo 8 = .ok (.aload_n 0, 1) := by decide +kernel
theorem dX0_dealTo_9 : decode cX0_dealTo 9 = .ok (.getfield 25, 3) := by decide +kernel
theorem dX0_dealTo_12 : decode cX0_dealTo 12 = .ok (.aload_n 0, 1) := by decide +kernel
theorem dX0_dealTo_13 : decode cX0_dealTo 13 = .ok (.getfield 21, 3) := by decide +kernel
theorem dX0_dealTo_16 : decode cX0_dealTo 16 = .ok (.getfield 78, 3) := by decide +kernel
theorem dX0_dealTo_19 : decode cX0_dealTo 19 = .ok (.iload_n 1, 1) := by decide +kernel
theorem dX0_dealTo_20 : decode cX0_dealTo 20 = .ok (.iaload, 1) := by decide +kernel
theorem dX0_dealTo_21 : decode cX0_dealTo 21 = .ok (.iload 4, 2) := by decide +kernel
theorem dX0_dealTo_23 : decode cX0_dealTo 23 = .ok (.invokevirtual 81, 3) := by decide +kernel
theorem dX0_dealTo_26 : decode cX0_dealTo 26 = .ok (.istore 7, 2) := by decide +kernel
theorem dX0_dealTo_28 : decode cX0_dealTo 28 = .ok (.aload_n 0, 1) := by decide +kernel
theorem dX0_dealTo_29 : decode cX0_dealTo 29 = .ok (.getfield 15, 3) := by decide +kernel
theorem dX0_dealTo_32 : decode cX0_dealTo 32 = .ok (.iload_n 1, 1) := by decide +kernel
theorem dX0_dealTo_33 : decode cX0_dealTo 33 = .ok (.iload 6, 2) := by decide +kernel
theorem dX0_dealTo_35 : decode cX0_dealTo 35 = .ok (.iastore, 1) := by decide +kernel
theorem dX0_dealTo_36 : decode cX0_dealTo 36 = .ok (.aload_n 0, 1) := by decide +kernel
theorem dX0_dealTo_37 : decode cX0_dealTo 37 = .ok (.iload_n 2, 1) := by decide +kernel
theorem dX0_dealTo_38 : decode cX0_dealTo 38 = .ok (.iconst 1, 1) := by decide +kernel
theorem dX0_dealTo_39 : decode cX0_dealTo 39 = .ok (.iadd, 1) := by decide +kernel
theorem dX0_dealTo_40 : decode cX0_dealTo 40 = .ok (.iload_n 1, 1) := by decide +kernel
theorem dX0_dealTo_41 : decode cX0_dealTo 41 = .ok (.iload_n 3, 1) := by decide +kernel
theorem dX0_dealTo_42 : decode cX0_dealTo 42 = .ok (.iload_n 1, 1) := by decide +kernel
theorem dX0_dealTo_43 : decode cX0_dealTo 43 = .ok (.invokestatic 50, 3) := by decide +kernel
theorem dX0_dealTo_46 : decode cX0_dealTo 46 = .ok (.iconst (-1), 1) := by decide +kernel
theorem dX0_dealTo_47 : decode cX0_dealTo 47 = .ok (.ixor, 1) := by decide +kernel
theorem dX0_dealTo_48 : decode cX0_dealTo 48 = .ok (.iand, 1) := by decide +kernel
theorem dX0_dealTo_49 : decode cX0_dealTo 49 = .ok (.iload 4, 2) := by decide +kernel
theorem dX0_dealTo_51 : decode cX0_dealTo 51 = .ok (.iload 7, 2) := by decide +kernel
theorem dX0_dealTo_53 : decode cX0_dealTo 53 = .ok (.iconst (-1), 1) := by decide +kernel
theorem dX0_dealTo_54 : decode cX0_dealTo 54 = .ok (.ixor, 1) := by decide +kernel
theorem dX0_dealTo_55 : decode cX0_dealTo 55 = .ok (.iand, 1) := by decide +kernel
theorem dX0_dealTo_56 : decode cX0_dealTo 56 = .ok (.iload 5, 2) := by decide +kernel
theorem dX0_dealTo_58 : decode cX0_dealTo 58 = .ok (.aload_n 0, 1) := by decide +kernel
theorem dX0_dealTo_59 : decode cX0_dealTo 59 = .ok (.getfield 21, 3) := by decide +kernel
theorem dX0_dealTo_62 : decode cX0_dealTo 62 = .ok (.iload 7, 2) := by decide +kernel
theorem dX0_dealTo_64 : decode cX0_dealTo 64 = .ok (.iload 6, 2) := by decide +kernel
theorem dX0_dealTo_66 : decode cX0_dealTo 66 = .ok (.invokevirtual 84, 3) := by decide +kernel
theorem dX0_dealTo_69 : decode cX0_dealTo 69 = .ok (.iadd, 1) := by decide +kernel
theorem dX0_dealTo_70 : decode cX0_dealTo 70 = .ok (.invokevirtual 60, 3) := by decide +kernel
theorem dX0_dealTo_73 : decode cX0_dealTo 73 = .ok (.return_, 1) := by decide +kernel
theorem dX0_take_0 : decode cX0_take 0 = .ok (.iload_n 1, 1) := by decide +kernel
theorem dX0_take_1 : decode cX0_take 1 = .ok (.aload_n 0, 1) := by decide +kernel
theorem dX0_take_2 : decode cX0_take 2 = .ok (.getfield 54, 3) := by decide +kernel
theorem dX0_take_5 : decode cX0_take 5 = .ok (.if_icmp .lt 10, 3) := by decide +kernel
theorem dX0_take_8 : decode cX0_take 8 = .ok (.aload_n 0, 1) := by decide +kernel
theorem dX0_take_9 : decode cX0_take 9 = .ok (.invokevirtual 87, 3) := by decide +kernel
theorem dX0_take_12 : decode cX0_take 12 = .ok (.ifCond .eq 23, 3) := by decide +kernel
theorem dX0_take_15 : decode cX0_take 15 = .ok (.aload_n 0, 1) := by decide +kernel
theorem dX0_take_16 : decode cX0_take 16 = .ok (.iload_n 1, 1) := by decide +kernel
theorem dX0_take_17 : decode cX0_take 17 = .ok (.putfield 54, 3) := by decide +kernel
theorem dX0_take_20 : decode cX0_take 20 = .ok (.aload_n 0, 1) := by decide +kernel
theorem dX0_take_21 : decode cX0_take 21 = .ok (.getfield 15, 3) := by decide +kernel
theorem dX0_take_24 : decode cX0_take 24 = .ok (.iconst 0, 1) := by decide +kernel
theorem dX0_take_25 : decode cX0_take 25 = .ok (.aload_n 0, 1) := by decide +kernel
theorem dX0_take_26 : decode cX0_take 26 = .ok (.getfield 18, 3) := by decide +kernel
theorem dX0_take_29 : decode cX0_take 29 = .ok (.iconst 0, 1) := by decide +kernel
theorem dX0_take_30 : decode cX0_take 30 = .ok (.bipush 6, 2) := by decide +kernel
theorem dX0_take_32 : decode cX0_take 32 = .ok (.invokestatic 91, 3) := by decide +kernel
theorem dX0_take_35 : decode cX0_take 35 = .ok (.return_, 1) := by decide +kernel
theorem dX0_isAhead_0 : decode cX0_isAhead 0 = .ok (.iconst 0, 1) := by decide +kernel
theorem dX0_isAhead_1 : decode cX0_isAhead 1 = .ok (.istore_n 1, 1) := by decide +kernel
theorem dX0_isAhead_2 : decode cX0_isAhead 2 = .ok (.iload_n 1, 1) := by decide +kernel
theorem dX0_isAhead_3 : decode cX0_isAhead 3 = .ok (.aload_n 0, 1) := by decide +kernel
theorem dX0_isAhead_4 : decode cX0_isAhead 4 = .ok (.getfield 21, 3) := by decide +kernel
theorem dX0_isAhead_7 : decode cX0_isAhead 7 = .ok (.getfield 33, 3) := by decide +kernel
theorem dX0_isAhead_10 : decode cX0_isAhead 10 = .ok (.if_icmp .ge 45, 3) := by decide +kernel
theorem dX0_isAhead_13 : decode cX0_isAhead 13 = .ok (.aload_n 0, 1) := by decide +kernel
theorem dX0_isAhead_14 : decode cX0_isAhead 14 = .ok (.getfield 15, 3) := by decide +kernel
theorem dX0_isAhead_17 : decode cX0_isAhead 17 = .ok (.iload_n 1, 1) := by decide +kernel
theorem dX0_isAhead_18 : decode cX0_isAhead 18 = .ok (.iaload, 1) := by decide +kernel
theorem dX0_isAhead_19 : decode cX0_isAhead 19 = .ok (.aload_n 0, 1) := by decide +kernel
theorem dX0_isAhead_20 : decode cX0_isAhead 20 = .ok (.getfield 18, 3) := by decide +kernel
theorem dX0_isAhead_23 : decode cX0_isAhead 23 = .ok (.iload_n 1, 1) := by decide +kernel
theorem dX0_isAhead_24 : decode cX0_isAhead 24 = .ok (.iaload, 1) := by decide +kernel
theorem dX0_isAhead_25 : decode cX0_isAhead 25 = .ok (.if_icmp .eq 24, 3) := by decide +kernel
theorem dX0_isAhead_28 : decode cX0_isAhead 28 = .ok (.aload_n 0, 1) := by decide +kernel
theorem dX0_isAhead_29 : decode cX0_isAhead 29 = .ok (.getfield 15, 3) := by decide +kernel
theorem dX0_isAhead_32 : decode cX0_isAhead 32 = .ok (.iload_n 1, 1) := by decide +kernel
theorem dX0_isAhead_33 : decode cX0_isAhead 33 = .ok (.iaload, 1) := by decide +kernel
theorem dX0_isAhead_34 : decode cX0_isAhead 34 = .ok (.aload_n 0, 1) := by decide +kernel
theorem dX0_isAhead_35 : decode cX0_isAhead 35 = .ok (.getfield 18, 3) := by decide +kernel
theorem dX0_isAhead_38 : decode cX0_isAhead 38 = .ok (.iload_n 1, 1) := by decide +kernel
theorem dX0_isAhead_39 : decode cX0_isAhead 39 = .ok (.iaload, 1) := by decide +kernel
theorem dX0_isAhead_40 : decode cX0_isAhead 40 = .ok (.if_icmp .ge 7, 3) := by decide +kernel
theorem dX0_isAhead_43 : decode cX0_isAhead 43 = .ok (.iconst 1, 1) := by decide +kernel
theorem dX0_isAhead_44 : decode cX0_isAhead 44 = .ok (.goto 4, 3) := by decide +kernel
theorem dX0_isAhead_47 : decode cX0_isAhead 47 = .ok (.iconst 0, 1) := by decide +kernel
theorem dX0_isAhead_48 : decode cX0_isAhead 48 = .ok (.ireturn, 1) := by decide +kernel
theorem dX0_isAhead_49 : decode cX0_isAhead 49 = .ok (.iinc 1 1, 3) := by decide +kernel
theorem dX0_isAhead_52 : decode cX0_isAhead 52 = .ok (.goto (-50), 3) := by decide +kernel
theorem dX0_isAhead_55 : decode cX0_isAhead 55 = .ok (.iconst 0, 1) := by decide +kernel
theorem dX0_isAhead_56 : decode cX0_isAhead 56 = .ok (.ireturn, 1) := by decide +kernel
theorem dX1_init_0 : decode cX1_init 0 = .ok (.aload_n 0, 1) := by decide +kernel
theorem dX1_init_1 : decode cX1_init 1 = .ok (.invokespecial 3, 3) := by decide +kernel
theorem dX1_init_4 : decode cX1_init 4 = .ok (.aload_n 0, 1) := by decide +kernel
theorem dX1_init_5 : decode cX1_init 5 = .ok (.bipush 8, 2) := by decide +kernel
theorem dX1_init_7 : decode cX1_init 7 = .ok (.newarray .int, 2) := by decide +kernel
theorem dX1_init_9 : decode cX1_init 9 = .ok (.putfield 9, 3) := by decide +kernel
theorem dX1_init_12 : decode cX1_init 12 = .ok (.aload_n 0, 1) := by decide +kernel
theorem dX1_init_13 : decode cX1_init 13 = .ok (.bipush 8, 2) := by decide +kernel
theorem dX1_init_15 : decode cX1_init 15 = .ok (.newarray .int, 2) := by decide +kernel
theorem dX1_init_17 : decode cX1_init 17 = .ok (.putfield 15, 3) := by decide +kernel
theorem dX1_init_20 : decode cX1_init 20 = .ok (.aload_n 0, 1) := by decide +kernel
theorem dX1_init_21 : decode cX1_init 21 = .ok (.bipush 8, 2) := by decide +kernel
theorem dX1_init_23 : decode cX1_init 23 = .ok (.newarray .int, 2) := by decide +kernel
theorem dX1_init_25 : decode cX1_init 25 = .ok (.putfield 18, 3) := by decide +kernel
theorem dX1_init_28 : decode cX1_init 28 = .ok (.aload_n 0, 1) := by decide +kernel
theorem dX1_init_29 : decode cX1_init 29 = .ok (.bipush 8, 2) := by decide +kernel
theorem dX1_init_31 : decode cX1_init 31 = .ok (.newarray .int, 2) := by decide +kernel
theorem dX1_init_33 : decode cX1_init 33 = .ok (.putfield 21, 3) := by decide +kernel
theorem dX1_init_36 : decode cX1_init 36 = .ok (.aload_n 0, 1) := by decide +kernel
theorem dX1_init_37 : decode cX1_init 37 = .ok (.aload_n 1, 1) := by decide +kernel
theorem dX1_init_38 : decode cX1_init 38 = .ok (.putfield 24, 3) := by decide +kernel
theorem dX1_init_41 : decode cX1_init 41 = .ok (.return_, 1) := by decide +kernel
theorem dX1_begin_0 : decode cX1_begin 0 = .ok (.aload_n 0, 1) := by decide +kernel
theorem dX1_begin_1 : decode cX1_begin 1 = .ok (.iconst 0, 1) := by decide +kernel
theorem dX1_begin_2 : decode cX1_begin 2 = .ok (.putfield 28, 3) := by decide +kernel
theorem dX1_begin_5 : decode cX1_begin 5 = .ok (.aload_n 0, 1) := by decide +kernel
theorem dX1_begin_6 : decode cX1_begin 6 = .ok (.iconst 0, 1) := by decide +kernel
theorem dX1_begin_7 : decode cX1_begin 7 = .ok (.putfield 32, 3) := by decide +kernel
theorem dX1_begin_10 : decode cX1_begin 10 = .ok (.aload_n 0, 1) := by decide +kernel
theorem dX1_begin_11 : decode cX1_begin 11 = .ok (.aload_n 0, 1) := by decide +kernel
theorem dX1_begin_12 : decode cX1_begin 12 = .ok (.getfield 24, 3) := by decide +kernel
theorem dX1_begin_15 : decode cX1_begin 15 = .ok (.invokevirtual 35, 3) := by decide +kernel
theorem dX1_begin_18 : decode cX1_begin 18 = .ok (.putfield 41, 3) := by decide +kernel
theorem dX1_begin_21 : decode cX1_begin 21 = .ok (.aload_n 0, 1) := by decide +kernel
theorem dX1_begin_22 : decode cX1_begin 22 = .ok (.iconst 0, 1) := by decide +kernel
theorem dX1_begin_23 : decode cX1_begin 23 = .ok (.putfield 44, 3) := by decide +kernel
theorem dX1_begin_26 : decode cX1_begin 26 = .ok (.iconst 0, 1) := by decide +kernel
theorem dX1_begin_27 : decode cX1_begin 27 = .ok (.istore_n 1, 1) := by decide +kernel
theorem dX1_begin_28 : decode cX1_begin 28 = .ok (.iload_n 1, 1) := by decide +kernel
theorem dX1_begin_29 : decode cX1_begin 29 = .ok (.bipush 8, 2) := by decide +kernel
theorem dX1_begin_31 : decode cX1_begin 31 = .ok (.if_icmp .ge 61, 3) := by decide +kernel
theorem dX1_begin_34 : decode cX1_begin 34 = .ok (.aload_n 0, 1) := by decide +kernel
theorem dX1_begin_35 : decode cX1_begin 35 = .ok (.getfield 9, 3) := by decide +kernel
theorem dX1_begin_38 : decode cX1_begin 38 = .ok (.iload_n 1, 1) := by decide +kernel
theorem dX1_begin_39 : decode cX1_begin 39 = .ok (.aload_n 0, 1) := by decide +kernel
theorem dX1_begin_40 : decode cX1_begin 40 = .ok (.getfield 24, 3) := by decide +kernel
theorem dX1_begin_43 : decode cX1_begin 43 = .ok (.getfield 47, 3) := by decide +kernel
theorem dX1_begin_46 : decode cX1_begin 46 = .ok (.iload_n 1, 1) := by decide +kernel
theorem dX1_begin_47 : decode cX1_begin 47 = .ok (.iaload, 1) := by decide +kernel
theorem dX1_begin_48 : decode cX1_begin 48 = .ok (.iastore, 1) := by decide +kernel
theorem dX1_begin_49 : decode cX1_begin 49 = .ok (.aload_n 0, 1) := by decide +kernel
theorem dX1_begin_50 : decode cX1_begin 50 = .ok (.getfield 15, 3) := by decide +kernel
theorem dX1_begin_53 : decode cX1_begin 53 = .ok (.iload_n 1, 1) := by decide +kernel
theorem dX1_begin_54 : decode cX1_begin 54 = .ok (.aload_n 0, 1) := by decide +kernel
theorem dX1_begin_55 : decode cX1_begin 55 = .ok (.getfield 24, 3) := by decide +kernel
theorem dX1_begin_58 : decode cX1_begin 58 = .ok (.getfield 48, 3) := by decide +kernel
theorem dX1_begin_61 : decode cX1_begin 61 = .ok (.iload_n 1, 1) := by decide +kernel
theorem dX1_begin_62 : decode cX1_begin 62 = .ok (.iaload, 1) := by decide +kernel
theorem dX1_begin_63 : decode cX1_begin 63 = .ok (.iastore, 1) := by decide +kernel
theorem dX1_begin_64 : decode cX1_begin 64 = .ok (.aload_n 0, 1) := by decide +kernel
theorem dX1_begin_65 : decode cX1_begin 65 = .ok (.getfield 18, 3) := by decide +kernel
theorem dX1_begin_68 : decode cX1_begin 68 = .ok (.iload_n 1, 1) := by decide +kernel
theorem dX1_begin_69 : decode cX1_begin 69 = .ok (.aload_n 0, 1) := by decide +kernel
theorem dX1_begin_70 : decode cX1_begin 70 = .ok (.getfield 24, 3) := by decide +kernel
theorem dX1_begin_73 : decode cX1_begin 73 = .ok (.getfield 49, 3) := by decide +kernel
theorem dX1_begin_76 : decode cX1_begin 76 = .ok (.iload_n 1, 1) := by decide +kernel
theorem dX1_begin_77 : decode cX1_begin 77 = .ok (.iaload, 1) := by decide +kernel
theorem dX1_begin_78 : decode cX1_begin 78 = .ok (.iastore, 1) := by decide +kernel
theorem dX1_begin_79 : decode cX1_begin 79 = .ok (.aload_n 0, 1) := by decide +kernel
theorem dX1_begin_80 : decode cX1_begin 80 = .ok (.getfield 21, 3) := by decide +kernel
theorem dX1_begin_83 : decode cX1_begin 83 = .ok (.iload_n 1, 1) := by decide +kernel
theorem dX1_begin_84 : decode cX1_begin 84 = .ok (.iconst (-1), 1) := by decide +kernel
theorem dX1_begin_85 : decode cX1_begin 85 = .ok (.iastore, 1) := by decide +kernel
theorem dX1_begin_86 : decode cX1_begin 86 = .ok (.iinc 1 1, 3) := by decide +kernel
theorem dX1_begin_89 : decode cX1_begin 89 = .ok (.goto (-61), 3) := by decide +kernel
theorem dX1_begin_92 : decode cX1_begin 92 = .ok (.return_, 1) := by decide +kernel
theorem dX1_copyFrom_0 : decode cX1_copyFrom 0 = .ok (.aload_n 0, 1) := by decide +kernel
theorem dX1_copyFrom_1 : decode cX1_copyFrom 1 = .ok (.aload_n 1, 1) := by decide +kernel
theorem dX1_copyFrom_2 : decode cX1_copyFrom 2 = .ok (.getfield 28, 3) := by decide +kernel
theorem dX1_copyFrom_5 : decode cX1_copyFrom 5 = .ok (.putfield 28, 3) := by decide +kernel
theorem dX1_copyFrom_8 : decode cX1_copyFrom 8 = .ok (.aload_n 0, 1) := by decide +kernel
theorem dX1_copyFrom_9 : decode cX1_copyFrom 9 = .ok (.aload_n 1, 1) := by decide +kernel
theorem dX1_copyFrom_10 : decode cX1_copyFrom 10 = .ok (.getfield 32, 3) := by decide +kernel
theorem dX1_copyFrom_13 : decode cX1_copyFrom 13 = .ok (.putfield 32, 3) := by decide +kernel
theorem dX1_copyFrom_16 : decode cX1_copyFrom 16 = .ok (.aload_n 0, 1) := by decide +kernel
theorem dX1_copyFrom_17 : decode cX1_copyFrom 17 = .ok (.aload_n 1, 1) := by decide +kernel
theorem dX1_copyFrom_18 : decode cX1_copyFrom 18 = .ok (.getfield 41, 3) := by decide +kernel
theorem dX1_copyFrom_21 : decode cX1_copyFrom 21 = .ok (.putfield 41, 3) := by decide +kernel
theorem dX1_copyFrom_24 : decode cX1_copyFrom 24 = .ok (.aload_n 0, 1) := by decide +kernel
theorem dX1_copyFrom_25 : decode cX1_copyFrom 25 = .ok (.aload_n 1, 1) := by decide +kernel
theorem dX1_copyFrom_26 : decode cX1_copyFrom 26 = .ok (.getfield 44, 3) := by decide +kernel
theorem dX1_copyFrom_29 : decode cX1_copyFrom 29 = .ok (.putfield 44, 3) := by decide +kernel
theorem dX1_copyFrom_32 : decode cX1_copyFrom 32 = .ok (.aload_n 1, 1) := by decide +kernel
theorem dX1_copyFrom_33 : decode cX1_copyFrom 33 = .ok (.getfield 9, 3) := by decide +kernel
theorem dX1_copyFrom_36 : decode cX1_copyFrom 36 = .ok (.iconst 0, 1) := by decide +kernel
theorem dX1_copyFrom_37 : decode cX1_copyFrom 37 = .ok (.aload_n 0, 1) := by decide +kernel
theorem dX1_copyFrom_38 : decode cX1_copyFrom 38 = .ok (.getfield 9, 3) := by decide +kernel
theorem dX1_copyFrom_41 : decode cX1_copyFrom 41 = .ok (.iconst 0, 1) := by decide +kernel
theorem dX1_copyFrom_42 : decode cX1_copyFrom 42 = .ok (.bipush 8, 2) := by decide +kernel
theorem dX1_copyFrom_44 : decode cX1_copyFrom 44 = .ok (.invokestatic 50, 3) := by decide +kernel
theorem dX1_copyFrom_47 : decode cX1_copyFrom 47 = .ok (.aload_n 1, 1) := by decide +kernel
theorem dX1_copyFrom_48 : decode cX1_copyFrom 48 = .ok (.getfield 15, 3) := by decide +kernel
theorem dX1_copyFrom_51 : decode cX1_copyFrom 51 = .ok (.iconst 0, 1) := by decide +kernel
theorem dX1_copyFrom_52 : decode cX1_copyFrom 52 = .ok (.aload_n 0, 1) := by decide +kernel
theorem dX1_copyFrom_53 : decode cX1_copyFrom 53 = .ok (.getfield 15, 3) := by decide +kernel
theorem dX1_copyFrom_56 : decode cX1_copyFrom 56 = .ok (.iconst 0, 1) := by decide +kernel
theorem dX1_copyFrom_57 : decode cX1_copyFrom 57 = .ok (.bipush 8, 2) := by decide +kernel
theorem dX1_copyFrom_59 : decode cX1_copyFrom 59 = .ok (.invokestatic 50, 3) := by decide +kernel
theorem dX1_copyFrom_62 : decode cX1_copyFrom 62 = .ok (.aload_n 1, 1) := by decide +kernel
theorem dX1_copyFrom_63 : decode cX1_copyFrom 63 = .ok (.getfield 18, 3) := by decide +kernel
theorem dX1_copyFrom_66 : decode cX1_copyFrom 66 = .ok (.iconst 0, 1) := by decide +kernel
theorem dX1_copyFrom_67 : decode cX1_copyFrom 67 = .ok (.aload_n 0, 1) := by decide +kernel
theorem dX1_copyFrom_68 : decode cX1_copyFrom 68 = .ok (.getfield 18, 3) := by decide +kernel
theorem dX1_copyFrom_71 : decode cX1_copyFrom 71 = .ok (.iconst 0, 1) := by decide +kernel
theorem dX1_copyFrom_72 : decode cX1_copyFrom 72 = .ok (.bipush 8, 2) := by decide +kernel
theorem dX1_copyFrom_74 : decode cX1_copyFrom 74 = .ok (.invokestatic 50, 3) := by decide +kernel
theorem dX1_copyFrom_77 : decode cX1_copyFrom 77 = .ok (.aload_n 1, 1) := by decide +kernel
theorem dX1_copyFrom_78 : decode cX1_copyFrom 78 = .ok (.getfield 21, 3) := by decide +kernel
theorem dX1_copyFrom_81 : decode cX1_copyFrom 81 = .ok (.iconst 0, 1) := by decide +kernel
theorem dX1_copyFrom_82 : decode cX1_copyFrom 82 = .ok (.aload_n 0, 1) := by decide +kernel
theorem dX1_copyFrom_83 : decode cX1_copyFrom 83 = .ok (.getfield 21, 3) := by decide +kernel
theorem dX1_copyFrom_86 : decode cX1_copyFrom 86 = .ok (.iconst 0, 1) := by decide +kernel
theorem dX1_copyFrom_87 : decode cX1_copyFrom 87 = .ok (.bipush 8, 2) := by decide +kernel
theorem dX1_copyFrom_89 : decode cX1_copyFrom 89 = .ok (.invokestatic 50, 3) := by decide +kernel
theorem dX1_copyFrom_92 : decode cX1_copyFrom 92 = .ok (.return_, 1) := by decide +kernel
theorem dX1_isWhole_0 : decode cX1_isWhole 0 = .ok (.aload_n 0, 1) := by decide +kernel
theorem dX1_isWhole_1 : decode cX1_isWhole 1 = .ok (.getfield 41, 3) := by decide +kernel
theorem dX1_isWhole_4 : decode cX1_isWhole 4 = .ok (.iload_n 1, 1) := by decide +kernel
theorem dX1_isWhole_5 : decode cX1_isWhole 5 = .ok (.invokestatic 56, 3) := by decide +kernel
theorem dX1_isWhole_8 : decode cX1_isWhole 8 = .ok (.ireturn, 1) := by decide +kernel
theorem dX1_fateOf_0 : decode cX1_fateOf 0 = .ok (.aload_n 0, 1) := by decide +kernel
theorem dX1_fateOf_1 : decode cX1_fateOf 1 = .ok (.getfield 41, 3) := by decide +kernel
theorem dX1_fateOf_4 : decode cX1_fateOf 4 = .ok (.iload_n 1, 1) := by decide +kernel
theorem dX1_fateOf_5 : decode cX1_fateOf 5 = .ok (.invokestatic 56, 3) := by decide +kernel
theorem dX1_fateOf_8 : decode cX1_fateOf 8 = .ok (.ifCond .eq 5, 3) := by decide +kernel
theorem dX1_fateOf_11 : decode cX1_fateOf 11 = .ok (.iconst 0, 1) := by decide +kernel
theorem dX1_fateOf_12 : decode cX1_fateOf 12 = .ok (.ireturn, 1) := by decide +kernel
theorem dX1_fateOf_13 : decode cX1_fateOf 13 = .ok (.aload_n 0, 1) := by decide +kernel
theorem dX1_fateOf_14 : decode cX1_fateOf 14 = .ok (.getfield 44, 3) := by decide +kernel
theorem dX1_fateOf_17 : decode cX1_fateOf 17 = .ok (.iload_n 1, 1) := by decide +kernel
theorem dX1_fateOf_18 : decode cX1_fateOf 18 = .ok (.invokestatic 56, 3) := by decide +kernel
theorem dX1_fateOf_21 : decode cX1_fateOf 21 = .ok (.ifCond .eq 7, 3) := by decide +kernel
theorem dX1_fateOf_24 : decode cX1_fateOf 24 = .ok (.iconst 1, 1) := by decide +kernel
theorem dX1_fateOf_25 : decode cX1_fateOf 25 = .ok (.goto 4, 3) := by decide +kernel
theorem dX1_fateOf_28 : decode cX1_fateOf 28 = .ok (.iconst 2, 1) := by decide +kernel
theorem dX1_fateOf_29 : decode cX1_fateOf 29 = .ok (.ireturn, 1) := by decide +kernel
theorem dX1_topOf_0 : decode cX1_topOf 0 = .ok (.iload_n 1, 1) := by decide +kernel
theorem dX1_topOf_1 : decode cX1_topOf 1 = .ok (.istore_n 3, 1) := by decide +kernel
theorem dX1_topOf_2 : decode cX1_topOf 2 = .ok (.iconst 0, 1) := by decide +kernel
theorem dX1_topOf_3 : decode cX1_topOf 3 = .ok (.istore 4, 2) := by decide +kernel
theorem dX1_topOf_5 : decode cX1_topOf 5 = .ok (.iload 4, 2) := by decide +kernel
theorem dX1_topOf_7 : decode cX1_topOf 7 = .ok (.bipush 8, 2) := by decide +kernel
theorem dX1_topOf_9 : decode cX1_topOf 9 = .ok (.if_icmp .ge 32, 3) := by decide +kernel
theorem dX1_topOf_12 : decode cX1_topOf 12 = .ok (.aload_n 0, 1) := by decide +kernel
theorem dX1_topOf_13 : decode cX1_topOf 13 = .ok (.getfield 15, 3) := by decide +kernel
theorem dX1_topOf_16 : decode cX1_topOf 16 = .ok (.iload_n 3, 1) := by decide +kernel
theorem dX1_topOf_17 : decode cX1_topOf 17 = .ok (.iaload, 1) := by decide +kernel
theorem dX1_topOf_18 : decode cX1_topOf 18 = .ok (.iload_n 2, 1) := by decide +kernel
theorem dX1_topOf_19 : decode cX1_topOf 19 = .ok (.iand, 1) := by decide +kernel
theorem dX1_topOf_20 : decode cX1_topOf 20 = .ok (.istore 5, 2) := by decide +kernel
theorem dX1_topOf_22 : decode cX1_topOf 22 = .ok (.iload 5, 2) := by decide +kernel
theorem dX1_topOf_24 : decode cX1_topOf 24 = .ok (.ifCond .ne 5, 3) := by decide +kernel
theorem dX1_topOf_27 : decode cX1_topOf 27 = .ok (.iload_n 3, 1) := by decide +kernel
theorem dX1_topOf_28 : decode cX1_topOf 28 = .ok (.ireturn, 1) := by decide +kernel
theorem dX1_topOf_29 : decode cX1_topOf 29 = .ok (.iload 5, 2) := by decide +kernel
theorem dX1_topOf_31 : decode cX1_topOf 31 = .ok (.invokestatic 60, 3) := by decide +kernel
theorem dX1_topOf_34 : decode cX1_topOf 34 = .ok (.istore_n 3, 1) := by decide +kernel
theorem dX1_topOf_35 : decode cX1_topOf 35 = .ok (.iinc 4 1, 3) := by decide +kernel
theorem dX1_topOf_38 : decode cX1_topOf 38 = .ok (.goto (-33), 3) := by decide +kernel
theorem dX1_topOf_41 : decode cX1_topOf 41 = .ok (.iload_n 3, 1) := by decide +kernel
theorem dX1_topOf_42 : decode cX1_topOf 42 = .ok (.ireturn, 1) := by decide +kernel
theorem dX1_fallOf_0 : decode cX1_fallOf 0 = .ok (.iload_n 2, 1) := by decide +kernel
theorem dX1_fallOf_1 : decode cX1_fallOf 1 = .ok (.iload_n 1, 1) := by decide +kernel
theorem dX1_fallOf_2 : decode cX1_fallOf 2 = .ok (.invokestatic 56, 3) := by decide +kernel
theorem dX1_fallOf_5 : decode cX1_fallOf 5 = .ok (.ifCond .ne 5, 3) := by decide +kernel
theorem dX1_fallOf_8 : decode cX1_fallOf 8 = .ok (.iconst 0, 1) := by decide +kernel
theorem dX1_fallOf_9 : decode cX1_fallOf 9 = .ok (.ireturn, 1) := by decide +kernel
theorem dX1_fallOf_10 : decode cX1_fallOf 10 = .ok (.aload_n 0, 1) := by decide +kernel
theorem dX1_fallOf_11 : decode cX1_fallOf 11 = .ok (.iload_n 1, 1) := by decide +kernel
theorem dX1_fallOf_12 : decode cX1_fallOf 12 = .ok (.iload_n 2, 1) := by decide +kernel
theorem dX1_fallOf_13 : decode cX1_fallOf 13 = .ok (.invokevirtual 66, 3) := by decide +kernel
theorem dX1_fallOf_16 : decode cX1_fallOf 16 = .ok (.istore_n 3, 1) := by decide +kernel
theorem dX1_fallOf_17 : decode cX1_fallOf 17 = .ok (.aload_n 0, 1) := by decide +kernel
theorem dX1_fallOf_18 : decode cX1_fallOf 18 = .ok (.getfield 24, 3) := by decide +kernel
theorem dX1_fallOf_21 : decode cX1_fallOf 21 = .ok (.iload_n 3, 1) := by decide +kernel
theorem dX1_fallOf_22 : decode cX1_fallOf 22 = .ok (.invokevirtual 70, 3) := by decide +kernel
theorem dX1_fallOf_25 : decode cX1_fallOf 25 = .ok (.ifCond .eq 7, 3) := by decide +kernel
theorem dX1_fallOf_28 : decode cX1_fallOf 28 = .ok (.iconst 0, 1) := by decide +kernel
theorem dX1_fallOf_29 : decode cX1_fallOf 29 = .ok (.goto 15, 3) := by decide +kernel
theorem dX1_fallOf_32 : decode cX1_fallOf 32 = .ok (.aload_n 0, 1) := by decide +kernel
theorem dX1_fallOf_33 : decode cX1_fallOf 33 = .ok (.getfield 18, 3) := by decide +kernel
theorem dX1_fallOf_36 : decode cX1_fallOf 36 = .ok (.iload_n 3, 1) := by decide +kernel
theorem dX1_fallOf_37 : decode cX1_fallOf 37 = .ok (.invokestatic 74, 3) := by decide +kernel
theorem dX1_fallOf_40 : decode cX1_fallOf 40 = .ok (.iload_n 2, 1) := by decide +kernel
theorem dX1_fallOf_41 : decode cX1_fallOf 41 = .ok (.invokestatic 77, 3) := by decide +kernel
theorem dX1_fallOf_44 : decode cX1_fallOf 44 = .ok (.ireturn, 1) := by decide +kernel
theorem dX1_cutAt_0 : decode cX1_cutAt 0 = .ok (.aload_n 0, 1) := by decide +kernel
theorem dX1_cutAt_1 : decode cX1_cutAt 1 = .ok (.iload_n 1, 1) := by decide +kernel
theorem dX1_cutAt_2 : decode cX1_cutAt 2 = .ok (.aload_n 0, 1) := by decide +kernel
theorem dX1_cutAt_3 : decode cX1_cutAt 3 = .ok (.getfield 41, 3) := by decide +kernel
theorem dX1_cutAt_6 : decode cX1_cutAt 6 = .ok (.invokevirtual 81, 3) := by decide +kernel
theorem dX1_cutAt_9 : decode cX1_cutAt 9 = .ok (.istore_n 2, 1) := by decide +kernel
theorem dX1_cutAt_10 : decode cX1_cutAt 10 = .ok (.aload_n 0, 1) := by decide +kernel
theorem dX1_cutAt_11 : decode cX1_cutAt 11 = .ok (.dup, 1) := by decide +kernel
theorem dX1_cutAt_12 : decode cX1_cutAt 12 = .ok (.getfield 32, 3) := by decide +kernel
theorem dX1_cutAt_15 : decode cX1_cutAt 15 = .ok (.aload_n 0, 1) := by decide +kernel
theorem dX1_cutAt_16 : decode cX1_cutAt 16 = .ok (.getfield 24, 3) := by decide +kernel
theorem dX1_cutAt_19 : decode cX1_cutAt 19 = .ok (.iload_n 2, 1) := by decide +kernel
theorem dX1_cutAt_20 : decode cX1_cutAt 20 = .ok (.aload_n 0, 1) := by decide +kernel
theorem dX1_cutAt_21 : decode cX1_cutAt 21 = .ok (.getfield 28, 3) := by decide +kernel
theorem dX1_cutAt_24 : decode cX1_cutAt 24 = .ok (.invokevirtual 84, 3) := by decide +kernel
theorem dX1_cutAt_27 : decode cX1_cutAt 27 = .ok (.iadd, 1) := by decide +kernel
theorem dX1_cutAt_28 : decode cX1_cutAt 28 = .ok (.putfield 32, 3) := by decide +kernel
theorem dX1_cutAt_31 : decode cX1_cutAt 31 = .ok (.aload_n 0, 1) := by decide +kernel
theorem dX1_cutAt_32 : decode cX1_cutAt 32 = .ok (.dup, 1) := by decide +kernel
theorem dX1_cutAt_33 : decode cX1_cutAt 33 = .ok (.getfield 41, 3) := by decide +kernel
theorem dX1_cutAt_36 : decode cX1_cutAt 36 = .ok (.iload_n 2, 1) := by decide +kernel
theorem dX1_cutAt_37 : decode cX1_cutAt 37 = .ok (.iconst (-1), 1) := by decide +kernel
theorem dX1_cutAt_38 : decode cX1_cutAt 38 = .ok (.ixor, 1) := by decide +kernel
theorem dX1_cutAt_39 : decode cX1_cutAt 39 = .ok (.iand, 1) := by decide +kernel
theorem dX1_cutAt_40 : decode cX1_cutAt 40 = .ok (.putfield 41, 3) := by decide +kernel
theorem dX1_cutAt_43 : decode cX1_cutAt 43 = .ok (.aload_n 0, 1) := by decide +kernel
theorem dX1_cutAt_44 : decode cX1_cutAt 44 = .ok (.dup, 1) := by decide +kernel
theorem dX1_cutAt_45 : decode cX1_cutAt 45 = .ok (.getfield 44, 3) := by decide +kernel
theorem dX1_cutAt_48 : decode cX1_cutAt 48 = .ok (.iload_n 2, 1) := by decide +kernel
theorem dX1_cutAt_49 : decode cX1_cutAt 49 = .ok (.ior, 1) := by decide +kernel
theorem dX1_cutAt_50 : decode cX1_cutAt 50 = .ok (.putfield 44, 3) := by decide +kernel
theorem dX1_cutAt_53 : decode cX1_cutAt 53 = .ok (.iconst 0, 1) := by decide +kernel
theorem dX1_cutAt_54 : decode cX1_cutAt 54 = .ok (.istore_n 3, 1) := by decide +kernel
theorem dX1_cutAt_55 : decode cX1_cutAt 55 = .ok (.iload_n 3, 1) := by decide +kernel
theorem dX1_cutAt_56 : decode cX1_cutAt 56 = .ok (.bipush 8, 2) := by decide +kernel
theorem dX1_cutAt_58 : decode cX1_cutAt 58 = .ok (.if_icmp .ge 27, 3) := by decide +kernel
theorem dX1_cutAt_61 : decode cX1_cutAt 61 = .ok (.iload_n 2, 1) := by decide +kernel
theorem dX1_cutAt_62 : decode cX1_cutAt 62 = .ok (.iload_n 3, 1) := by decide +kernel
theorem dX1_cutAt_63 : decode cX1_cutAt 63 = .ok (.invokestatic 56, 3) := by decide +kernel
theorem dX1_cutAt_66 : decode cX1_cutAt 66 = .ok (.ifCond .eq 13, 3) := by decide +kernel
theorem dX1_cutAt_69 : decode cX1_cutAt 69 = .ok (.aload_n 0, 1) := by decide +kernel
theorem dX1_cutAt_70 : decode cX1_cutAt 70 = .ok (.getfield 21, 3) := by decide +kernel
theorem dX1_cutAt_73 : decode cX1_cutAt 73 = .ok (.iload_n 3, 1) := by decide +kernel
theorem dX1_cutAt_74 : decode cX1_cutAt 74 = .ok (.aload_n 0, 1) := by decide +kernel
theorem dX1_cutAt_75 : decode cX1_cutAt 75 = .ok (.getfield 28, 3) := by decide +kernel
theorem dX1_cutAt_78 : decode cX1_cutAt 78 = .ok (.iastore, 1) := by decide +kernel
theorem dX1_cutAt_79 : decode cX1_cutAt 79 = .ok (.iinc 3 1, 3) := by decide +kernel
theorem dX1_cutAt_82 : decode cX1_cutAt 82 = .ok (.goto (-27), 3) := by decide +kernel
theorem dX1_cutAt_85 : decode cX1_cutAt 85 = .ok (.iload_n 2, 1) := by decide +kernel
theorem dX1_cutAt_86 : decode cX1_cutAt 86 = .ok (.ireturn, 1) := by decide +kernel
theorem dX1_endDays_0 : decode cX1_endDays 0 = .ok (.iconst 0, 1) := by decide +kernel
theorem dX1_endDays_1 : decode cX1_endDays 1 = .ok (.istore_n 2, 1) := by decide +kernel
theorem dX1_endDays_2 : decode cX1_endDays 2 = .ok (.iload_n 2, 1) := by decide +kernel
theorem dX1_endDays_3 : decode cX1_endDays 3 = .ok (.iload_n 1, 1) := by decide +kernel
theorem dX1_endDays_4 : decode cX1_endDays 4 = .ok (.if_icmp .ge 13, 3) := by decide +kernel
theorem dX1_endDays_7 : decode cX1_endDays 7 = .ok (.aload_n 0, 1) := by decide +kernel
theorem dX1_endDays_8 : decode cX1_endDays 8 = .ok (.invokevirtual 87, 3) := by decide +kernel
theorem dX1_endDays_11 : decode cX1_endDays 11 = .ok (.iinc 2 1, 3) := by decide +kernel
theorem dX1_endDays_14 : decode cX1_endDays 14 = .ok (.goto (-12), 3) := by decide +kernel
theorem dX1_endDays_17 : decode cX1_endDays 17 = .ok (.return_, 1) := by decide +kernel
theorem dX1_endDay_0 : decode cX1_endDay 0 = .ok (.iconst 0, 1) := by decide +kernel
theorem dX1_endDay_1 : decode cX1_endDay 1 = .ok (.istore_n 1, 1) := by decide +kernel
theorem dX1_endDay_2 : decode cX1_endDay 2 = .ok (.iload_n 1, 1) := by decide +kernel
theorem dX1_endDay_3 : decode cX1_endDay 3 = .ok (.aload_n 0, 1) := by decide +kernel
theorem dX1_endDay_4 : decode cX1_endDay 4 = .ok (.getfield 24, 3) := by decide +kernel
theorem dX1_endDay_7 : decode cX1_endDay 7 = .ok (.getfield 90, 3) := by decide +kernel
theorem dX1_endDay_10 : decode cX1_endDay 10 = .ok (.if_icmp .ge 39, 3) := by decide +kernel
theorem dX1_endDay_13 : decode cX1_endDay 13 = .ok (.aload_n 0, 1) := by decide +kernel
theorem dX1_endDay_14 : decode cX1_endDay 14 = .ok (.getfield 24, 3) := by decide +kernel
theorem dX1_endDay_17 : decode cX1_endDay 17 = .ok (.getfield 93, 3) := by decide +kernel
theorem dX1_endDay_20 : decode cX1_endDay 20 = .ok (.iload_n 1, 1) := by decide +kernel
theorem dX1_endDay_21 : decode cX1_endDay 21 = .ok (.iaload, 1) := by decide +kernel
theorem dX1_endDay_22 : decode cX1_endDay 22 = .ok (.aload_n 0, 1) := by decide +kernel
theorem dX1_endDay_23 : decode cX1_endDay 23 = .ok (.getfield 28, 3) := by decide +kernel
theorem dX1_endDay_26 : decode cX1_endDay 26 = .ok (.if_icmp .ne 17, 3) := by decide +kernel
theorem dX1_endDay_29 : decode cX1_endDay 29 = .ok (.aload_n 0, 1) := by decide +kernel
theorem dX1_endDay_30 : decode cX1_endDay 30 = .ok (.aload_n 0, 1) := by decide +kernel
theorem dX1_endDay_31 : decode cX1_endDay 31 = .ok (.getfield 24, 3) := by decide +kernel
theorem dX1_endDay_34 : decode cX1_endDay 34 = .ok (.getfield 96, 3) := by decide +kernel
theorem dX1_endDay_37 : decode cX1_endDay 37 = .ok (.iload_n 1, 1) := by decide +kernel
theorem dX1_endDay_38 : decode cX1_endDay 38 = .ok (.iaload, 1) := by decide +kernel
theorem dX1_endDay_39 : decode cX1_endDay 39 = .ok (.invokevirtual 99, 3) := by decide +kernel
theorem dX1_endDay_42 : decode cX1_endDay 42 = .ok (.pop, 1) := by decide +kernel
theorem dX1_endDay_43 : decode cX1_endDay 43 = .ok (.iinc 1 1, 3) := by decide +kernel
theorem dX1_endDay_46 : decode cX1_endDay 46 = .ok (.goto (-44), 3) := by decide +kernel
theorem dX1_endDay_49 : decode cX1_endDay 49 = .ok (.aload_n 0, 1) := by decide +kernel
theorem dX1_endDay_50 : decode cX1_endDay 50 = .ok (.dup, 1) := by decide +kernel
theorem dX1_endDay_51 : decode cX1_endDay 51 = .ok (.getfield 28, 3) := by decide +kernel
theorem dX1_endDay_54 : decode cX1_endDay 54 = .ok (.iconst 1, 1) := by decide +kernel
theorem dX1_endDay_55 : decode cX1_endDay 55 = .ok (.iadd, 1) := by decide +kernel
theorem dX1_endDay_56 : decode cX1_endDay 56 = .ok (.putfield 28, 3) := by decide +kernel
theorem dX1_endDay_59 : decode cX1_endDay 59 = .ok (.aload_n 0, 1) := by decide +kernel
theorem dX1_endDay_60 : decode cX1_endDay 60 = .ok (.aload_n 0, 1) := by decide +kernel
theorem dX1_endDay_61 : decode cX1_endDay 61 = .ok (.getfield 24, 3) := by decide +kernel
theorem dX1_endDay_64 : decode cX1_endDay 64 = .ok (.aload_n 0, 1) := by decide +kernel
theorem dX1_endDay_65 : decode cX1_endDay 65 = .ok (.getfield 41, 3) := by decide +kernel
theorem dX1_endDay_68 : decode cX1_endDay 68 = .ok (.aload_n 0, 1) := by decide +kernel
theorem dX1_endDay_69 : decode cX1_endDay 69 = .ok (.getfield 28, 3) := by decide +kernel
theorem dX1_endDay_72 : decode cX1_endDay 72 = .ok (.invokevirtual 102, 3) := by decide +kernel
theorem dX1_endDay_75 : decode cX1_endDay 75 = .ok (.putfield 41, 3) := by decide +kernel
theorem dX1_endDay_78 : decode cX1_endDay 78 = .ok (.return_, 1) := by decide +kernel
theorem dX1_liesOver_0 : decode cX1_liesOver 0 = .ok (.iconst 0, 1) := by decide +kernel
theorem dX1_liesOver_1 : decode cX1_liesOver 1 = .ok (.istore_n 2, 1) := by decide +kernel
theorem dX1_liesOver_2 : decode cX1_liesOver 2 = .ok (.iconst 0, 1) := by decide +kernel
theorem dX1_liesOver_3 : decode cX1_liesOver 3 = .ok (.istore_n 3, 1) := by decide +kernel
theorem dX1_liesOver_4 : decode cX1_liesOver 4 = .ok (.iload_n 3, 1) := by decide +kernel
theorem dX1_liesOver_5 : decode cX1_liesOver 5 = .ok (.bipush 8, 2) := by decide +kernel
theorem dX1_liesOver_7 : decode cX1_liesOver 7 = .ok (.if_icmp .ge 25, 3) := by decide +kernel
theorem dX1_liesOver_10 : decode cX1_liesOver 10 = .ok (.aload_n 0, 1) := by decide +kernel
theorem dX1_liesOver_11 : decode cX1_liesOver 11 = .ok (.getfield 15, 3) := by decide +kernel
theorem dX1_liesOver_14 : decode cX1_liesOver 14 = .ok (.iload_n 3, 1) := by decide +kernel
theorem dX1_liesOver_15 : decode cX1_liesOver 15 = .ok (.iaload, 1) := by decide +kernel
theorem dX1_liesOver_16 : decode cX1_liesOver 16 = .ok (.iload_n 1, 1) := by decide +kernel
theorem dX1_liesOver_17 : decode cX1_liesOver 17 = .ok (.invokestatic 56, 3) := by decide +kernel
theorem dX1_liesOver_20 : decode cX1_liesOver 20 = .ok (.ifCond .eq 6, 3) := by decide +kernel
theorem dX1_liesOver_23 : decode cX1_liesOver 23 = .ok (.iinc 2 1, 3) := by decide +kernel
theorem dX1_liesOver_26 : decode cX1_liesOver 26 = .ok (.iinc 3 1, 3) := by decide +kernel
theorem dX1_liesOver_29 : decode cX1_liesOver 29 = .ok (.goto (-25), 3) := by decide +kernel
theorem dX1_liesOver_32 : decode cX1_liesOver 32 = .ok (.iload_n 2, 1) := by decide +kernel
theorem dX1_liesOver_33 : decode cX1_liesOver 33 = .ok (.ireturn, 1) := by decide +kernel
theorem dX1_takeOff_0 : decode cX1_takeOff 0 = .ok (.iconst 0, 1) := by decide +kernel
theorem dX1_takeOff_1 : decode cX1_takeOff 1 = .ok (.istore_n 2, 1) := by decide +kernel
theorem dX1_takeOff_2 : decode cX1_takeOff 2 = .ok (.iload_n 2, 1) := by decide +kernel
theorem dX1_takeOff_3 : decode cX1_takeOff 3 = .ok (.bipush 8, 2) := by decide +kernel
theorem dX1_takeOff_5 : decode cX1_takeOff 5 = .ok (.if_icmp .ge 24, 3) := by decide +kernel
theorem dX1_takeOff_8 : decode cX1_takeOff 8 = .ok (.aload_n 0, 1) := by decide +kernel
theorem dX1_takeOff_9 : decode cX1_takeOff 9 = .ok (.getfield 15, 3) := by decide +kernel
theorem dX1_takeOff_12 : decode cX1_takeOff 12 = .ok (.iload_n 2, 1) := by decide +kernel
theorem dX1_takeOff_13 : decode cX1_takeOff 13 = .ok (.dup2, 1) := by decide +kernel
theorem dX1_takeOff_14 : decode cX1_takeOff 14 = .ok (.iaload, 1) := by decide +kernel
theorem dX1_takeOff_15 : decode cX1_takeOff 15 = .ok (.iload_n 1, 1) := by decide +kernel
theorem dX1_takeOff_16 : decode cX1_takeOff 16 = .ok (.invokestatic 74, 3) := by decide +kernel
theorem dX1_takeOff_19 : decode cX1_takeOff 19 = .ok (.iconst (-1), 1) := by decide +kernel
theorem dX1_takeOff_20 : decode cX1_takeOff 20 = .ok (.ixor, 1) := by decide +kernel
theorem dX1_takeOff_21 : decode cX1_takeOff 21 = .ok (.iand, 1) := by decide +kernel
theorem dX1_takeOff_22 : decode cX1_takeOff 22 = .ok (.iastore, 1) := by decide +kernel
theorem dX1_takeOff_23 : decode cX1_takeOff 23 = .ok (.iinc 2 1, 3) := by decide +kernel
theorem dX1_takeOff_26 : decode cX1_takeOff 26 = .ok (.goto (-24), 3) := by decide +kernel
theorem dX1_takeOff_29 : decode cX1_takeOff 29 = .ok (.return_, 1) := by decide +kernel
theorem dX1_canGive_0 : decode cX1_canGive 0 = .ok (.aload_n 0, 1) := by decide +kernel
theorem dX1_canGive_1 : decode cX1_canGive 1 = .ok (.iload_n 1, 1) := by decide +kernel
theorem dX1_canGive_2 : decode cX1_canGive 2 = .ok (.invokevirtual 105, 3) := by decide +kernel
theorem dX1_canGive_5 : decode cX1_canGive 5 = .ok (.ifCond .eq 14, 3) := by decide +kernel
theorem dX1_canGive_8 : decode cX1_canGive 8 = .ok (.aload_n 0, 1) := by decide +kernel
theorem dX1_canGive_9 : decode cX1_canGive 9 = .ok (.getfield 24, 3) := by decide +kernel
theorem dX1_canGive_12 : decode cX1_canGive 12 = .ok (.iload_n 1, 1) := by decide +kernel
theorem dX1_canGive_13 : decode cX1_canGive 13 = .ok (.invokevirtual 70, 3) := by decide +kernel
theorem dX1_canGive_16 : decode cX1_canGive 16 = .ok (.ifCond .eq 5, 3) := by decide +kernel
theorem dX1_canGive_19 : decode cX1_canGive 19 = .ok (.iconst 0, 1) := by decide +kernel
theorem dX1_canGive_20 : decode cX1_canGive 20 = .ok (.ireturn, 1) := by decide +kernel
theorem dX1_canGive_21 : decode cX1_canGive 21 = .ok (.aload_n 0, 1) := by decide +kernel
theorem dX1_canGive_22 : decode cX1_canGive 22 = .ok (.getfield 24, 3) := by decide +kernel
theorem dX1_canGive_25 : decode cX1_canGive 25 = .ok (.getfield 108, 3) := by decide +kernel
theorem dX1_canGive_28 : decode cX1_canGive 28 = .ok (.iload_n 1, 1) := by decide +kernel
theorem dX1_canGive_29 : decode cX1_canGive 29 = .ok (.iaload, 1) := by decide +kernel
theorem dX1_canGive_30 : decode cX1_canGive 30 = .ok (.iconst 1, 1) := by decide +kernel
theorem dX1_canGive_31 : decode cX1_canGive 31 = .ok (.if_icmp .ne 7, 3) := by decide +kernel
theorem dX1_canGive_34 : decode cX1_canGive 34 = .ok (.iconst 2, 1) := by decide +kernel
theorem dX1_canGive_35 : decode cX1_canGive 35 = .ok (.goto 4, 3) := by decide +kernel
theorem dX1_canGive_38 : decode cX1_canGive 38 = .ok (.iconst 1, 1) := by decide +kernel
theorem dX1_canGive_39 : decode cX1_canGive 39 = .ok (.istore_n 3, 1) := by decide +kernel
theorem dX1_canGive_40 : decode cX1_canGive 40 = .ok (.iconst 0, 1) := by decide +kernel
theorem dX1_canGive_41 : decode cX1_canGive 41 = .ok (.aload_n 0, 1) := by decide +kernel
theorem dX1_canGive_42 : decode cX1_canGive 42 = .ok (.getfield 24, 3) := by decide +kernel
theorem dX1_canGive_45 : decode cX1_canGive 45 = .ok (.iload_n 1, 1) := by decide +kernel
theorem dX1_canGive_46 : decode cX1_canGive 46 = .ok (.aload_n 0, 1) := by decide +kernel
theorem dX1_canGive_47 : decode cX1_canGive 47 = .ok (.getfield 28, 3) := by decide +kernel
theorem dX1_canGive_50 : decode cX1_canGive 50 = .ok (.invokevirtual 111, 3) := by decide +kernel
theorem dX1_canGive_53 : decode cX1_canGive 53 = .ok (.iload_n 2, 1) := by decide +kernel
theorem dX1_canGive_54 : decode cX1_canGive 54 = .ok (.isub, 1) := by decide +kernel
theorem dX1_canGive_55 : decode cX1_canGive 55 = .ok (.iload_n 3, 1) := by decide +kernel
theorem dX1_canGive_56 : decode cX1_canGive 56 = .ok (.idiv, 1) := by decide +kernel
theorem dX1_canGive_57 : decode cX1_canGive 57 = .ok (.invokestatic 114, 3) := by decide +kernel
theorem dX1_canGive_60 : decode cX1_canGive 60 = .ok (.ireturn, 1) := by decide +kernel
theorem dX2_init_0 : decode cX2_init 0 = .ok (.aload_n 0, 1) := by decide +kernel
theorem dX2_init_1 : decode cX2_init 1 = .ok (.invokespecial 3, 3) := by decide +kernel
theorem dX2_init_4 : decode cX2_init 4 = .ok (.aload_n 0, 1) := by decide +kernel
theorem dX2_init_5 : decode cX2_init 5 = .ok (.bipush 8, 2) := by decide +kernel
theorem dX2_init_7 : decode cX2_init 7 = .ok (.anewarray 9, 3) := by decide +kernel
theorem dX2_init_10 : decode cX2_init 10 = .ok (.putfield 11, 3) := by decide +kernel
theorem dX2_init_13 : decode cX2_init 13 = .ok (.iconst 0, 1) := by decide +kernel
theorem dX2_init_14 : decode cX2_init 14 = .ok (.istore_n 2, 1) := by decide +kernel
theorem dX2_init_15 : decode cX2_init 15 = .ok (.iload_n 2, 1) := by decide +kernel
theorem dX2_init_16 : decode cX2_init 16 = .ok (.bipush 8, 2) := by decide +kernel
theorem dX2_init_18 : decode cX2_init 18 = .ok (.if_icmp .ge 23, 3) := by decide +kernel
theorem dX2_init_21 : decode cX2_init 21 = .ok (.aload_n 0, 1) := by decide +kernel
theorem dX2_init_22 : decode cX2_init 22 = .ok (.getfield 11, 3) := by decide +kernel
theorem dX2_init_25 : decode cX2_init 25 = .ok (.iload_n 2, 1) := by decide +kernel
theorem dX2_init_26 : decode cX2_init 26 = .ok (.new 9, 3) := by decide +kernel
theorem dX2_init_29 : decode cX2_init 29 = .ok (.dup, 1) := by decide +kernel
theorem dX2_init_30 : decode cX2_init 30 = .ok (.aload_n 1, 1) := by decide +kernel
theorem dX2_init_31 : decode cX2_init 31 = .ok (.invokespecial 17, 3) := by decide +kernel
theorem dX2_init_34 : decode cX2_init 34 = .ok (.aastore, 1) := by decide +kernel
theorem dX2_init_35 : decode cX2_init 35 = .ok (.iinc 2 1, 3) := by decide +kernel
theorem dX2_init_38 : decode cX2_init 38 = .ok (.goto (-23), 3) := by decide +kernel
theorem dX2_init_41 : decode cX2_init 41 = .ok (.return_, 1) := by decide +kernel
theorem dX2_remember_0 : decode cX2_remember 0 = .ok (.aload_n 0, 1) := by decide +kernel
theorem dX2_remember_1 : decode cX2_remember 1 = .ok (.getfield 11, 3) := by decide +kernel
theorem dX2_remember_4 : decode cX2_remember 4 = .ok (.aload_n 0, 1) := by decide +kernel
theorem dX2_remember_5 : decode cX2_remember 5 = .ok (.getfield 20, 3) := by decide +kernel
theorem dX2_remember_8 : decode cX2_remember 8 = .ok (.aaload, 1) := by decide +kernel
theorem dX2_remember_9 : decode cX2_remember 9 = .ok (.aload_n 1, 1) := by decide +kernel
theorem dX2_remember_10 : decode cX2_remember 10 = .ok (.invokevirtual 24, 3) := by decide +kernel
theorem dX2_remember_13 : decode cX2_remember 13 = .ok (.aload_n 0, 1) := by decide +kernel
theorem dX2_remember_14 : decode cX2_remember 14 = .ok (.aload_n 0, 1) := by decide +kernel
theorem dX2_remember_15 : decode cX2_remember 15 = .ok (.getfield 20, 3) := by decide +kernel
theorem dX2_remember_18 : decode cX2_remember 18 = .ok (.iconst 1, 1) := by decide +kernel
theorem dX2_remember_19 : decode cX2_remember 19 = .ok (.iadd, 1) := by decide +kernel
theorem dX2_remember_20 : decode cX2_remember 20 = .ok (.bipush 8, 2) := by decide +kernel
theorem dX2_remember_22 : decode cX2_remember 22 = .ok (.irem, 1) := by decide +kernel
theorem dX2_remember_23 : decode cX2_remember 23 = .ok (.putfield 20, 3) := by decide +kernel
theorem dX2_remember_26 : decode cX2_remember 26 = .ok (.aload_n 0, 1) := by decide +kernel
theorem dX2_remember_27 : decode cX2_remember 27 = .ok (.bipush 8, 2) := by decide +kernel
theorem dX2_remember_29 : decode cX2_remember 29 = .ok (.aload_n 0, 1) := by decide +kernel
theorem dX2_remember_30 : decode cX2_remember 30 = .ok (.getfield 28, 3) := by decide +kernel
theorem dX2_remember_33 : decode cX2_remember 33 = .ok (.iconst 1, 1) := by decide +kernel
theorem dX2_remember_34 : decode cX2_remember 34 = .ok (.iadd, 1) := by decide +kernel
theorem dX2_remember_35 : decode cX2_remember 35 = .ok (.invokestatic 31, 3) := by decide +kernel
theorem dX2_remember_38 : decode cX2_remember 38 = .ok (.putfield 28, 3) := by decide +kernel
theorem dX2_remember_41 : decode cX2_remember 41 = .ok (.return_, 1) := by decide +kernel
theorem dX2_bringBack_0 : decode cX2_bringBack 0 = .ok (.aload_n 0, 1) := by decide +kernel
theorem dX2_bringBack_1 : decode cX2_bringBack 1 = .ok (.getfield 28, 3) := by decide +kernel
theorem dX2_bringBack_4 : decode cX2_bringBack 4 = .ok (.ifCond .ne 4, 3) := by decide +kernel
theorem dX2_bringBack_7 : decode cX2_bringBack 7 = .ok (.return_, 1) := by decide +kernel
theorem dX2_bringBack_8 : decode cX2_bringBack 8 = .ok (.aload_n 0, 1) := by decide +kernel
theorem dX2_bringBack_9 : decode cX2_bringBack 9 = .ok (.aload_n 0, 1) := by decide +kernel
theorem dX2_bringBack_10 : decode cX2_bringBack 10 = .ok (.getfield 20, 3) := by decide +kernel
theorem dX2_bringBack_13 : decode cX2_bringBack 13 = .ok (.bipush 8, 2) := by decide +kernel
theorem dX2_bringBack_15 : decode cX2_bringBack 15 = .ok (.iadd, 1) := by decide +kernel
theorem dX2_bringBack_16 : decode cX2_bringBack 16 = .ok (.iconst 1, 1) := by decide +kernel
theorem dX2_bringBack_17 : decode cX2_bringBack 17 = .ok (.isub, 1) := by decide +kernel
theorem dX2_bringBack_18 : decode cX2_bringBack 18 = .ok (.bipush 8, 2) := by decide +kernel
theorem dX2_bringBack_20 : decode cX2_bringBack 20 = .ok (.irem, 1) := by decide +kernel
theorem dX2_bringBack_21 : decode cX2_bringBack 21 = .ok (.putfield 20, 3) := by decide +kernel
theorem dX2_bringBack_24 : decode cX2_bringBack 24 = .ok (.aload_n 0, 1) := by decide +kernel
theorem dX2_bringBack_25 : decode cX2_bringBack 25 = .ok (.dup, 1) := by decide +kernel
theorem dX2_bringBack_26 : decode cX2_bringBack 26 = .ok (.getfield 28, 3) := by decide +kernel
theorem dX2_bringBack_29 : decode cX2_bringBack 29 = .ok (.iconst 1, 1) := by decide +kernel
theorem dX2_bringBack_30 : decode cX2_bringBack 30 = .ok (.isub, 1) := by decide +kernel
theorem dX2_bringBack_31 : decode cX2_bringBack 31 = .ok (.putfield 28, 3) := by decide +kernel
theorem dX2_bringBack_34 : decode cX2_bringBack 34 = .ok (.aload_n 1, 1) := by decide +kernel
theorem dX2_bringBack_35 : decode cX2_bringBack 35 = .ok (.aload_n 0, 1) := by decide +kernel
theorem dX2_bringBack_36 : decode cX2_bringBack 36 = .ok (.getfield 11, 3) := by decide +kernel
theorem dX2_bringBack_39 : decode cX2_bringBack 39 = .ok (.aload_n 0, 1) := by decide +kernel
theorem dX2_bringBack_40 : decode cX2_bringBack 40 = .ok (.getfield 20, 3) := by decide +kernel
theorem dX2_bringBack_43 : decode cX2_bringBack 43 = .ok (.aaload, 1) := by decide +kernel
theorem dX2_bringBack_44 : decode cX2_bringBack 44 = .ok (.invokevirtual 24, 3) := by decide +kernel
theorem dX2_bringBack_47 : decode cX2_bringBack 47 = .ok (.return_, 1) := by decide +kernel
theorem dX3_init_0 : decode cX3_init 0 = .ok (.aload_n 0, 1) := by decide +kernel
theorem dX3_init_1 : decode cX3_init 1 = .ok (.invokespecial 3, 3) := by decide +kernel
theorem dX3_init_4 : decode cX3_init 4 = .ok (.aload_n 0, 1) := by decide +kernel
theorem dX3_init_5 : decode cX3_init 5 = .ok (.bipush 8, 2) := by decide +kernel
theorem dX3_init_7 : decode cX3_init 7 = .ok (.newarray .int, 2) := by decide +kernel
theorem dX3_init_9 : decode cX3_init 9 = .ok (.putfield 9, 3) := by decide +kernel
theorem dX3_init_12 : decode cX3_init 12 = .ok (.aload_n 0, 1) := by decide +kernel
theorem dX3_init_13 : decode cX3_init 13 = .ok (.bipush 8, 2) := by decide +kernel
theorem dX3_init_15 : decode cX3_init 15 = .ok (.newarray .int, 2) := by decide +kernel
theorem dX3_init_17 : decode cX3_init 17 = .ok (.putfield 15, 3) := by decide +kernel
theorem dX3_init_20 : decode cX3_init 20 = .ok (.aload_n 0, 1) := by decide +kernel
theorem dX3_init_21 : decode cX3_init 21 = .ok (.aload_n 1, 1) := by decide +kernel
theorem dX3_init_22 : decode cX3_init 22 = .ok (.putfield 18, 3) := by decide +kernel
theorem dX3_init_25 : decode cX3_init 25 = .ok (.aload_n 0, 1) := by decide +kernel
theorem dX3_init_26 : decode cX3_init 26 = .ok (.aload_n 2, 1) := by decide +kernel
theorem dX3_init_27 : decode cX3_init 27 = .ok (.putfield 22, 3) := by decide +kernel
theorem dX3_init_30 : decode cX3_init 30 = .ok (.return_, 1) := by decide +kernel
theorem dX3_give_0 : decode cX3_give 0 = .ok (.aload_n 0, 1) := by decide +kernel
theorem dX3_give_1 : decode cX3_give 1 = .ok (.iconst (-1), 1) := by decide +kernel
theorem dX3_give_2 : decode cX3_give 2 = .ok (.putfield 26, 3) := by decide +kernel
theorem dX3_give_5 : decode cX3_give 5 = .ok (.aload_n 0, 1) := by decide +kernel
theorem dX3_give_6 : decode cX3_give 6 = .ok (.iconst 0, 1) := by decide +kernel
theorem dX3_give_7 : decode cX3_give 7 = .ok (.aload_n 0, 1) := by decide +kernel
theorem dX3_give_8 : decode cX3_give 8 = .ok (.getfield 22, 3) := by decide +kernel
theorem dX3_give_11 : decode cX3_give 11 = .ok (.getfield 30, 3) := by decide +kernel
theorem dX3_give_14 : decode cX3_give 14 = .ok (.iconst 0, 1) := by decide +kernel
theorem dX3_give_15 : decode cX3_give 15 = .ok (.invokevirtual 35, 3) := by decide +kernel
theorem dX3_give_18 : decode cX3_give 18 = .ok (.return_, 1) := by decide +kernel
theorem dX3_giveFrom_0 : decode cX3_giveFrom 0 = .ok (.iload_n 1, 1) := by decide +kernel
theorem dX3_giveFrom_1 : decode cX3_giveFrom 1 = .ok (.aload_n 0, 1) := by decide +kernel
theorem dX3_giveFrom_2 : decode cX3_giveFrom 2 = .ok (.getfield 18, 3) := by decide +kernel
theorem dX3_giveFrom_5 : decode cX3_giveFrom 5 = .ok (.getfield 39, 3) := by decide +kernel
theorem dX3_giveFrom_8 : decode cX3_giveFrom 8 = .ok (.if_icmp .ge 9, 3) := by decide +kernel
theorem dX3_giveFrom_11 : decode cX3_giveFrom 11 = .ok (.iload_n 1, 1) := by decide +kernel
theorem dX3_giveFrom_12 : decode cX3_giveFrom 12 = .ok (.bipush 8, 2) := by decide +kernel
theorem dX3_giveFrom_14 : decode cX3_giveFrom 14 = .ok (.if_icmp .lt 9, 3) := by decide +kernel
theorem dX3_giveFrom_17 : decode cX3_giveFrom 17 = .ok (.aload_n 0, 1) := by decide +kernel
theorem dX3_giveFrom_18 : decode cX3_giveFrom 18 = .ok (.iload_n 3, 1) := by decide +kernel
theorem dX3_giveFrom_19 : decode cX3_giveFrom 19 = .ok (.invokevirtual 44, 3) := by decide +kernel
theorem dX3_giveFrom_22 : decode cX3_giveFrom 22 = .ok (.return_, 1) := by decide +kernel
theorem dX3_giveFrom_23 : decode cX3_giveFrom 23 = .ok (.aload_n 0, 1) := by decide +kernel
theorem dX3_giveFrom_24 : decode cX3_giveFrom 24 = .ok (.getfield 9, 3) := by decide +kernel
theorem dX3_giveFrom_27 : decode cX3_giveFrom 27 = .ok (.iload_n 1, 1) := by decide +kernel
theorem dX3_giveFrom_28 : decode cX3_giveFrom 28 = .ok (.iconst (-1), 1) := by decide +kernel
theorem dX3_giveFrom_29 : decode cX3_giveFrom 29 = .ok (.iastore, 1) := by decide +kernel
theorem dX3_giveFrom_30 : decode cX3_giveFrom 30 = .ok (.aload_n 0, 1) := by decide +kernel
theorem dX3_giveFrom_31 : decode cX3_giveFrom 31 = .ok (.iload_n 1, 1) := by decide +kernel
theorem dX3_giveFrom_32 : decode cX3_giveFrom 32 = .ok (.iconst 1, 1) := by decide +kernel
theorem dX3_giveFrom_33 : decode cX3_giveFrom 33 = .ok (.iadd, 1) := by decide +kernel
theorem dX3_giveFrom_34 : decode cX3_giveFrom 34 = .ok (.iload_n 2, 1) := by decide +kernel
theorem dX3_giveFrom_35 : decode cX3_giveFrom 35 = .ok (.iload_n 3, 1) := by decide +kernel
theorem dX3_giveFrom_36 : decode cX3_giveFrom 36 = .ok (.invokevirtual 35, 3) := by decide +kernel
theorem dX3_giveFrom_39 : decode cX3_giveFrom 39 = .ok (.aload_n 0, 1) := by decide +kernel
theorem dX3_giveFrom_40 : decode cX3_giveFrom 40 = .ok (.getfield 22, 3) := by decide +kernel
theorem dX3_giveFrom_43 : decode cX3_giveFrom 43 = .ok (.getfield 48, 3) := by decide +kernel
theorem dX3_giveFrom_46 : decode cX3_giveFrom 46 = .ok (.iload_n 1, 1) := by decide +kernel
theorem dX3_giveFrom_47 : decode cX3_giveFrom 47 = .ok (.invokestatic 51, 3) := by decide +kernel
theorem dX3_giveFrom_50 : decode cX3_giveFrom 50 = .ok (.ifCond .eq 14, 3) := by decide +kernel
theorem dX3_giveFrom_53 : decode cX3_giveFrom 53 = .ok (.aload_n 0, 1) := by decide +kernel
theorem dX3_giveFrom_54 : decode cX3_giveFrom 54 = .ok (.getfield 18, 3) := by decide +kernel
theorem dX3_giveFrom_57 : decode cX3_giveFrom 57 = .ok (.iload_n 1, 1) := by decide +kernel
theorem dX3_giveFrom_58 : decode cX3_giveFrom 58 = .ok (.invokevirtual 55, 3) := by decide +kernel
theorem dX3_giveFrom_61 : decode cX3_giveFrom 61 = .ok (.ifCond .eq 4, 3) := by decide +kernel
theorem dX3_giveFrom_64 : decode cX3_giveFrom 64 = .ok (.return_, 1) := by decide +kernel
theorem dX3_giveFrom_65 : decode cX3_giveFrom 65 = .ok (.iconst 0, 1) := by decide +kernel
theorem dX3_giveFrom_66 : decode cX3_giveFrom 66 = .ok (.istore 4, 2) := by decide +kernel
theorem dX3_giveFrom_68 : decode cX3_giveFrom 68 = .ok (.iload 4, 2) := by decide +kernel
theorem dX3_giveFrom_70 : decode cX3_giveFrom 70 = .ok (.aload_n 0, 1) := by decide +kernel
theorem dX3_giveFrom_71 : decode cX3_giveFrom 71 = .ok (.getfield 18, 3) := by decide +kernel
theorem dX3_giveFrom_74 : decode cX3_giveFrom 74 = .ok (.getfield 39, 3) := by decide +kernel
theorem dX3_giveFrom_77 : decode cX3_giveFrom 77 = .ok (.if_icmp .ge 37, 3) := by decide +kernel
theorem dX3_giveFrom_80 : decode cX3_giveFrom 80 = .ok (.iload_n 2, 1) := by decide +kernel
theorem dX3_giveFrom_81 : decode cX3_giveFrom 81 = .ok (.iload 4, 2) := by decide +kernel
theorem dX3_giveFrom_83 : decode cX3_giveFrom 83 = .ok (.invokestatic 51, 3) := by decide +kernel
theorem dX3_giveFrom_86 : decode cX3_giveFrom 86 = .ok (.ifCond .eq 22, 3) := by decide +kernel
theorem dX3_giveFrom_89 : decode cX3_giveFrom 89 = .ok (.aload_n 0, 1) := by decide +kernel
theorem dX3_giveFrom_90 : decode cX3_giveFrom 90 = .ok (.iload_n 1, 1) := by decide +kernel
theorem dX3_giveFrom_91 : decode cX3_giveFrom 91 = .ok (.iload 4, 2) := by decide +kernel
theorem dX3_giveFrom_93 : decode cX3_giveFrom 93 = .ok (.invokevirtual 59, 3) := by decide +kernel
theorem dX3_giveFrom_96 : decode cX3_giveFrom 96 = .ok (.ifCond .eq 12, 3) := by decide +kernel
theorem dX3_giveFrom_99 : decode cX3_giveFrom 99 = .ok (.aload_n 0, 1) := by decide +kernel
theorem dX3_giveFrom_100 : decode cX3_giveFrom 100 = .ok (.iload 4, 2) := by decide +kernel
theorem dX3_giveFrom_102 : decode cX3_giveFrom 102 = .ok (.iload_n 1, 1) := by decide +kernel
theorem dX3_giveFrom_103 : decode cX3_giveFrom 103 = .ok (.iload_n 2, 1) := by decide +kernel
theorem dX3_giveFrom_104 : decode cX3_giveFrom 104 = .ok (.iload_n 3, 1) := by decide +kernel
theorem dX3_giveFrom_105 : decode cX3_giveFrom 105 = .ok (.invokevirtual 62, 3) := by decide +kernel
theorem dX3_giveFrom_108 : decode cX3_giveFrom 108 = .ok (.iinc 4 1, 3) := by decide +kernel
theorem dX3_giveFrom_111 : decode cX3_giveFrom 111 = .ok (.goto (-43), 3) := by decide +kernel
theorem dX3_giveFrom_114 : decode cX3_giveFrom 114 = .ok (.return_, 1) := by decide +kernel
theorem dX3_giveTo_0 : decode cX3_giveTo 0 = .ok (.aload_n 0, 1) := by decide +kernel
theorem dX3_giveTo_1 : decode cX3_giveTo 1 = .ok (.getfield 18, 3) := by decide +kernel
theorem dX3_giveTo_4 : decode cX3_giveTo 4 = .ok (.getfield 66, 3) := by decide +kernel
theorem dX3_giveTo_7 : decode cX3_giveTo 7 = .ok (.iload_n 2, 1) := by decide +kernel
theorem dX3_giveTo_8 : decode cX3_giveTo 8 = .ok (.iaload, 1) := by decide +kernel
theorem dX3_giveTo_9 : decode cX3_giveTo 9 = .ok (.aload_n 0, 1) := by decide +kernel
theorem dX3_giveTo_10 : decode cX3_giveTo 10 = .ok (.getfield 22, 3) := by decide +kernel
theorem dX3_giveTo_13 : decode cX3_giveTo 13 = .ok (.getfield 69, 3) := by decide +kernel
theorem dX3_giveTo_16 : decode cX3_giveTo 16 = .ok (.iload_n 2, 1) := by decide +kernel
theorem dX3_giveTo_17 : decode cX3_giveTo 17 = .ok (.iaload, 1) := by decide +kernel
theorem dX3_giveTo_18 : decode cX3_giveTo 18 = .ok (.isub, 1) := by decide +kernel
theorem dX3_giveTo_19 : decode cX3_giveTo 19 = .ok (.istore 5, 2) := by decide +kernel
theorem dX3_giveTo_21 : decode cX3_giveTo 21 = .ok (.aload_n 0, 1) := by decide +kernel
theorem dX3_giveTo_22 : decode cX3_giveTo 22 = .ok (.getfield 9, 3) := by decide +kernel
theorem dX3_giveTo_25 : decode cX3_giveTo 25 = .ok (.iload_n 2, 1) := by decide +kernel
theorem dX3_giveTo_26 : decode cX3_giveTo 26 = .ok (.iload_n 1, 1) := by decide +kernel
theorem dX3_giveTo_27 : decode cX3_giveTo 27 = .ok (.iastore, 1) := by decide +kernel
theorem dX3_giveTo_28 : decode cX3_giveTo 28 = .ok (.aload_n 0, 1) := by decide +kernel
theorem dX3_giveTo_29 : decode cX3_giveTo 29 = .ok (.iload_n 2, 1) := by decide +kernel
theorem dX3_giveTo_30 : decode cX3_giveTo 30 = .ok (.iconst 1, 1) := by decide +kernel
theorem dX3_giveTo_31 : decode cX3_giveTo 31 = .ok (.iadd, 1) := by decide +kernel
theorem dX3_giveTo_32 : decode cX3_giveTo 32 = .ok (.iload_n 3, 1) := by decide +kernel
theorem dX3_giveTo_33 : decode cX3_giveTo 33 = .ok (.iload_n 1, 1) := by decide +kernel
theorem dX3_giveTo_34 : decode cX3_giveTo 34 = .ok (.invokestatic 72, 3) := by decide +kernel
theorem dX3_giveTo_37 : decode cX3_giveTo 37 = .ok (.iconst (-1), 1) := by decide +kernel
theorem dX3_giveTo_38 : decode cX3_giveTo 38 = .ok (.ixor, 1) := by decide +kernel
theorem dX3_giveTo_39 : decode cX3_giveTo 39 = .ok (.iand, 1) := by decide +kernel
theorem dX3_giveTo_40 : decode cX3_giveTo 40 = .ok (.iload 4, 2) := by decide +kernel
theorem dX3_giveTo_42 : decode cX3_giveTo 42 = .ok (.iload 5, 2) := by decide +kernel
theorem dX3_giveTo_44 : decode cX3_giveTo 44 = .ok (.iadd, 1) := by decide +kernel
theorem dX3_giveTo_45 : decode cX3_giveTo 45 = .ok (.invokevirtual 35, 3) := by decide +kernel
theorem dX3_giveTo_48 : decode cX3_giveTo 48 = .ok (.return_, 1) := by decide +kernel
theorem dX3_fits_0 : decode cX3_fits 0 = .ok (.aload_n 0, 1) := by decide +kernel
theorem dX3_fits_1 : decode cX3_fits 1 = .ok (.getfield 18, 3) := by decide +kernel
theorem dX3_fits_4 : decode cX3_fits 4 = .ok (.iload_n 2, 1) := by decide +kernel
theorem dX3_fits_5 : decode cX3_fits 5 = .ok (.invokevirtual 55, 3) := by decide +kernel
theorem dX3_fits_8 : decode cX3_fits 8 = .ok (.ifCond .ne 28, 3) := by decide +kernel
theorem dX3_fits_11 : decode cX3_fits 11 = .ok (.aload_n 0, 1) := by decide +kernel
theorem dX3_fits_12 : decode cX3_fits 12 = .ok (.getfield 22, 3) := by decide +kernel
theorem dX3_fits_15 : decode cX3_fits 15 = .ok (.getfield 76, 3) := by decide +kernel
theorem dX3_fits_18 : decode cX3_fits 18 = .ok (.iload_n 2, 1) := by decide +kernel
theorem dX3_fits_19 : decode cX3_fits 19 = .ok (.iaload, 1) := by decide +kernel
theorem dX3_fits_20 : decode cX3_fits 20 = .ok (.aload_n 0, 1) := by decide +kernel
theorem dX3_fits_21 : decode cX3_fits 21 = .ok (.getfield 22, 3) := by decide +kernel
theorem dX3_fits_24 : decode cX3_fits 24 = .ok (.getfield 76, 3) := by decide +kernel
theorem dX3_fits_27 : decode cX3_fits 27 = .ok (.iload_n 1, 1) := by decide +kernel
theorem dX3_fits_28 : decode cX3_fits 28 = .ok (.iaload, 1) := by decide +kernel
theorem dX3_fits_29 : decode cX3_fits 29 = .ok (.if_icmp .ne 7, 3) := by decide +kernel
theorem dX3_fits_32 : decode cX3_fits 32 = .ok (.iconst 1, 1) := by decide +kernel
theorem dX3_fits_33 : decode cX3_fits 33 = .ok (.goto 4, 3) := by decide +kernel
theorem dX3_fits_36 : decode cX3_fits 36 = .ok (.iconst 0, 1) := by decide +kernel
theorem dX3_fits_37 : decode cX3_fits 37 = .ok (.ireturn, 1) := by decide +kernel
theorem dX3_take_0 : decode cX3_take 0 = .ok (.iload_n 1, 1) := by decide +kernel
theorem dX3_take_1 : decode cX3_take 1 = .ok (.aload_n 0, 1) := by decide +kernel
theorem dX3_take_2 : decode cX3_take 2 = .ok (.getfield 26, 3) := by decide +kernel
theorem dX3_take_5 : decode cX3_take 5 = .ok (.if_icmp .le 23, 3) := by decide +kernel
theorem dX3_take_8 : decode cX3_take 8 = .ok (.aload_n 0, 1) := by decide +kernel
theorem dX3_take_9 : decode cX3_take 9 = .ok (.iload_n 1, 1) := by decide +kernel
theorem dX3_take_10 : decode cX3_take 10 = .ok (.putfield 26, 3) := by decide +kernel
theorem dX3_take_13 : decode cX3_take 13 = .ok (.aload_n 0, 1) := by decide +kernel
theorem dX3_take_14 : decode cX3_take 14 = .ok (.getfield 9, 3) := by decide +kernel
theorem dX3_take_17 : decode cX3_take 17 = .ok (.iconst 0, 1) := by decide +kernel
theorem dX3_take_18 : decode cX3_take 18 = .ok (.aload_n 0, 1) := by decide +kernel
theorem dX3_take_19 : decode cX3_take 19 = .ok (.getfield 15, 3) := by decide +kernel
theorem dX3_take_22 : decode cX3_take 22 = .ok (.iconst 0, 1) := by decide +kernel
theorem dX3_take_23 : decode cX3_take 23 = .ok (.bipush 8, 2) := by decide +kernel
theorem dX3_take_25 : decode cX3_take 25 = .ok (.invokestatic 79, 3) := by decide +kernel
theorem dX3_take_28 : decode cX3_take 28 = .ok (.return_, 1) := by decide +kernel
theorem dX4_init_0 : decode cX4_init 0 = .ok (.aload_n 0, 1) := by decide +kernel
theorem dX4_init_1 : decode cX4_init 1 = .ok (.invokespecial 3, 3) := by decide +kernel
theorem dX4_init_4 : decode cX4_init 4 = .ok (.aload_n 0, 1) := by decide +kernel
theorem dX4_init_5 : decode cX4_init 5 = .ok (.bipush 8, 2) := by decide +kernel
theorem dX4_init_7 : decode cX4_init 7 = .ok (.newarray .int, 2) := by decide +kernel
theorem dX4_init_9 : decode cX4_init 9 = .ok (.putfield 9, 3) := by decide +kernel
theorem dX4_init_12 : decode cX4_init 12 = .ok (.aload_n 0, 1) := by decide +kernel
theorem dX4_init_13 : decode cX4_init 13 = .ok (.bipush 8, 2) := by decide +kernel
theorem dX4_init_15 : decode cX4_init 15 = .ok (.newarray .int, 2) := by decide +kernel
theorem dX4_init_17 : decode cX4_init 17 = .ok (.putfield 15, 3) := by decide +kernel
theorem dX4_init_20 : decode cX4_init 20 = .ok (.aload_n 0, 1) := by decide +kernel
theorem dX4_init_21 : decode cX4_init 21 = .ok (.bipush 8, 2) := by decide +kernel
theorem dX4_init_23 : decode cX4_init 23 = .ok (.newarray .int, 2) := by decide +kernel
theorem dX4_init_25 : decode cX4_init 25 = .ok (.putfield 18, 3) := by decide +kernel
theorem dX4_init_28 : decode cX4_init 28 = .ok (.aload_n 0, 1) := by decide +kernel
theorem dX4_init_29 : decode cX4_init 29 = .ok (.bipush 8, 2) := by decide +kernel
theorem dX4_init_31 : decode cX4_init 31 = .ok (.newarray .int, 2) := by decide +kernel
theorem dX4_init_33 : decode cX4_init 33 = .ok (.putfield 21, 3) := by decide +kernel
theorem dX4_init_36 : decode cX4_init 36 = .ok (.aload_n 0, 1) := by decide +kernel
theorem dX4_init_37 : decode cX4_init 37 = .ok (.bipush 8, 2) := by decide +kernel
theorem dX4_init_39 : decode cX4_init 39 = .ok (.newarray .int, 2) := by decide +kernel
theorem dX4_init_41 : decode cX4_init 41 = .ok (.putfield 24, 3) := by decide +kernel
theorem dX4_init_44 : decode cX4_init 44 = .ok (.aload_n 0, 1) := by decide +kernel
theorem dX4_init_45 : decode cX4_init 45 = .ok (.bipush 6, 2) := by decide +kernel
theorem dX4_init_47 : decode cX4_init 47 = .ok (.newarray .int, 2) := by decide +kernel
theorem dX4_init_49 : decode cX4_init 49 = .ok (.putfield 27, 3) := by decide +kernel
theorem dX4_init_52 : decode cX4_init 52 = .ok (.aload_n 0, 1) := by decide +kernel
theorem dX4_init_53 : decode cX4_init 53 = .ok (.bipush 6, 2) := by decide +kernel
theorem dX4_init_55 : decode cX4_init 55 = .ok (.newarray .int, 2) := by decide +kernel
theorem dX4_init_57 : decode cX4_init 57 = .ok (.putfield 30, 3) := by decide +kernel
theorem dX4_init_60 : decode cX4_init 60 = .ok (.return_, 1) := by decide +kernel
theorem dX4_copyFrom_0 : decode cX4_copyFrom 0 = .ok (.aload_n 0, 1) := by decide +kernel
theorem dX4_copyFrom_1 : decode cX4_copyFrom 1 = .ok (.aload_n 1, 1) := by decide +kernel
theorem dX4_copyFrom_2 : decode cX4_copyFrom 2 = .ok (.getfield 33, 3) := by decide +kernel
theorem dX4_copyFrom_5 : decode cX4_copyFrom 5 = .ok (.putfield 33, 3) := by decide +kernel
theorem dX4_copyFrom_8 : decode cX4_copyFrom 8 = .ok (.aload_n 0, 1) := by decide +kernel
theorem dX4_copyFrom_9 : decode cX4_copyFrom 9 = .ok (.aload_n 1, 1) := by decide +kernel
theorem dX4_copyFrom_10 : decode cX4_copyFrom 10 = .ok (.getfield 37, 3) := by decide +kernel
theorem dX4_copyFrom_13 : decode cX4_copyFrom 13 = .ok (.putfield 37, 3) := by decide +kernel
theorem dX4_copyFrom_16 : decode cX4_copyFrom 16 = .ok (.aload_n 1, 1) := by decide +kernel
theorem dX4_copyFrom_17 : decode cX4_copyFrom 17 = .ok (.getfield 9, 3) := by decide +kernel
theorem dX4_copyFrom_20 : decode cX4_copyFrom 20 = .ok (.iconst 0, 1) := by decide +kernel
theorem dX4_copyFrom_21 : decode cX4_copyFrom 21 = .ok (.aload_n 0, 1) := by decide +kernel
theorem dX4_copyFrom_22 : decode cX4_copyFrom 22 = .ok (.getfield 9, 3) := by decide +kernel
theorem dX4_copyFrom_25 : decode cX4_copyFrom 25 = .ok (.iconst 0, 1) := by decide +kernel
theorem dX4_copyFrom_26 : decode cX4_copyFrom 26 = .ok (.bipush 8, 2) := by decide +kernel
theorem dX4_copyFrom_28 : decode cX4_copyFrom 28 = .ok (.invokestatic 40, 3) := by decide +kernel
theorem dX4_copyFrom_31 : decode cX4_copyFrom 31 = .ok (.aload_n 1, 1) := by decide +kernel
theorem dX4_copyFrom_32 : decode cX4_copyFrom 32 = .ok (.getfield 15, 3) := by decide +kernel
theorem dX4_copyFrom_35 : decode cX4_copyFrom 35 = .ok (.iconst 0, 1) := by decide +kernel
theorem dX4_copyFrom_36 : decode cX4_copyFrom 36 = .ok (.aload_n 0, 1) := by decide +kernel
theorem dX4_copyFrom_37 : decode cX4_copyFrom 37 = .ok (.getfield 15, 3) := by decide +kernel
theorem dX4_copyFrom_40 : decode cX4_copyFrom 40 = .ok (.iconst 0, 1) := by decide +kernel
theorem dX4_copyFrom_41 : decode cX4_copyFrom 41 = .ok (.bipush 8, 2) := by decide +kernel
theorem dX4_copyFrom_43 : decode cX4_copyFrom 43 = .ok (.invokestatic 40, 3) := by decide +kernel
theorem dX4_copyFrom_46 : decode cX4_copyFrom 46 = .ok (.aload_n 1, 1) := by decide +kernel
theorem dX4_copyFrom_47 : decode cX4_copyFrom 47 = .ok (.getfield 18, 3) := by decide +kernel
theorem dX4_copyFrom_50 : decode cX4_copyFrom 50 = .ok (.iconst 0, 1) := by decide +kernel
theorem dX4_copyFrom_51 : decode cX4_copyFrom 51 = .ok (.aload_n 0, 1) := by decide +kernel
theorem dX4_copyFrom_52 : decode cX4_copyFrom 52 = .ok (.getfield 18, 3) := by decide +kernel
theorem dX4_copyFrom_55 : decode cX4_copyFrom 55 = .ok (.iconst 0, 1) := by decide +kernel
theorem dX4_copyFrom_56 : decode cX4_copyFrom 56 = .ok (.bipush 8, 2) := by decide +kernel
theorem dX4_copyFrom_58 : decode cX4_copyFrom 58 = .ok (.invokestatic 40, 3) := by decide +kernel
theorem dX4_copyFrom_61 : decode cX4_copyFrom 61 = .ok (.aload_n 1, 1) := by decide +kernel
theorem dX4_copyFrom_62 : decode cX4_copyFrom 62 = .ok (.getfield 21, 3) := by decide +kernel
theorem dX4_copyFrom_65 : decode cX4_copyFrom 65 = .ok (.iconst 0, 1) := by decide +kernel
theorem dX4_copyFrom_66 : decode cX4_copyFrom 66 = .ok (.aload_n 0, 1) := by decide +kernel
theorem dX4_copyFrom_67 : decode cX4_copyFrom 67 = .ok (.getfield 21, 3) := by decide +kernel
theorem dX4_copyFrom_70 : decode cX4_copyFrom 70 = .ok (.iconst 0, 1) := by decide +kernel
theorem dX4_copyFrom_71 : decode cX4_copyFrom 71 = .ok (.bipush 8, 2) := by decide +kernel
theorem dX4_copyFrom_73 : decode cX4_copyFrom 73 = .ok (.invokestatic 40, 3) := by decide +kernel
theorem dX4_copyFrom_76 : decode cX4_copyFrom 76 = .ok (.aload_n 1, 1) := by decide +kernel
theorem dX4_copyFrom_77 : decode cX4_copyFrom 77 = .ok (.getfield 24, 3) := by decide +kernel
theorem dX4_copyFrom_80 : decode cX4_copyFrom 80 = .ok (.iconst 0, 1) := by decide +kernel
theorem dX4_copyFrom_81 : decode cX4_copyFrom 81 = .ok (.aload_n 0, 1) := by decide +kernel
theorem dX4_copyFrom_82 : decode cX4_copyFrom 82 = .ok (.getfield 24, 3) := by decide +kernel
theorem dX4_copyFrom_85 : decode cX4_copyFrom 85 = .ok (.iconst 0, 1) := by decide +kernel
theorem dX4_copyFrom_86 : decode cX4_copyFrom 86 = .ok (.bipush 8, 2) := by decide +kernel
theorem dX4_copyFrom_88 : decode cX4_copyFrom 88 = .ok (.invokestatic 40, 3) := by decide +kernel
theorem dX4_copyFrom_91 : decode cX4_copyFrom 91 = .ok (.aload_n 1, 1) := by decide +kernel
theorem dX4_copyFrom_92 : decode cX4_copyFrom 92 = .ok (.getfield 27, 3) := by decide +kernel
theorem dX4_copyFrom_95 : decode cX4_copyFrom 95 = .ok (.iconst 0, 1) := by decide +kernel
theorem dX4_copyFrom_96 : decode cX4_copyFrom 96 = .ok (.aload_n 0, 1) := by decide +kernel
theorem dX4_copyFrom_97 : decode cX4_copyFrom 97 = .ok (.getfield 27, 3) := by decide +kernel
theorem dX4_copyFrom_100 : decode cX4_copyFrom 100 = .ok (.iconst 0, 1) := by decide +kernel
theorem dX4_copyFrom_101 : decode cX4_copyFrom 101 = .ok (.bipush 6, 2) := by decide +kernel
theorem dX4_copyFrom_103 : decode cX4_copyFrom 103 = .ok (.invokestatic 40, 3) := by decide +kernel
theorem dX4_copyFrom_106 : decode cX4_copyFrom 106 = .ok (.aload_n 1, 1) := by decide +kernel
theorem dX4_copyFrom_107 : decode cX4_copyFrom 107 = .ok (.getfield 30, 3) := by decide +kernel
theorem dX4_copyFrom_110 : decode cX4_copyFrom 110 = .ok (.iconst 0, 1) := by decide +kernel
theorem dX4_copyFrom_111 : decode cX4_copyFrom 111 = .ok (.aload_n 0, 1) := by decide +kernel
theorem dX4_copyFrom_112 : decode cX4_copyFrom 112 = .ok (.getfield 30, 3) := by decide +kernel
theorem dX4_copyFrom_115 : decode cX4_copyFrom 115 = .ok (.iconst 0, 1) := by decide +kernel
theorem dX4_copyFrom_116 : decode cX4_copyFrom 116 = .ok (.bipush 6, 2) := by decide +kernel
theorem dX4_copyFrom_118 : decode cX4_copyFrom 118 = .ok (.invokestatic 40, 3) := by decide +kernel
theorem dX4_copyFrom_121 : decode cX4_copyFrom 121 = .ok (.return_, 1) := by decide +kernel
theorem dX4_hasRoomFor_0 : decode cX4_hasRoomFor 0 = .ok (.iload_n 1, 1) := by decide +kernel
theorem dX4_hasRoomFor_1 : decode cX4_hasRoomFor 1 = .ok (.iconst 3, 1) := by decide +kernel
theorem dX4_hasRoomFor_2 : decode cX4_hasRoomFor 2 = .ok (.if_icmp .gt 18, 3) := by decide +kernel
theorem dX4_hasRoomFor_5 : decode cX4_hasRoomFor 5 = .ok (.aload_n 0, 1) := by decide +kernel
theorem dX4_hasRoomFor_6 : decode cX4_hasRoomFor 6 = .ok (.getfield 33, 3) := by decide +kernel
theorem dX4_hasRoomFor_9 : decode cX4_hasRoomFor 9 = .ok (.bipush 8, 2) := by decide +kernel
theorem dX4_hasRoomFor_11 : decode cX4_hasRoomFor 11 = .ok (.if_icmp .ge 7, 3) := by decide +kernel
theorem dX4_hasRoomFor_14 : decode cX4_hasRoomFor 14 = .ok (.iconst 1, 1) := by decide +kernel
theorem dX4_hasRoomFor_15 : decode cX4_hasRoomFor 15 = .ok (.goto 4, 3) := by decide +kernel
theorem dX4_hasRoomFor_18 : decode cX4_hasRoomFor 18 = .ok (.iconst 0, 1) := by decide +kernel
theorem dX4_hasRoomFor_19 : decode cX4_hasRoomFor 19 = .ok (.ireturn, 1) := by decide +kernel
theorem dX4_hasRoomFor_20 : decode cX4_hasRoomFor 20 = .ok (.iload_n 1, 1) := by decide +kernel
theorem dX4_hasRoomFor_21 : decode cX4_hasRoomFor 21 = .ok (.bipush 6, 2) := by decide +kernel
theorem dX4_hasRoomFor_23 : decode cX4_hasRoomFor 23 = .ok (.if_icmp .ne 12, 3) := by decide +kernel
theorem dX4_hasRoomFor_26 : decode cX4_hasRoomFor 26 = .ok (.aload_n 0, 1) := by decide +kernel
theorem dX4_hasRoomFor_27 : decode cX4_hasRoomFor 27 = .ok (.getfield 37, 3) := by decide +kernel
theorem dX4_hasRoomFor_30 : decode cX4_hasRoomFor 30 = .ok (.bipush 6, 2) := by decide +kernel
theorem dX4_hasRoomFor_32 : decode cX4_hasRoomFor 32 = .ok (.if_icmp .ge 7, 3) := by decide +kernel
theorem dX4_hasRoomFor_35 : decode cX4_hasRoomFor 35 = .ok (.iconst 1, 1) := by decide +kernel
theorem dX4_hasRoomFor_36 : decode cX4_hasRoomFor 36 = .ok (.goto 4, 3) := by decide +kernel
theorem dX4_hasRoomFor_39 : decode cX4_hasRoomFor 39 = .ok (.iconst 0, 1) := by decide +kernel
theorem dX4_hasRoomFor_40 : decode cX4_hasRoomFor 40 = .ok (.ireturn, 1) := by decide +kernel
theorem dX4_addThread_0 : decode cX4_addThread 0 = .ok (.aload_n 0, 1) := by decide +kernel
theorem dX4_addThread_1 : decode cX4_addThread 1 = .ok (.getfield 33, 3) := by decide +kernel
theorem dX4_addThread_4 : decode cX4_addThread 4 = .ok (.bipush 8, 2) := by decide +kernel
theorem dX4_addThread_6 : decode cX4_addThread 6 = .ok (.if_icmp .lt 4, 3) := by decide +kernel
theorem dX4_addThread_9 : decode cX4_addThread 9 = .ok (.return_, 1) := by decide +kernel
theorem dX4_addThread_10 : decode cX4_addThread 10 = .ok (.aload_n 0, 1) := by decide +kernel
theorem dX4_addThread_11 : decode cX4_addThread 11 = .ok (.getfield 9, 3) := by decide +kernel
theorem dX4_addThread_14 : decode cX4_addThread 14 = .ok (.aload_n 0, 1) := by decide +kernel
theorem dX4_addThread_15 : decode cX4_addThread 15 = .ok (.getfield 33, 3) := by decide +kernel
theorem dX4_addThread_18 : decode cX4_addThread 18 = .ok (.iload_n 1, 1) := by decide +kernel
theorem dX4_addThread_19 : decode cX4_addThread 19 = .ok (.iastore, 1) := by decide +kernel
theorem dX4_addThread_20 : decode cX4_addThread 20 = .ok (.aload_n 0, 1) := by decide +kernel
theorem dX4_addThread_21 : decode cX4_addThread 21 = .ok (.getfield 15, 3) := by decide +kernel
theorem dX4_addThread_24 : decode cX4_addThread 24 = .ok (.aload_n 0, 1) := by decide +kernel
theorem dX4_addThread_25 : decode cX4_addThread 25 = .ok (.getfield 33, 3) := by decide +kernel
theorem dX4_addThread_28 : decode cX4_addThread 28 = .ok (.iload_n 2, 1) := by decide +kernel
theorem dX4_addThread_29 : decode cX4_addThread 29 = .ok (.iastore, 1) := by decide +kernel
theorem dX4_addThread_30 : decode cX4_addThread 30 = .ok (.aload_n 0, 1) := by decide +kernel
theorem dX4_addThread_31 : decode cX4_addThread 31 = .ok (.getfield 18, 3) := by decide +kernel
theorem dX4_addThread_34 : decode cX4_addThread 34 = .ok (.aload_n 0, 1) := by decide +kernel
theorem dX4_addThread_35 : decode cX4_addThread 35 = .ok (.getfield 33, 3) := by decide +kernel
theorem dX4_addThread_38 : decode cX4_addThread 38 = .ok (.iload_n 3, 1) := by decide +kernel
theorem dX4_addThread_39 : decode cX4_addThread 39 = .ok (.iastore, 1) := by decide +kernel
theorem dX4_addThread_40 : decode cX4_addThread 40 = .ok (.aload_n 0, 1) := by decide +kernel
theorem dX4_addThread_41 : decode cX4_addThread 41 = .ok (.dup, 1) := by decide +kernel
theorem dX4_addThread_42 : decode cX4_addThread 42 = .ok (.getfield 33, 3) := by decide +kernel
theorem dX4_addThread_45 : decode cX4_addThread 45 = .ok (.iconst 1, 1) := by decide +kernel
theorem dX4_addThread_46 : decode cX4_addThread 46 = .ok (.iadd, 1) := by decide +kernel
theorem dX4_addThread_47 : decode cX4_addThread 47 = .ok (.putfield 33, 3) := by decide +kernel
theorem dX4_addThread_50 : decode cX4_addThread 50 = .ok (.return_, 1) := by decide +kernel
theorem dX4_addOrder_0 : decode cX4_addOrder 0 = .ok (.aload_n 0, 1) := by decide +kernel
theorem dX4_addOrder_1 : decode cX4_addOrder 1 = .ok (.getfield 37, 3) := by decide +kernel
theorem dX4_addOrder_4 : decode cX4_addOrder 4 = .ok (.bipush 6, 2) := by decide +kernel
theorem dX4_addOrder_6 : decode cX4_addOrder 6 = .ok (.if_icmp .lt 4, 3) := by decide +kernel
theorem dX4_addOrder_9 : decode cX4_addOrder 9 = .ok (.return_, 1) := by decide +kernel
theorem dX4_addOrder_10 : decode cX4_addOrder 10 = .ok (.aload_n 0, 1) := by decide +kernel
theorem dX4_addOrder_11 : decode cX4_addOrder 11 = .ok (.getfield 27, 3) := by decide +kernel
theorem dX4_addOrder_14 : decode cX4_addOrder 14 = .ok (.aload_n 0, 1) := by decide +kernel
theorem dX4_addOrder_15 : decode cX4_addOrder 15 = .ok (.getfield 37, 3) := by decide +kernel
theorem dX4_addOrder_18 : decode cX4_addOrder 18 = .ok (.iload_n 1, 1) := by decide +kernel
theorem dX4_addOrder_19 : decode cX4_addOrder 19 = .ok (.iastore, 1) := by decide +kernel
theorem dX4_addOrder_20 : decode cX4_addOrder 20 = .ok (.aload_n 0, 1) := by decide +kernel
theorem dX4_addOrder_21 : decode cX4_addOrder 21 = .ok (.getfield 30, 3) := by decide +kernel
theorem dX4_addOrder_24 : decode cX4_addOrder 24 = .ok (.aload_n 0, 1) := by decide +kernel
theorem dX4_addOrder_25 : decode cX4_addOrder 25 = .ok (.getfield 37, 3) := by decide +kernel
theorem dX4_addOrder_28 : decode cX4_addOrder 28 = .ok (.iload_n 2, 1) := by decide +kernel
theorem dX4_addOrder_29 : decode cX4_addOrder 29 = .ok (.iastore, 1) := by decide +kernel
theorem dX4_addOrder_30 : decode cX4_addOrder 30 = .ok (.aload_n 0, 1) := by decide +kernel
theorem dX4_addOrder_31 : decode cX4_addOrder 31 = .ok (.dup, 1) := by decide +kernel
theorem dX4_addOrder_32 : decode cX4_addOrder 32 = .ok (.getfield 37, 3) := by decide +kernel
theorem dX4_addOrder_35 : decode cX4_addOrder 35 = .ok (.iconst 1, 1) := by decide +kernel
theorem dX4_addOrder_36 : decode cX4_addOrder 36 = .ok (.iadd, 1) := by decide +kernel
theorem dX4_addOrder_37 : decode cX4_addOrder 37 = .ok (.putfield 37, 3) := by decide +kernel
theorem dX4_addOrder_40 : decode cX4_addOrder 40 = .ok (.return_, 1) := by decide +kernel
theorem dX4_empty_0 : decode cX4_empty 0 = .ok (.aload_n 0, 1) := by decide +kernel
theorem dX4_empty_1 : decode cX4_empty 1 = .ok (.iconst 0, 1) := by decide +kernel
theorem dX4_empty_2 : decode cX4_empty 2 = .ok (.putfield 33, 3) := by decide +kernel
theorem dX4_empty_5 : decode cX4_empty 5 = .ok (.aload_n 0, 1) := by decide +kernel
theorem dX4_empty_6 : decode cX4_empty 6 = .ok (.iconst 0, 1) := by decide +kernel
theorem dX4_empty_7 : decode cX4_empty 7 = .ok (.putfield 37, 3) := by decide +kernel
theorem dX4_empty_10 : decode cX4_empty 10 = .ok (.aload_n 0, 1) := by decide +kernel
theorem dX4_empty_11 : decode cX4_empty 11 = .ok (.invokevirtual 46, 3) := by decide +kernel
theorem dX4_empty_14 : decode cX4_empty 14 = .ok (.return_, 1) := by decide +kernel
theorem dX4_loosen_0 : decode cX4_loosen 0 = .ok (.iconst 0, 1) := by decide +kernel
theorem dX4_loosen_1 : decode cX4_loosen 1 = .ok (.istore_n 1, 1) := by decide +kernel
theorem dX4_loosen_2 : decode cX4_loosen 2 = .ok (.iload_n 1, 1) := by decide +kernel
theorem dX4_loosen_3 : decode cX4_loosen 3 = .ok (.bipush 8, 2) := by decide +kernel
theorem dX4_loosen_5 : decode cX4_loosen 5 = .ok (.if_icmp .ge 23, 3) := by decide +kernel
theorem dX4_loosen_8 : decode cX4_loosen 8 = .ok (.aload_n 0, 1) := by decide +kernel
theorem dX4_loosen_9 : decode cX4_loosen 9 = .ok (.getfield 21, 3) := by decide +kernel
theorem dX4_loosen_12 : decode cX4_loosen 12 = .ok (.iload_n 1, 1) := by decide +kernel
theorem dX4_loosen_13 : decode cX4_loosen 13 = .ok (.iconst 0, 1) := by decide +kernel
theorem dX4_loosen_14 : decode cX4_loosen 14 = .ok (.iastore, 1) := by decide +kernel
theorem dX4_loosen_15 : decode cX4_loosen 15 = .ok (.aload_n 0, 1) := by decide +kernel
theorem dX4_loosen_16 : decode cX4_loosen 16 = .ok (.getfield 24, 3) := by decide +kernel
theorem dX4_loosen_19 : decode cX4_loosen 19 = .ok (.iload_n 1, 1) := by decide +kernel
theorem dX4_loosen_20 : decode cX4_loosen 20 = .ok (.iconst 0, 1) := by decide +kernel
theorem dX4_loosen_21 : decode cX4_loosen 21 = .ok (.iastore, 1) := by decide +kernel
theorem dX4_loosen_22 : decode cX4_loosen 22 = .ok (.iinc 1 1, 3) := by decide +kernel
theorem dX4_loosen_25 : decode cX4_loosen 25 = .ok (.goto (-23), 3) := by decide +kernel
theorem dX4_loosen_28 : decode cX4_loosen 28 = .ok (.return_, 1) := by decide +kernel
theorem dX4_all_0 : decode cX4_all 0 = .ok (.aload_n 0, 1) := by decide +kernel
theorem dX4_all_1 : decode cX4_all 1 = .ok (.getfield 33, 3) := by decide +kernel
theorem dX4_all_4 : decode cX4_all 4 = .ok (.invokestatic 49, 3) := by decide +kernel
theorem dX4_all_7 : decode cX4_all 7 = .ok (.iconst 1, 1) := by decide +kernel
theorem dX4_all_8 : decode cX4_all 8 = .ok (.isub, 1) := by decide +kernel
theorem dX4_all_9 : decode cX4_all 9 = .ok (.ireturn, 1) := by decide +kernel
theorem dX4_isOf_0 : decode cX4_isOf 0 = .ok (.aload_n 0, 1) := by decide +kernel
theorem dX4_isOf_1 : decode cX4_isOf 1 = .ok (.getfield 9, 3) := by decide +kernel
theorem dX4_isOf_4 : decode cX4_isOf 4 = .ok (.iload_n 1, 1) := by decide +kernel
theorem dX4_isOf_5 : decode cX4_isOf 5 = .ok (.iaload, 1) := by decide +kernel
theorem dX4_isOf_6 : decode cX4_isOf 6 = .ok (.istore_n 3, 1) := by decide +kernel
theorem dX4_isOf_7 : decode cX4_isOf 7 = .ok (.iload_n 2, 1) := by decide +kernel
theorem dX4_isOf_8 : decode cX4_isOf 8 = .ok (.ifCond .eq 20, 3) := by decide +kernel
theorem dX4_isOf_11 : decode cX4_isOf 11 = .ok (.iload_n 2, 1) := by decide +kernel
theorem dX4_isOf_12 : decode cX4_isOf 12 = .ok (.iload_n 3, 1) := by decide +kernel
theorem dX4_isOf_13 : decode cX4_isOf 13 = .ok (.iconst 1, 1) := by decide +kernel
theorem dX4_isOf_14 : decode cX4_isOf 14 = .ok (.iadd, 1) := by decide +kernel
theorem dX4_isOf_15 : decode cX4_isOf 15 = .ok (.if_icmp .eq 13, 3) := by decide +kernel
theorem dX4_isOf_18 : decode cX4_isOf 18 = .ok (.iload_n 2, 1) := by decide +kernel
theorem dX4_isOf_19 : decode cX4_isOf 19 = .ok (.iconst 1, 1) := by decide +kernel
theorem dX4_isOf_20 : decode cX4_isOf 20 = .ok (.if_icmp .ne 12, 3) := by decide +kernel
theorem dX4_isOf_23 : decode cX4_isOf 23 = .ok (.iload_n 3, 1) := by decide +kernel
theorem dX4_isOf_24 : decode cX4_isOf 24 = .ok (.iconst 3, 1) := by decide +kernel
theorem dX4_isOf_25 : decode cX4_isOf 25 = .ok (.if_icmp .eq 7, 3) := by decide +kernel
theorem dX4_isOf_28 : decode cX4_isOf 28 = .ok (.iconst 1, 1) := by decide +kernel
theorem dX4_isOf_29 : decode cX4_isOf 29 = .ok (.goto 4, 3) := by decide +kernel
theorem dX4_isOf_32 : decode cX4_isOf 32 = .ok (.iconst 0, 1) := by decide +kernel
theorem dX4_isOf_33 : decode cX4_isOf 33 = .ok (.ireturn, 1) := by decide +kernel
theorem dX4_isEndless_0 : decode cX4_isEndless 0 = .ok (.aload_n 0, 1) := by decide +kernel
theorem dX4_isEndless_1 : decode cX4_isEndless 1 = .ok (.getfield 9, 3) := by decide +kernel
theorem dX4_isEndless_4 : decode cX4_isEndless 4 = .ok (.iload_n 1, 1) := by decide +kernel
theorem dX4_isEndless_5 : decode cX4_isEndless 5 = .ok (.iaload, 1) := by decide +kernel
theorem dX4_isEndless_6 : decode cX4_isEndless 6 = .ok (.iconst 3, 1) := by decide +kernel
theorem dX4_isEndless_7 : decode cX4_isEndless 7 = .ok (.if_icmp .ne 7, 3) := by decide +kernel
theorem dX4_isEndless_10 : decode cX4_isEndless 10 = .ok (.iconst 1, 1) := by decide +kernel
theorem dX4_isEndless_11 : decode cX4_isEndless 11 = .ok (.goto 4, 3) := by decide +kernel
theorem dX4_isEndless_14 : decode cX4_isEndless 14 = .ok (.iconst 0, 1) := by decide +kernel
theorem dX4_isEndless_15 : decode cX4_isEndless 15 = .ok (.ireturn, 1) := by decide +kernel
theorem dX4_yearsOn_0 : decode cX4_yearsOn 0 = .ok (.aload_n 0, 1) := by decide +kernel
theorem dX4_yearsOn_1 : decode cX4_yearsOn 1 = .ok (.iload_n 1, 1) := by decide +kernel
theorem dX4_yearsOn_2 : decode cX4_yearsOn 2 = .ok (.invokevirtual 53, 3) := by decide +kernel
theorem dX4_yearsOn_5 : decode cX4_yearsOn 5 = .ok (.ifCond .eq 5, 3) := by decide +kernel
theorem dX4_yearsOn_8 : decode cX4_yearsOn 8 = .ok (.iconst 0, 1) := by decide +kernel
theorem dX4_yearsOn_9 : decode cX4_yearsOn 9 = .ok (.ireturn, 1) := by decide +kernel
theorem dX4_yearsOn_10 : decode cX4_yearsOn 10 = .ok (.iconst 0, 1) := by decide +kernel
theorem dX4_yearsOn_11 : decode cX4_yearsOn 11 = .ok (.aload_n 0, 1) := by decide +kernel
theorem dX4_yearsOn_12 : decode cX4_yearsOn 12 = .ok (.getfield 15, 3) := by decide +kernel
theorem dX4_yearsOn_15 : decode cX4_yearsOn 15 = .ok (.iload_n 1, 1) := by decide +kernel
theorem dX4_yearsOn_16 : decode cX4_yearsOn 16 = .ok (.iaload, 1) := by decide +kernel
theorem dX4_yearsOn_17 : decode cX4_yearsOn 17 = .ok (.iload_n 2, 1) := by decide +kernel
theorem dX4_yearsOn_18 : decode cX4_yearsOn 18 = .ok (.isub, 1) := by decide +kernel
theorem dX4_yearsOn_19 : decode cX4_yearsOn 19 = .ok (.invokestatic 57, 3) := by decide +kernel
theorem dX4_yearsOn_22 : decode cX4_yearsOn 22 = .ok (.istore_n 3, 1) := by decide +kernel
theorem dX4_yearsOn_23 : decode cX4_yearsOn 23 = .ok (.aload_n 0, 1) := by decide +kernel
theorem dX4_yearsOn_24 : decode cX4_yearsOn 24 = .ok (.getfield 9, 3) := by decide +kernel
theorem dX4_yearsOn_27 : decode cX4_yearsOn 27 = .ok (.iload_n 1, 1) := by decide +kernel
theorem dX4_yearsOn_28 : decode cX4_yearsOn 28 = .ok (.iaload, 1) := by decide +kernel
theorem dX4_yearsOn_29 : decode cX4_yearsOn 29 = .ok (.iconst 1, 1) := by decide +kernel
theorem dX4_yearsOn_30 : decode cX4_yearsOn 30 = .ok (.if_icmp .ne 9, 3) := by decide +kernel
theorem dX4_yearsOn_33 : decode cX4_yearsOn 33 = .ok (.iconst 2, 1) := by decide +kernel
theorem dX4_yearsOn_34 : decode cX4_yearsOn 34 = .ok (.iload_n 3, 1) := by decide +kernel
theorem dX4_yearsOn_35 : decode cX4_yearsOn 35 = .ok (.imul, 1) := by decide +kernel
theorem dX4_yearsOn_36 : decode cX4_yearsOn 36 = .ok (.goto 4, 3) := by decide +kernel
theorem dX4_yearsOn_39 : decode cX4_yearsOn 39 = .ok (.iload_n 3, 1) := by decide +kernel
theorem dX4_yearsOn_40 : decode cX4_yearsOn 40 = .ok (.ireturn, 1) := by decide +kernel
theorem dX4_lossOf_0 : decode cX4_lossOf 0 = .ok (.iconst 0, 1) := by decide +kernel
theorem dX4_lossOf_1 : decode cX4_lossOf 1 = .ok (.istore_n 3, 1) := by decide +kernel
theorem dX4_lossOf_2 : decode cX4_lossOf 2 = .ok (.iconst 0, 1) := by decide +kernel
theorem dX4_lossOf_3 : decode cX4_lossOf 3 = .ok (.istore 4, 2) := by decide +kernel
theorem dX4_lossOf_5 : decode cX4_lossOf 5 = .ok (.iload 4, 2) := by decide +kernel
theorem dX4_lossOf_7 : decode cX4_lossOf 7 = .ok (.aload_n 0, 1) := by decide +kernel
theorem dX4_lossOf_8 : decode cX4_lossOf 8 = .ok (.getfield 33, 3) := by decide +kernel
theorem dX4_lossOf_11 : decode cX4_lossOf 11 = .ok (.if_icmp .ge 39, 3) := by decide +kernel
theorem dX4_lossOf_14 : decode cX4_lossOf 14 = .ok (.iload_n 1, 1) := by decide +kernel
theorem dX4_lossOf_15 : decode cX4_lossOf 15 = .ok (.iload 4, 2) := by decide +kernel
theorem dX4_lossOf_17 : decode cX4_lossOf 17 = .ok (.invokestatic 63, 3) := by decide +kernel
theorem dX4_lossOf_20 : decode cX4_lossOf 20 = .ok (.ifCond .eq 24, 3) := by decide +kernel
theorem dX4_lossOf_23 : decode cX4_lossOf 23 = .ok (.aload_n 0, 1) := by decide +kernel
theorem dX4_lossOf_24 : decode cX4_lossOf 24 = .ok (.getfield 9, 3) := by decide +kernel
theorem dX4_lossOf_27 : decode cX4_lossOf 27 = .ok (.iload 4, 2) := by decide +kernel
theorem dX4_lossOf_29 : decode cX4_lossOf 29 = .ok (.iaload, 1) := by decide +kernel
theorem dX4_lossOf_30 : decode cX4_lossOf 30 = .ok (.iconst 2, 1) := by decide +kernel
theorem dX4_lossOf_31 : decode cX4_lossOf 31 = .ok (.if_icmp .eq 13, 3) := by decide +kernel
theorem dX4_lossOf_34 : decode cX4_lossOf 34 = .ok (.iload_n 3, 1) := by decide +kernel
theorem dX4_lossOf_35 : decode cX4_lossOf 35 = .ok (.aload_n 0, 1) := by decide +kernel
theorem dX4_lossOf_36 : decode cX4_lossOf 36 = .ok (.iload 4, 2) := by decide +kernel
theorem dX4_lossOf_38 : decode cX4_lossOf 38 = .ok (.iload_n 2, 1) := by decide +kernel
theorem dX4_lossOf_39 : decode cX4_lossOf 39 = .ok (.invokevirtual 67, 3) := by decide +kernel
theorem dX4_lossOf_42 : decode cX4_lossOf 42 = .ok (.iadd, 1) := by decide +kernel
theorem dX4_lossOf_43 : decode cX4_lossOf 43 = .ok (.istore_n 3, 1) := by decide +kernel
theorem dX4_lossOf_44 : decode cX4_lossOf 44 = .ok (.iinc 4 1, 3) := by decide +kernel
theorem dX4_lossOf_47 : decode cX4_lossOf 47 = .ok (.goto (-42), 3) := by decide +kernel
theorem dX4_lossOf_50 : decode cX4_lossOf 50 = .ok (.iload_n 3, 1) := by decide +kernel
theorem dX4_lossOf_51 : decode cX4_lossOf 51 = .ok (.ireturn, 1) := by decide +kernel
theorem dX4_lasting_0 : decode cX4_lasting 0 = .ok (.iconst 0, 1) := by decide +kernel
theorem dX4_lasting_1 : decode cX4_lasting 1 = .ok (.istore_n 3, 1) := by decide +kernel
theorem dX4_lasting_2 : decode cX4_lasting 2 = .ok (.iconst 0, 1) := by decide +kernel
theorem dX4_lasting_3 : decode cX4_lasting 3 = .ok (.istore 4, 2) := by decide +kernel
theorem dX4_lasting_5 : decode cX4_lasting 5 = .ok (.iload 4, 2) := by decide +kernel
theorem dX4_lasting_7 : decode cX4_lasting 7 = .ok (.aload_n 0, 1) := by decide +kernel
theorem dX4_lasting_8 : decode cX4_lasting 8 = .ok (.getfield 33, 3) := by decide +kernel
theorem dX4_lasting_11 : decode cX4_lasting 11 = .ok (.if_icmp .ge 46, 3) := by decide +kernel
theorem dX4_lasting_14 : decode cX4_lasting 14 = .ok (.iload_n 1, 1) := by decide +kernel
theorem dX4_lasting_15 : decode cX4_lasting 15 = .ok (.iload 4, 2) := by decide +kernel
theorem dX4_lasting_17 : decode cX4_lasting 17 = .ok (.invokestatic 63, 3) := by decide +kernel
theorem dX4_lasting_20 : decode cX4_lasting 20 = .ok (.ifCond .eq 31, 3) := by decide +kernel
theorem dX4_lasting_23 : decode cX4_lasting 23 = .ok (.aload_n 0, 1) := by decide +kernel
theorem dX4_lasting_24 : decode cX4_lasting 24 = .ok (.iload 4, 2) := by decide +kernel
theorem dX4_lasting_26 : decode cX4_lasting 26 = .ok (.invokevirtual 53, 3) := by decide +kernel
theorem dX4_lasting_29 : decode cX4_lasting 29 = .ok (.ifCond .ne 14, 3) := by decide +kernel
theorem dX4_lasting_32 : decode cX4_lasting 32 = .ok (.aload_n 0, 1) := by decide +kernel
theorem dX4_lasting_33 : decode cX4_lasting 33 = .ok (.getfield 15, 3) := by decide +kernel
theorem dX4_lasting_36 : decode cX4_lasting 36 = .ok (.iload 4, 2) := by decide +kernel
theorem dX4_lasting_38 : decode cX4_lasting 38 = .ok (.iaload, 1) := by decide +kernel
theorem dX4_lasting_39 : decode cX4_lasting 39 = .ok (.iload_n 2, 1) := by decide +kernel
theorem dX4_lasting_40 : decode cX4_lasting 40 = .ok (.if_icmp .le 11, 3) := by decide +kernel
theorem dX4_lasting_43 : decode cX4_lasting 43 = .ok (.iload_n 3, 1) := by decide +kernel
theorem dX4_lasting_44 : decode cX4_lasting 44 = .ok (.iload 4, 2) := by decide +kernel
theorem dX4_lasting_46 : decode cX4_lasting 46 = .ok (.invokestatic 49, 3) := by decide +kernel
theorem dX4_lasting_49 : decode cX4_lasting 49 = .ok (.ior, 1) := by decide +kernel
theorem dX4_lasting_50 : decode cX4_lasting 50 = .ok (.istore_n 3, 1) := by decide +kernel
theorem dX4_lasting_51 : decode cX4_lasting 51 = .ok (.iinc 4 1, 3) := by decide +kernel
theorem dX4_lasting_54 : decode cX4_lasting 54 = .ok (.goto (-49), 3) := by decide +kernel
theorem dX4_lasting_57 : decode cX4_lasting 57 = .ok (.iload_n 3, 1) := by decide +kernel
theorem dX4_lasting_58 : decode cX4_lasting 58 = .ok (.ireturn, 1) := by decide +kernel
theorem dX5_init_0 : decode cX5_init 0 = .ok (.aload_n 0, 1) := by decide +kernel
theorem dX5_init_1 : decode cX5_init 1 = .ok (.invokespecial 3, 3) := by decide +kernel
theorem dX5_init_4 : decode cX5_init 4 = .ok (.aload_n 0, 1) := by decide +kernel
theorem dX5_init_5 : decode cX5_init 5 = .ok (.sipush 160, 3) := by decide +kernel
theorem dX5_init_8 : decode cX5_init 8 = .ok (.newarray .int, 2) := by decide +kernel
theorem dX5_init_10 : decode cX5_init 10 = .ok (.putfield 9, 3) := by decide +kernel
theorem dX5_init_13 : decode cX5_init 13 = .ok (.return_, 1) := by decide +kernel
theorem dX5_add_0 : decode cX5_add 0 = .ok (.aload_n 0, 1) := by decide +kernel
theorem dX5_add_1 : decode cX5_add 1 = .ok (.getfield 15, 3) := by decide +kernel
theorem dX5_add_4 : decode cX5_add 4 = .ok (.sipush 160, 3) := by decide +kernel
theorem dX5_add_7 : decode cX5_add 7 = .ok (.if_icmp .ge 23, 3) := by decide +kernel
theorem dX5_add_10 : decode cX5_add 10 = .ok (.aload_n 0, 1) := by decide +kernel
theorem dX5_add_11 : decode cX5_add 11 = .ok (.getfield 9, 3) := by decide +kernel
theorem dX5_add_14 : decode cX5_add 14 = .ok (.aload_n 0, 1) := by decide +kernel
theorem dX5_add_15 : decode cX5_add 15 = .ok (.getfield 15, 3) := by decide +kernel
theorem dX5_add_18 : decode cX5_add 18 = .ok (.iload_n 1, 1) := by decide +kernel
theorem dX5_add_19 : decode cX5_add 19 = .ok (.iastore, 1) := by decide +kernel
theorem dX5_add_20 : decode cX5_add 20 = .ok (.aload_n 0, 1) := by decide +kernel
theorem dX5_add_21 : decode cX5_add 21 = .ok (.dup, 1) := by decide +kernel
theorem dX5_add_22 : decode cX5_add 22 = .ok (.getfield 15, 3) := by decide +kernel
theorem dX5_add_25 : decode cX5_add 25 = .ok (.iconst 1, 1) := by decide +kernel
theorem dX5_add_26 : decode cX5_add 26 = .ok (.iadd, 1) := by decide +kernel
theorem dX5_add_27 : decode cX5_add 27 = .ok (.putfield 15, 3) := by decide +kernel
theorem dX5_add_30 : decode cX5_add 30 = .ok (.return_, 1) := by decide +kernel
theorem dX5_firstFault_0 : decode cX5_firstFault 0 = .ok (.aload_n 0, 1) := by decide +kernel
theorem dX5_firstFault_1 : decode cX5_firstFault 1 = .ok (.iconst 0, 1) := by decide +kernel
theorem dX5_firstFault_2 : decode cX5_firstFault 2 = .ok (.putfield 19, 3) := by decide +kernel
theorem dX5_firstFault_5 : decode cX5_firstFault 5 = .ok (.aload_n 0, 1) := by decide +kernel
theorem dX5_firstFault_6 : decode cX5_firstFault 6 = .ok (.iconst 0, 1) := by decide +kernel
theorem dX5_firstFault_7 : decode cX5_firstFault 7 = .ok (.putfield 22, 3) := by decide +kernel
theorem dX5_firstFault_10 : decode cX5_firstFault 10 = .ok (.aload_n 0, 1) := by decide +kernel
theorem dX5_firstFault_11 : decode cX5_firstFault 11 = .ok (.invokevirtual 25, 3) := by decide +kernel
theorem dX5_firstFault_14 : decode cX5_firstFault 14 = .ok (.iconst 0, 1) := by decide +kernel
theorem dX5_firstFault_15 : decode cX5_firstFault 15 = .ok (.istore_n 2, 1) := by decide +kernel
theorem dX5_firstFault_16 : decode cX5_firstFault 16 = .ok (.iload_n 2, 1) := by decide +kernel
theorem dX5_firstFault_17 : decode cX5_firstFault 17 = .ok (.bipush 14, 2) := by decide +kernel
theorem dX5_firstFault_19 : decode cX5_firstFault 19 = .ok (.if_icmp .ge 77, 3) := by decide +kernel
theorem dX5_firstFault_22 : decode cX5_firstFault 22 = .ok (.aload_n 0, 1) := by decide +kernel
theorem dX5_firstFault_23 : decode cX5_firstFault 23 = .ok (.aload_n 1, 1) := by decide +kernel
theorem dX5_firstFault_24 : decode cX5_firstFault 24 = .ok (.invokevirtual 28, 3) := by decide +kernel
theorem dX5_firstFault_27 : decode cX5_firstFault 27 = .ok (.ifCond .ne 8, 3) := by decide +kernel
theorem dX5_firstFault_30 : decode cX5_firstFault 30 = .ok (.aload_n 0, 1) := by decide +kernel
theorem dX5_firstFault_31 : decode cX5_firstFault 31 = .ok (.getfield 32, 3) := by decide +kernel
theorem dX5_firstFault_34 : decode cX5_firstFault 34 = .ok (.ireturn, 1) := by decide +kernel
theorem dX5_firstFault_35 : decode cX5_firstFault 35 = .ok (.aload_n 0, 1) := by decide +kernel
theorem dX5_firstFault_36 : decode cX5_firstFault 36 = .ok (.dup, 1) := by decide +kernel
theorem dX5_firstFault_37 : decode cX5_firstFault 37 = .ok (.getfield 19, 3) := by decide +kernel
theorem dX5_firstFault_40 : decode cX5_firstFault 40 = .ok (.iconst 1, 1) := by decide +kernel
theorem dX5_firstFault_41 : decode cX5_firstFault 41 = .ok (.iadd, 1) := by decide +kernel
theorem dX5_firstFault_42 : decode cX5_firstFault 42 = .ok (.putfield 19, 3) := by decide +kernel
theorem dX5_firstFault_45 : decode cX5_firstFault 45 = .ok (.aload_n 0, 1) := by decide +kernel
theorem dX5_firstFault_46 : decode cX5_firstFault 46 = .ok (.getfield 32, 3) := by decide +kernel
theorem dX5_firstFault_49 : decode cX5_firstFault 49 = .ok (.aload_n 0, 1) := by decide +kernel
theorem dX5_firstFault_50 : decode cX5_firstFault 50 = .ok (.getfield 15, 3) := by decide +kernel
theorem dX5_firstFault_53 : decode cX5_firstFault 53 = .ok (.if_icmp .lt 5, 3) := by decide +kernel
theorem dX5_firstFault_56 : decode cX5_firstFault 56 = .ok (.iconst (-1), 1) := by decide +kernel
theorem dX5_firstFault_57 : decode cX5_firstFault 57 = .ok (.ireturn, 1) := by decide +kernel
theorem dX5_firstFault_58 : decode cX5_firstFault 58 = .ok (.aload_n 0, 1) := by decide +kernel
theorem dX5_firstFault_59 : decode cX5_firstFault 59 = .ok (.getfield 9, 3) := by decide +kernel
theorem dX5_firstFault_62 : decode cX5_firstFault 62 = .ok (.aload_n 0, 1) := by decide +kernel
theorem dX5_firstFault_63 : decode cX5_firstFault 63 = .ok (.getfield 32, 3) := by decide +kernel
theorem dX5_firstFault_66 : decode cX5_firstFault 66 = .ok (.iaload, 1) := by decide +kernel
theorem dX5_firstFault_67 : decode cX5_firstFault 67 = .ok (.bipush 59, 2) := by decide +kernel
theorem dX5_firstFault_69 : decode cX5_firstFault 69 = .ok (.if_icmp .ne 12, 3) := by decide +kernel
theorem dX5_firstFault_72 : decode cX5_firstFault 72 = .ok (.aload_n 0, 1) := by decide +kernel
theorem dX5_firstFault_73 : decode cX5_firstFault 73 = .ok (.getfield 19, 3) := by decide +kernel
theorem dX5_firstFault_76 : decode cX5_firstFault 76 = .ok (.bipush 14, 2) := by decide +kernel
theorem dX5_firstFault_78 : decode cX5_firstFault 78 = .ok (.if_icmp .ne 8, 3) := by decide +kernel
theorem dX5_firstFault_81 : decode cX5_firstFault 81 = .ok (.aload_n 0, 1) := by decide +kernel
theorem dX5_firstFault_82 : decode cX5_firstFault 82 = .ok (.getfield 32, 3) := by decide +kernel
theorem dX5_firstFault_85 : decode cX5_firstFault 85 = .ok (.ireturn, 1) := by decide +kernel
theorem dX5_firstFault_86 : decode cX5_firstFault 86 = .ok (.aload_n 0, 1) := by decide +kernel
theorem dX5_firstFault_87 : decode cX5_firstFault 87 = .ok (.invokevirtual 25, 3) := by decide +kernel
theorem dX5_firstFault_90 : decode cX5_firstFault 90 = .ok (.iinc 2 1, 3) := by decide +kernel
theorem dX5_firstFault_93 : decode cX5_firstFault 93 = .ok (.goto (-77), 3) := by decide +kernel
theorem dX5_firstFault_96 : decode cX5_firstFault 96 = .ok (.aload_n 0, 1) := by decide +kernel
theorem dX5_firstFault_97 : decode cX5_firstFault 97 = .ok (.getfield 32, 3) := by decide +kernel
theorem dX5_firstFault_100 : decode cX5_firstFault 100 = .ok (.ireturn, 1) := by decide +kernel
theorem dX5_clauseStands_0 : decode cX5_clauseStands 0 = .ok (.aload_n 0, 1) := by decide +kernel
theorem dX5_clauseStands_1 : decode cX5_clauseStands 1 = .ok (.invokevirtual 35, 3) := by decide +kernel
theorem dX5_clauseStands_4 : decode cX5_clauseStands 4 = .ok (.istore_n 2, 1) := by decide +kernel
theorem dX5_clauseStands_5 : decode cX5_clauseStands 5 = .ok (.iload_n 2, 1) := by decide +kernel
theorem dX5_clauseStands_6 : decode cX5_clauseStands 6 = .ok (.iconst (-1), 1) := by decide +kernel
theorem dX5_clauseStands_7 : decode cX5_clauseStands 7 = .ok (.if_icmp .eq 11, 3) := by decide +kernel
theorem dX5_clauseStands_10 : decode cX5_clauseStands 10 = .ok (.aload_n 1, 1) := by decide +kernel
theorem dX5_clauseStands_11 : decode cX5_clauseStands 11 = .ok (.iload_n 2, 1) := by decide +kernel
theorem dX5_clauseStands_12 : decode cX5_clauseStands 12 = .ok (.invokevirtual 39, 3) := by decide +kernel
theorem dX5_clauseStands_15 : decode cX5_clauseStands 15 = .ok (.ifCond .ne 5, 3) := by decide +kernel
theorem dX5_clauseStands_18 : decode cX5_clauseStands 18 = .ok (.iconst 0, 1) := by decide +kernel
theorem dX5_clauseStands_19 : decode cX5_clauseStands 19 = .ok (.ireturn, 1) := by decide +kernel
theorem dX5_clauseStands_20 : decode cX5_clauseStands 20 = .ok (.aload_n 0, 1) := by decide +kernel
theorem dX5_clauseStands_21 : decode cX5_clauseStands 21 = .ok (.invokevirtual 25, 3) := by decide +kernel
theorem dX5_clauseStands_24 : decode cX5_clauseStands 24 = .ok (.iload_n 2, 1) := by decide +kernel
theorem dX5_clauseStands_25 : decode cX5_clauseStands 25 = .ok (.tableswitch 76 4 9 #[58, 64, 70, 39, 45, 52], 39) := by decide +kernel
theorem dX5_clauseStands_64 : decode cX5_clauseStands 64 = .ok (.aload_n 1, 1) := by decide +kernel
theorem dX5_clauseStands_65 : decode cX5_clauseStands 65 = .ok (.invokevirtual 45, 3) := by decide +kernel
theorem dX5_clauseStands_68 : decode cX5_clauseStands 68 = .ok (.iconst 1, 1) := by decide +kernel
theorem dX5_clauseStands_69 : decode cX5_clauseStands 69 = .ok (.ireturn, 1) := by decide +kernel
theorem dX5_clauseStands_70 : decode cX5_clauseStands 70 = .ok (.aload_n 1, 1) := by decide +kernel
theorem dX5_clauseStands_71 : decode cX5_clauseStands 71 = .ok (.iconst 0, 1) := by decide +kernel
theorem dX5_clauseStands_72 : decode cX5_clauseStands 72 = .ok (.putfield 48, 3) := by decide +kernel
theorem dX5_clauseStands_75 : decode cX5_clauseStands 75 = .ok (.iconst 1, 1) := by decide +kernel
theorem dX5_clauseStands_76 : decode cX5_clauseStands 76 = .ok (.ireturn, 1) := by decide +kernel
theorem dX5_clauseStands_77 : decode cX5_clauseStands 77 = .ok (.aload_n 1, 1) := by decide +kernel
theorem dX5_clauseStands_78 : decode cX5_clauseStands 78 = .ok (.invokevirtual 51, 3) := by decide +kernel
theorem dX5_clauseStands_81 : decode cX5_clauseStands 81 = .ok (.iconst 1, 1) := by decide +kernel
theorem dX5_clauseStands_82 : decode cX5_clauseStands 82 = .ok (.ireturn, 1) := by decide +kernel
theorem dX5_clauseStands_83 : decode cX5_clauseStands 83 = .ok (.aload_n 0, 1) := by decide +kernel
theorem dX5_clauseStands_84 : decode cX5_clauseStands 84 = .ok (.aload_n 1, 1) := by decide +kernel
theorem dX5_clauseStands_85 : decode cX5_clauseStands 85 = .ok (.invokevirtual 54, 3) := by decide +kernel
theorem dX5_clauseStands_88 : decode cX5_clauseStands 88 = .ok (.ireturn, 1) := by decide +kernel
theorem dX5_clauseStands_89 : decode cX5_clauseStands 89 = .ok (.aload_n 0, 1) := by decide +kernel
theorem dX5_clauseStands_90 : decode cX5_clauseStands 90 = .ok (.aload_n 1, 1) := by decide +kernel
theorem dX5_clauseStands_91 : decode cX5_clauseStands 91 = .ok (.invokevirtual 57, 3) := by decide +kernel
theorem dX5_clauseStands_94 : decode cX5_clauseStands 94 = .ok (.ireturn, 1) := by decide +kernel
theorem dX5_clauseStands_95 : decode cX5_clauseStands 95 = .ok (.aload_n 0, 1) := by decide +kernel
theorem dX5_clauseStands_96 : decode cX5_clauseStands 96 = .ok (.aload_n 1, 1) := by decide +kernel
theorem dX5_clauseStands_97 : decode cX5_clauseStands 97 = .ok (.invokevirtual 60, 3) := by decide +kernel
theorem dX5_clauseStands_100 : decode cX5_clauseStands 100 = .ok (.ireturn, 1) := by decide +kernel
theorem dX5_clauseStands_101 : decode cX5_clauseStands 101 = .ok (.aload_n 0, 1) := by decide +kernel
theorem dX5_clauseStands_102 : decode cX5_clauseStands 102 = .ok (.aload_n 1, 1) := by decide +kernel
theorem dX5_clauseStands_103 : decode cX5_clauseStands 103 = .ok (.iload_n 2, 1) := by decide +kernel
theorem dX5_clauseStands_104 : decode cX5_clauseStands 104 = .ok (.invokevirtual 63, 3) := by decide +kernel
theorem dX5_clauseStands_107 : decode cX5_clauseStands 107 = .ok (.ireturn, 1) := by decide +kernel
theorem dX5_threadStands_0 : decode cX5_threadStands 0 = .ok (.aload_n 0, 1) := by decide +kernel
theorem dX5_threadStands_1 : decode cX5_threadStands 1 = .ok (.iconst 1, 1) := by decide +kernel
theorem dX5_threadStands_2 : decode cX5_threadStands 2 = .ok (.bipush 60, 2) := by decide +kernel
theorem dX5_threadStands_4 : decode cX5_threadStands 4 = .ok (.invokevirtual 67, 3) := by decide +kernel
theorem dX5_threadStands_7 : decode cX5_threadStands 7 = .ok (.istore_n 3, 1) := by decide +kernel
theorem dX5_threadStands_8 : decode cX5_threadStands 8 = .ok (.iload_n 3, 1) := by decide +kernel
theorem dX5_threadStands_9 : decode cX5_threadStands 9 = .ok (.iconst (-1), 1) := by decide +kernel
theorem dX5_threadStands_10 : decode cX5_threadStands 10 = .ok (.if_icmp .ne 5, 3) := by decide +kernel
theorem dX5_threadStands_13 : decode cX5_threadStands 13 = .ok (.iconst 0, 1) := by decide +kernel
theorem dX5_threadStands_14 : decode cX5_threadStands 14 = .ok (.ireturn, 1) := by decide +kernel
theorem dX5_threadStands_15 : decode cX5_threadStands 15 = .ok (.aload_n 0, 1) := by decide +kernel
theorem dX5_threadStands_16 : decode cX5_threadStands 16 = .ok (.invokevirtual 25, 3) := by decide +kernel
theorem dX5_threadStands_19 : decode cX5_threadStands 19 = .ok (.aload_n 0, 1) := by decide +kernel
theorem dX5_threadStands_20 : decode cX5_threadStands 20 = .ok (.iconst 0, 1) := by decide +kernel
theorem dX5_threadStands_21 : decode cX5_threadStands 21 = .ok (.iconst 3, 1) := by decide +kernel
theorem dX5_threadStands_22 : decode cX5_threadStands 22 = .ok (.invokevirtual 67, 3) := by decide +kernel
theorem dX5_threadStands_25 : decode cX5_threadStands 25 = .ok (.istore 4, 2) := by decide +kernel
theorem dX5_threadStands_27 : decode cX5_threadStands 27 = .ok (.iload 4, 2) := by decide +kernel
theorem dX5_threadStands_29 : decode cX5_threadStands 29 = .ok (.iconst (-1), 1) := by decide +kernel
theorem dX5_threadStands_30 : decode cX5_threadStands 30 = .ok (.if_icmp .ne 5, 3) := by decide +kernel
theorem dX5_threadStands_33 : decode cX5_threadStands 33 = .ok (.iconst 0, 1) := by decide +kernel
theorem dX5_threadStands_34 : decode cX5_threadStands 34 = .ok (.ireturn, 1) := by decide +kernel
theorem dX5_threadStands_35 : decode cX5_threadStands 35 = .ok (.aload_n 0, 1) := by decide +kernel
theorem dX5_threadStands_36 : decode cX5_threadStands 36 = .ok (.invokevirtual 25, 3) := by decide +kernel
theorem dX5_threadStands_39 : decode cX5_threadStands 39 = .ok (.aload_n 1, 1) := by decide +kernel
theorem dX5_threadStands_40 : decode cX5_threadStands 40 = .ok (.iload_n 2, 1) := by decide +kernel
theorem dX5_threadStands_41 : decode cX5_threadStands 41 = .ok (.iload_n 3, 1) := by decide +kernel
theorem dX5_threadStands_42 : decode cX5_threadStands 42 = .ok (.iload 4, 2) := by decide +kernel
theorem dX5_threadStands_44 : decode cX5_threadStands 44 = .ok (.invokevirtual 71, 3) := by decide +kernel
theorem dX5_threadStands_47 : decode cX5_threadStands 47 = .ok (.iconst 1, 1) := by decide +kernel
theorem dX5_threadStands_48 : decode cX5_threadStands 48 = .ok (.ireturn, 1) := by decide +kernel
theorem dX5_overStands_0 : decode cX5_overStands 0 = .ok (.aload_n 0, 1) := by decide +kernel
theorem dX5_overStands_1 : decode cX5_overStands 1 = .ok (.iconst 0, 1) := by decide +kernel
theorem dX5_overStands_2 : decode cX5_overStands 2 = .ok (.aload_n 1, 1) := by decide +kernel
theorem dX5_overStands_3 : decode cX5_overStands 3 = .ok (.getfield 75, 3) := by decide +kernel
theorem dX5_overStands_6 : decode cX5_overStands 6 = .ok (.iconst 1, 1) := by decide +kernel
theorem dX5_overStands_7 : decode cX5_overStands 7 = .ok (.isub, 1) := by decide +kernel
theorem dX5_overStands_8 : decode cX5_overStands 8 = .ok (.invokevirtual 67, 3) := by decide +kernel
theorem dX5_overStands_11 : decode cX5_overStands 11 = .ok (.istore_n 2, 1) := by decide +kernel
theorem dX5_overStands_12 : decode cX5_overStands 12 = .ok (.iload_n 2, 1) := by decide +kernel
theorem dX5_overStands_13 : decode cX5_overStands 13 = .ok (.iconst (-1), 1) := by decide +kernel
theorem dX5_overStands_14 : decode cX5_overStands 14 = .ok (.if_icmp .ne 5, 3) := by decide +kernel
theorem dX5_overStands_17 : decode cX5_overStands 17 = .ok (.iconst 0, 1) := by decide +kernel
theorem dX5_overStands_18 : decode cX5_overStands 18 = .ok (.ireturn, 1) := by decide +kernel
theorem dX5_overStands_19 : decode cX5_overStands 19 = .ok (.aload_n 0, 1) := by decide +kernel
theorem dX5_overStands_20 : decode cX5_overStands 20 = .ok (.invokevirtual 25, 3) := by decide +kernel
theorem dX5_overStands_23 : decode cX5_overStands 23 = .ok (.aload_n 0, 1) := by decide +kernel
theorem dX5_overStands_24 : decode cX5_overStands 24 = .ok (.iconst 0, 1) := by decide +kernel
theorem dX5_overStands_25 : decode cX5_overStands 25 = .ok (.aload_n 1, 1) := by decide +kernel
theorem dX5_overStands_26 : decode cX5_overStands 26 = .ok (.getfield 75, 3) := by decide +kernel
theorem dX5_overStands_29 : decode cX5_overStands 29 = .ok (.iconst 1, 1) := by decide +kernel
theorem dX5_overStands_30 : decode cX5_overStands 30 = .ok (.isub, 1) := by decide +kernel
theorem dX5_overStands_31 : decode cX5_overStands 31 = .ok (.invokevirtual 67, 3) := by decide +kernel
theorem dX5_overStands_34 : decode cX5_overStands 34 = .ok (.istore_n 3, 1) := by decide +kernel
theorem dX5_overStands_35 : decode cX5_overStands 35 = .ok (.iload_n 3, 1) := by decide +kernel
theorem dX5_overStands_36 : decode cX5_overStands 36 = .ok (.iconst (-1), 1) := by decide +kernel
theorem dX5_overStands_37 : decode cX5_overStands 37 = .ok (.if_icmp .eq 15, 3) := by decide +kernel
theorem dX5_overStands_40 : decode cX5_overStands 40 = .ok (.aload_n 1, 1) := by decide +kernel
theorem dX5_overStands_41 : decode cX5_overStands 41 = .ok (.getfield 78, 3) := by decide +kernel
theorem dX5_overStands_44 : decode cX5_overStands 44 = .ok (.iload_n 2, 1) := by decide +kernel
theorem dX5_overStands_45 : decode cX5_overStands 45 = .ok (.iload_n 3, 1) := by decide +kernel
theorem dX5_overStands_46 : decode cX5_overStands 46 = .ok (.invokestatic 81, 3) := by decide +kernel
theorem dX5_overStands_49 : decode cX5_overStands 49 = .ok (.ifCond .eq 5, 3) := by decide +kernel
theorem dX5_overStands_52 : decode cX5_overStands 52 = .ok (.iconst 0, 1) := by decide +kernel
theorem dX5_overStands_53 : decode cX5_overStands 53 = .ok (.ireturn, 1) := by decide +kernel
theorem dX5_overStands_54 : decode cX5_overStands 54 = .ok (.aload_n 0, 1) := by decide +kernel
theorem dX5_overStands_55 : decode cX5_overStands 55 = .ok (.invokevirtual 25, 3) := by decide +kernel
theorem dX5_overStands_58 : decode cX5_overStands 58 = .ok (.aload_n 1, 1) := by decide +kernel
theorem dX5_overStands_59 : decode cX5_overStands 59 = .ok (.getfield 78, 3) := by decide +kernel
theorem dX5_overStands_62 : decode cX5_overStands 62 = .ok (.iload_n 3, 1) := by decide +kernel
theorem dX5_overStands_63 : decode cX5_overStands 63 = .ok (.dup2, 1) := by decide +kernel
theorem dX5_overStands_64 : decode cX5_overStands 64 = .ok (.iaload, 1) := by decide +kernel
theorem dX5_overStands_65 : decode cX5_overStands 65 = .ok (.iload_n 2, 1) := by decide +kernel
theorem dX5_overStands_66 : decode cX5_overStands 66 = .ok (.invokestatic 85, 3) := by decide +kernel
theorem dX5_overStands_69 : decode cX5_overStands 69 = .ok (.ior, 1) := by decide +kernel
theorem dX5_overStands_70 : decode cX5_overStands 70 = .ok (.iastore, 1) := by decide +kernel
theorem dX5_overStands_71 : decode cX5_overStands 71 = .ok (.iconst 1, 1) := by decide +kernel
theorem dX5_overStands_72 : decode cX5_overStands 72 = .ok (.ireturn, 1) := by decide +kernel
theorem dX5_knotStands_0 : decode cX5_knotStands 0 = .ok (.aload_n 0, 1) := by decide +kernel
theorem dX5_knotStands_1 : decode cX5_knotStands 1 = .ok (.iconst 0, 1) := by decide +kernel
theorem dX5_knotStands_2 : decode cX5_knotStands 2 = .ok (.aload_n 1, 1) := by decide +kernel
theorem dX5_knotStands_3 : decode cX5_knotStands 3 = .ok (.getfield 75, 3) := by decide +kernel
theorem dX5_knotStands_6 : decode cX5_knotStands 6 = .ok (.iconst 1, 1) := by decide +kernel
theorem dX5_knotStands_7 : decode cX5_knotStands 7 = .ok (.isub, 1) := by decide +kernel
theorem dX5_knotStands_8 : decode cX5_knotStands 8 = .ok (.invokevirtual 67, 3) := by decide +kernel
theorem dX5_knotStands_11 : decode cX5_knotStands 11 = .ok (.istore_n 2, 1) := by decide +kernel
theorem dX5_knotStands_12 : decode cX5_knotStands 12 = .ok (.iload_n 2, 1) := by decide +kernel
theorem dX5_knotStands_13 : decode cX5_knotStands 13 = .ok (.iconst (-1), 1) := by decide +kernel
theorem dX5_knotStands_14 : decode cX5_knotStands 14 = .ok (.if_icmp .ne 5, 3) := by decide +kernel
theorem dX5_knotStands_17 : decode cX5_knotStands 17 = .ok (.iconst 0, 1) := by decide +kernel
theorem dX5_knotStands_18 : decode cX5_knotStands 18 = .ok (.ireturn, 1) := by decide +kernel
theorem dX5_knotStands_19 : decode cX5_knotStands 19 = .ok (.aload_n 0, 1) := by decide +kernel
theorem dX5_knotStands_20 : decode cX5_knotStands 20 = .ok (.invokevirtual 25, 3) := by decide +kernel
theorem dX5_knotStands_23 : decode cX5_knotStands 23 = .ok (.aload_n 0, 1) := by decide +kernel
theorem dX5_knotStands_24 : decode cX5_knotStands 24 = .ok (.iconst 0, 1) := by decide +kernel
theorem dX5_knotStands_25 : decode cX5_knotStands 25 = .ok (.aload_n 1, 1) := by decide +kernel
theorem dX5_knotStands_26 : decode cX5_knotStands 26 = .ok (.getfield 75, 3) := by decide +kernel
theorem dX5_knotStands_29 : decode cX5_knotStands 29 = .ok (.iconst 1, 1) := by decide +kernel
theorem dX5_knotStands_30 : decode cX5_knotStands 30 = .ok (.isub, 1) := by decide +kernel
theorem dX5_knotStands_31 : decode cX5_knotStands 31 = .ok (.invokevirtual 67, 3) := by decide +kernel
theorem dX5_knotStands_34 : decode cX5_knotStands 34 = .ok (.istore_n 3, 1) := by decide +kernel
theorem dX5_knotStands_35 : decode cX5_knotStands 35 = .ok (.iload_n 3, 1) := by decide +kernel
theorem dX5_knotStands_36 : decode cX5_knotStands 36 = .ok (.iconst (-1), 1) := by decide +kernel
theorem dX5_knotStands_37 : decode cX5_knotStands 37 = .ok (.if_icmp .eq 8, 3) := by decide +kernel
theorem dX5_knotStands_40 : decode cX5_knotStands 40 = .ok (.iload_n 3, 1) := by decide +kernel
theorem dX5_knotStands_41 : decode cX5_knotStands 41 = .ok (.iload_n 2, 1) := by decide +kernel
theorem dX5_knotStands_42 : decode cX5_knotStands 42 = .ok (.if_icmp .ne 5, 3) := by decide +kernel
theorem dX5_knotStands_45 : decode cX5_knotStands 45 = .ok (.iconst 0, 1) := by decide +kernel
theorem dX5_knotStands_46 : decode cX5_knotStands 46 = .ok (.ireturn, 1) := by decide +kernel
theorem dX5_knotStands_47 : decode cX5_knotStands 47 = .ok (.aload_n 0, 1) := by decide +kernel
theorem dX5_knotStands_48 : decode cX5_knotStands 48 = .ok (.invokevirtual 25, 3) := by decide +kernel
theorem dX5_knotStands_51 : decode cX5_knotStands 51 = .ok (.aload_n 1, 1) := by decide +kernel
theorem dX5_knotStands_52 : decode cX5_knotStands 52 = .ok (.getfield 89, 3) := by decide +kernel
theorem dX5_knotStands_55 : decode cX5_knotStands 55 = .ok (.iload_n 2, 1) := by decide +kernel
theorem dX5_knotStands_56 : decode cX5_knotStands 56 = .ok (.dup2, 1) := by decide +kernel
theorem dX5_knotStands_57 : decode cX5_knotStands 57 = .ok (.iaload, 1) := by decide +kernel
theorem dX5_knotStands_58 : decode cX5_knotStands 58 = .ok (.iload_n 3, 1) := by decide +kernel
theorem dX5_knotStands_59 : decode cX5_knotStands 59 = .ok (.invokestatic 85, 3) := by decide +kernel
theorem dX5_knotStands_62 : decode cX5_knotStands 62 = .ok (.ior, 1) := by decide +kernel
theorem dX5_knotStands_63 : decode cX5_knotStands 63 = .ok (.iastore, 1) := by decide +kernel
theorem dX5_knotStands_64 : decode cX5_knotStands 64 = .ok (.aload_n 1, 1) := by decide +kernel
theorem dX5_knotStands_65 : decode cX5_knotStands 65 = .ok (.getfield 89, 3) := by decide +kernel
theorem dX5_knotStands_68 : decode cX5_knotStands 68 = .ok (.iload_n 3, 1) := by decide +kernel
theorem dX5_knotStands_69 : decode cX5_knotStands 69 = .ok (.dup2, 1) := by decide +kernel
theorem dX5_knotStands_70 : decode cX5_knotStands 70 = .ok (.iaload, 1) := by decide +kernel
theorem dX5_knotStands_71 : decode cX5_knotStands 71 = .ok (.iload_n 2, 1) := by decide +kernel
theorem dX5_knotStands_72 : decode cX5_knotStands 72 = .ok (.invokestatic 85, 3) := by decide +kernel
theorem dX5_knotStands_75 : decode cX5_knotStands 75 = .ok (.ior, 1) := by decide +kernel
theorem dX5_knotStands_76 : decode cX5_knotStands 76 = .ok (.iastore, 1) := by decide +kernel
theorem dX5_knotStands_77 : decode cX5_knotStands 77 = .ok (.iconst 1, 1) := by decide +kernel
theorem dX5_knotStands_78 : decode cX5_knotStands 78 = .ok (.ireturn, 1) := by decide +kernel
theorem dX5_orderStands_0 : decode cX5_orderStands 0 = .ok (.aload_n 0, 1) := by decide +kernel
theorem dX5_orderStands_1 : decode cX5_orderStands 1 = .ok (.iconst 0, 1) := by decide +kernel
theorem dX5_orderStands_2 : decode cX5_orderStands 2 = .ok (.aload_n 1, 1) := by decide +kernel
theorem dX5_orderStands_3 : decode cX5_orderStands 3 = .ok (.getfield 75, 3) := by decide +kernel
theorem dX5_orderStands_6 : decode cX5_orderStands 6 = .ok (.iconst 1, 1) := by decide +kernel
theorem dX5_orderStands_7 : decode cX5_orderStands 7 = .ok (.isub, 1) := by decide +kernel
theorem dX5_orderStands_8 : decode cX5_orderStands 8 = .ok (.invokevirtual 67, 3) := by decide +kernel
theorem dX5_orderStands_11 : decode cX5_orderStands 11 = .ok (.istore_n 2, 1) := by decide +kernel
theorem dX5_orderStands_12 : decode cX5_orderStands 12 = .ok (.iload_n 2, 1) := by decide +kernel
theorem dX5_orderStands_13 : decode cX5_orderStands 13 = .ok (.iconst (-1), 1) := by decide +kernel
theorem dX5_orderStands_14 : decode cX5_orderStands 14 = .ok (.if_icmp .ne 5, 3) := by decide +kernel
theorem dX5_orderStands_17 : decode cX5_orderStands 17 = .ok (.iconst 0, 1) := by decide +kernel
theorem dX5_orderStands_18 : decode cX5_orderStands 18 = .ok (.ireturn, 1) := by decide +kernel
theorem dX5_orderStands_19 : decode cX5_orderStands 19 = .ok (.aload_n 0, 1) := by decide +kernel
theorem dX5_orderStands_20 : decode cX5_orderStands 20 = .ok (.invokevirtual 25, 3) := by decide +kernel
theorem dX5_orderStands_23 : decode cX5_orderStands 23 = .ok (.aload_n 0, 1) := by decide +kernel
theorem dX5_orderStands_24 : decode cX5_orderStands 24 = .ok (.iconst 0, 1) := by decide +kernel
theorem dX5_orderStands_25 : decode cX5_orderStands 25 = .ok (.bipush 99, 2) := by decide +kernel
theorem dX5_orderStands_27 : decode cX5_orderStands 27 = .ok (.invokevirtual 67, 3) := by decide +kernel
theorem dX5_orderStands_30 : decode cX5_orderStands 30 = .ok (.istore_n 3, 1) := by decide +kernel
theorem dX5_orderStands_31 : decode cX5_orderStands 31 = .ok (.iload_n 3, 1) := by decide +kernel
theorem dX5_orderStands_32 : decode cX5_orderStands 32 = .ok (.iconst (-1), 1) := by decide +kernel
theorem dX5_orderStands_33 : decode cX5_orderStands 33 = .ok (.if_icmp .ne 5, 3) := by decide +kernel
theorem dX5_orderStands_36 : decode cX5_orderStands 36 = .ok (.iconst 0, 1) := by decide +kernel
theorem dX5_orderStands_37 : decode cX5_orderStands 37 = .ok (.ireturn, 1) := by decide +kernel
theorem dX5_orderStands_38 : decode cX5_orderStands 38 = .ok (.aload_n 0, 1) := by decide +kernel
theorem dX5_orderStands_39 : decode cX5_orderStands 39 = .ok (.invokevirtual 25, 3) := by decide +kernel
theorem dX5_orderStands_42 : decode cX5_orderStands 42 = .ok (.aload_n 1, 1) := by decide +kernel
theorem dX5_orderStands_43 : decode cX5_orderStands 43 = .ok (.iload_n 2, 1) := by decide +kernel
theorem dX5_orderStands_44 : decode cX5_orderStands 44 = .ok (.iload_n 3, 1) := by decide +kernel
theorem dX5_orderStands_45 : decode cX5_orderStands 45 = .ok (.invokevirtual 92, 3) := by decide +kernel
theorem dX5_orderStands_48 : decode cX5_orderStands 48 = .ok (.iconst 1, 1) := by decide +kernel
theorem dX5_orderStands_49 : decode cX5_orderStands 49 = .ok (.ireturn, 1) := by decide +kernel
theorem dX5_step_0 : decode cX5_step 0 = .ok (.aload_n 0, 1) := by decide +kernel
theorem dX5_step_1 : decode cX5_step 1 = .ok (.aload_n 0, 1) := by decide +kernel
theorem dX5_step_2 : decode cX5_step 2 = .ok (.getfield 22, 3) := by decide +kernel
theorem dX5_step_5 : decode cX5_step 5 = .ok (.putfield 32, 3) := by decide +kernel
theorem dX5_step_8 : decode cX5_step 8 = .ok (.aload_n 0, 1) := by decide +kernel
theorem dX5_step_9 : decode cX5_step 9 = .ok (.getfield 32, 3) := by decide +kernel
theorem dX5_step_12 : decode cX5_step 12 = .ok (.aload_n 0, 1) := by decide +kernel
theorem dX5_step_13 : decode cX5_step 13 = .ok (.getfield 15, 3) := by decide +kernel
theorem dX5_step_16 : decode cX5_step 16 = .ok (.if_icmp .ge 30, 3) := by decide +kernel
theorem dX5_step_19 : decode cX5_step 19 = .ok (.aload_n 0, 1) := by decide +kernel
theorem dX5_step_20 : decode cX5_step 20 = .ok (.getfield 9, 3) := by decide +kernel
theorem dX5_step_23 : decode cX5_step 23 = .ok (.aload_n 0, 1) := by decide +kernel
theorem dX5_step_24 : decode cX5_step 24 = .ok (.getfield 32, 3) := by decide +kernel
theorem dX5_step_27 : decode cX5_step 27 = .ok (.iaload, 1) := by decide +kernel
theorem dX5_step_28 : decode cX5_step 28 = .ok (.bipush 32, 2) := by decide +kernel
theorem dX5_step_30 : decode cX5_step 30 = .ok (.if_icmp .ne 16, 3) := by decide +kernel
theorem dX5_step_33 : decode cX5_step 33 = .ok (.aload_n 0, 1) := by decide +kernel
theorem dX5_step_34 : decode cX5_step 34 = .ok (.dup, 1) := by decide +kernel
theorem dX5_step_35 : decode cX5_step 35 = .ok (.getfield 32, 3) := by decide +kernel
theorem dX5_step_38 : decode cX5_step 38 = .ok (.iconst 1, 1) := by decide +kernel
theorem dX5_step_39 : decode cX5_step 39 = .ok (.iadd, 1) := by decide +kernel
theorem dX5_step_40 : decode cX5_step 40 = .ok (.putfield 32, 3) := by decide +kernel
theorem dX5_step_43 : decode cX5_step 43 = .ok (.goto (-35), 3) := by decide +kernel
theorem dX5_step_46 : decode cX5_step 46 = .ok (.aload_n 0, 1) := by decide +kernel
theorem dX5_step_47 : decode cX5_step 47 = .ok (.aload_n 0, 1) := by decide +kernel
theorem dX5_step_48 : decode cX5_step 48 = .ok (.getfield 32, 3) := by decide +kernel
theorem dX5_step_51 : decode cX5_step 51 = .ok (.putfield 22, 3) := by decide +kernel
theorem dX5_step_54 : decode cX5_step 54 = .ok (.aload_n 0, 1) := by decide +kernel
theorem dX5_step_55 : decode cX5_step 55 = .ok (.getfield 22, 3) := by decide +kernel
theorem dX5_step_58 : decode cX5_step 58 = .ok (.aload_n 0, 1) := by decide +kernel
theorem dX5_step_59 : decode cX5_step 59 = .ok (.getfield 15, 3) := by decide +kernel
theorem dX5_step_62 : decode cX5_step 62 = .ok (.if_icmp .lt 4, 3) := by decide +kernel
theorem dX5_step_65 : decode cX5_step 65 = .ok (.return_, 1) := by decide +kernel
theorem dX5_step_66 : decode cX5_step 66 = .ok (.aload_n 0, 1) := by decide +kernel
theorem dX5_step_67 : decode cX5_step 67 = .ok (.getfield 9, 3) := by decide +kernel
theorem dX5_step_70 : decode cX5_step 70 = .ok (.aload_n 0, 1) := by decide +kernel
theorem dX5_step_71 : decode cX5_step 71 = .ok (.getfield 32, 3) := by decide +kernel
theorem dX5_step_74 : decode cX5_step 74 = .ok (.iaload, 1) := by decide +kernel
theorem dX5_step_75 : decode cX5_step 75 = .ok (.invokestatic 96, 3) := by decide +kernel
theorem dX5_step_78 : decode cX5_step 78 = .ok (.istore_n 1, 1) := by decide +kernel
theorem dX5_step_79 : decode cX5_step 79 = .ok (.aload_n 0, 1) := by decide +kernel
theorem dX5_step_80 : decode cX5_step 80 = .ok (.dup, 1) := by decide +kernel
theorem dX5_step_81 : decode cX5_step 81 = .ok (.getfield 22, 3) := by decide +kernel
theorem dX5_step_84 : decode cX5_step 84 = .ok (.iconst 1, 1) := by decide +kernel
theorem dX5_step_85 : decode cX5_step 85 = .ok (.iadd, 1) := by decide +kernel
theorem dX5_step_86 : decode cX5_step 86 = .ok (.putfield 22, 3) := by decide +kernel
theorem dX5_step_89 : decode cX5_step 89 = .ok (.iload_n 1, 1) := by decide +kernel
theorem dX5_step_90 : decode cX5_step 90 = .ok (.ifCond .eq 43, 3) := by decide +kernel
theorem dX5_step_93 : decode cX5_step 93 = .ok (.aload_n 0, 1) := by decide +kernel
theorem dX5_step_94 : decode cX5_step 94 = .ok (.getfield 22, 3) := by decide +kernel
theorem dX5_step_97 : decode cX5_step 97 = .ok (.aload_n 0, 1) := by decide +kernel
theorem dX5_step_98 : decode cX5_step 98 = .ok (.getfield 15, 3) := by decide +kernel
theorem dX5_step_101 : decode cX5_step 101 = .ok (.if_icmp .ge 32, 3) := by decide +kernel
theorem dX5_step_104 : decode cX5_step 104 = .ok (.aload_n 0, 1) := by decide +kernel
theorem dX5_step_105 : decode cX5_step 105 = .ok (.getfield 9, 3) := by decide +kernel
theorem dX5_step_108 : decode cX5_step 108 = .ok (.aload_n 0, 1) := by decide +kernel
theorem dX5_step_109 : decode cX5_step 109 = .ok (.getfield 22, 3) := by decide +kernel
theorem dX5_step_112 : decode cX5_step 112 = .ok (.iaload, 1) := by decide +kernel
theorem dX5_step_113 : decode cX5_step 113 = .ok (.invokestatic 96, 3) := by decide +kernel
theorem dX5_step_116 : decode cX5_step 116 = .ok (.iload_n 1, 1) := by decide +kernel
theorem dX5_step_117 : decode cX5_step 117 = .ok (.if_icmp .ne 16, 3) := by decide +kernel
theorem dX5_step_120 : decode cX5_step 120 = .ok (.aload_n 0, 1) := by decide +kernel
theorem dX5_step_121 : decode cX5_step 121 = .ok (.dup, 1) := by decide +kernel
theorem dX5_step_122 : decode cX5_step 122 = .ok (.getfield 22, 3) := by decide +kernel
theorem dX5_step_125 : decode cX5_step 125 = .ok (.iconst 1, 1) := by decide +kernel
theorem dX5_step_126 : decode cX5_step 126 = .ok (.iadd, 1) := by decide +kernel
theorem dX5_step_127 : decode cX5_step 127 = .ok (.putfield 22, 3) := by decide +kernel
theorem dX5_step_130 : decode cX5_step 130 = .ok (.goto (-41), 3) := by decide +kernel
theorem dX5_step_133 : decode cX5_step 133 = .ok (.return_, 1) := by decide +kernel
theorem dX5_sortOf_0 : decode cX5_sortOf 0 = .ok (.iload_n 0, 1) := by decide +kernel
theorem dX5_sortOf_1 : decode cX5_sortOf 1 = .ok (.bipush 97, 2) := by decide +kernel
theorem dX5_sortOf_3 : decode cX5_sortOf 3 = .ok (.if_icmp .lt 11, 3) := by decide +kernel
theorem dX5_sortOf_6 : decode cX5_sortOf 6 = .ok (.iload_n 0, 1) := by decide +kernel
theorem dX5_sortOf_7 : decode cX5_sortOf 7 = .ok (.bipush 122, 2) := by decide +kernel
theorem dX5_sortOf_9 : decode cX5_sortOf 9 = .ok (.if_icmp .gt 5, 3) := by decide +kernel
theorem dX5_sortOf_12 : decode cX5_sortOf 12 = .ok (.iconst 1, 1) := by decide +kernel
theorem dX5_sortOf_13 : decode cX5_sortOf 13 = .ok (.ireturn, 1) := by decide +kernel
theorem dX5_sortOf_14 : decode cX5_sortOf 14 = .ok (.iload_n 0, 1) := by decide +kernel
theorem dX5_sortOf_15 : decode cX5_sortOf 15 = .ok (.bipush 48, 2) := by decide +kernel
theorem dX5_sortOf_17 : decode cX5_sortOf 17 = .ok (.if_icmp .lt 13, 3) := by decide +kernel
theorem dX5_sortOf_20 : decode cX5_sortOf 20 = .ok (.iload_n 0, 1) := by decide +kernel
theorem dX5_sortOf_21 : decode cX5_sortOf 21 = .ok (.bipush 57, 2) := by decide +kernel
theorem dX5_sortOf_23 : decode cX5_sortOf 23 = .ok (.if_icmp .gt 7, 3) := by decide +kernel
theorem dX5_sortOf_26 : decode cX5_sortOf 26 = .ok (.iconst 2, 1) := by decide +kernel
theorem dX5_sortOf_27 : decode cX5_sortOf 27 = .ok (.goto 4, 3) := by decide +kernel
theorem dX5_sortOf_30 : decode cX5_sortOf 30 = .ok (.iconst 0, 1) := by decide +kernel
theorem dX5_sortOf_31 : decode cX5_sortOf 31 = .ok (.ireturn, 1) := by decide +kernel
theorem dX5_number_0 : decode cX5_number 0 = .ok (.aload_n 0, 1) := by decide +kernel
theorem dX5_number_1 : decode cX5_number 1 = .ok (.getfield 32, 3) := by decide +kernel
theorem dX5_number_4 : decode cX5_number 4 = .ok (.aload_n 0, 1) := by decide +kernel
theorem dX5_number_5 : decode cX5_number 5 = .ok (.getfield 15, 3) := by decide +kernel
theorem dX5_number_8 : decode cX5_number 8 = .ok (.if_icmp .ge 32, 3) := by decide +kernel
theorem dX5_number_11 : decode cX5_number 11 = .ok (.aload_n 0, 1) := by decide +kernel
theorem dX5_number_12 : decode cX5_number 12 = .ok (.getfield 22, 3) := by decide +kernel
theorem dX5_number_15 : decode cX5_number 15 = .ok (.aload_n 0, 1) := by decide +kernel
theorem dX5_number_16 : decode cX5_number 16 = .ok (.getfield 32, 3) := by decide +kernel
theorem dX5_number_19 : decode cX5_number 19 = .ok (.isub, 1) := by decide +kernel
theorem dX5_number_20 : decode cX5_number 20 = .ok (.iconst 2, 1) := by decide +kernel
theorem dX5_number_21 : decode cX5_number 21 = .ok (.if_icmp .gt 19, 3) := by decide +kernel
theorem dX5_number_24 : decode cX5_number 24 = .ok (.aload_n 0, 1) := by decide +kernel
theorem dX5_number_25 : decode cX5_number 25 = .ok (.getfield 9, 3) := by decide +kernel
theorem dX5_number_28 : decode cX5_number 28 = .ok (.aload_n 0, 1) := by decide +kernel
theorem dX5_number_29 : decode cX5_number 29 = .ok (.getfield 32, 3) := by decide +kernel
theorem dX5_number_32 : decode cX5_number 32 = .ok (.iaload, 1) := by decide +kernel
theorem dX5_number_33 : decode cX5_number 33 = .ok (.invokestatic 96, 3) := by decide +kernel
theorem dX5_number_36 : decode cX5_number 36 = .ok (.iconst 2, 1) := by decide +kernel
theorem dX5_number_37 : decode cX5_number 37 = .ok (.if_icmp .eq 5, 3) := by decide +kernel
theorem dX5_number_40 : decode cX5_number 40 = .ok (.iconst (-1), 1) := by decide +kernel
theorem dX5_number_41 : decode cX5_number 41 = .ok (.ireturn, 1) := by decide +kernel
theorem dX5_number_42 : decode cX5_number 42 = .ok (.iconst 0, 1) := by decide +kernel
theorem dX5_number_43 : decode cX5_number 43 = .ok (.istore_n 3, 1) := by decide +kernel
theorem dX5_number_44 : decode cX5_number 44 = .ok (.aload_n 0, 1) := by decide +kernel
theorem dX5_number_45 : decode cX5_number 45 = .ok (.getfield 32, 3) := by decide +kernel
theorem dX5_number_48 : decode cX5_number 48 = .ok (.istore 4, 2) := by decide +kernel
theorem dX5_number_50 : decode cX5_number 50 = .ok (.iload 4, 2) := by decide +kernel
theorem dX5_number_52 : decode cX5_number 52 = .ok (.aload_n 0, 1) := by decide +kernel
theorem dX5_number_53 : decode cX5_number 53 = .ok (.getfield 22, 3) := by decide +kernel
theorem dX5_number_56 : decode cX5_number 56 = .ok (.if_icmp .ge 25, 3) := by decide +kernel
theorem dX5_number_59 : decode cX5_number 59 = .ok (.bipush 10, 2) := by decide +kernel
theorem dX5_number_61 : decode cX5_number 61 = .ok (.iload_n 3, 1) := by decide +kernel
theorem dX5_number_62 : decode cX5_number 62 = .ok (.imul, 1) := by decide +kernel
theorem dX5_number_63 : decode cX5_number 63 = .ok (.aload_n 0, 1) := by decide +kernel
theorem dX5_number_64 : decode cX5_number 64 = .ok (.getfield 9, 3) := by decide +kernel
theorem dX5_number_67 : decode cX5_number 67 = .ok (.iload 4, 2) := by decide +kernel
theorem dX5_number_69 : decode cX5_number 69 = .ok (.iaload, 1) := by decide +kernel
theorem dX5_number_70 : decode cX5_number 70 = .ok (.iadd, 1) := by decide +kernel
theorem dX5_number_71 : decode cX5_number 71 = .ok (.bipush 48, 2) := by decide +kernel
theorem dX5_number_73 : decode cX5_number 73 = .ok (.isub, 1) := by decide +kernel
theorem dX5_number_74 : decode cX5_number 74 = .ok (.istore_n 3, 1) := by decide +kernel
theorem dX5_number_75 : decode cX5_number 75 = .ok (.iinc 4 1, 3) := by decide +kernel
theorem dX5_number_78 : decode cX5_number 78 = .ok (.goto (-28), 3) := by decide +kernel
theorem dX5_number_81 : decode cX5_number 81 = .ok (.iload_n 3, 1) := by decide +kernel
theorem dX5_number_82 : decode cX5_number 82 = .ok (.iload_n 1, 1) := by decide +kernel
theorem dX5_number_83 : decode cX5_number 83 = .ok (.if_icmp .lt 8, 3) := by decide +kernel
theorem dX5_number_86 : decode cX5_number 86 = .ok (.iload_n 3, 1) := by decide +kernel
theorem dX5_number_87 : decode cX5_number 87 = .ok (.iload_n 2, 1) := by decide +kernel
theorem dX5_number_88 : decode cX5_number 88 = .ok (.if_icmp .le 7, 3) := by decide +kernel
theorem dX5_number_91 : decode cX5_number 91 = .ok (.iconst (-1), 1) := by decide +kernel
theorem dX5_number_92 : decode cX5_number 92 = .ok (.goto 4, 3) := by decide +kernel
theorem dX5_number_95 : decode cX5_number 95 = .ok (.iload_n 3, 1) := by decide +kernel
theorem dX5_number_96 : decode cX5_number 96 = .ok (.ireturn, 1) := by decide +kernel
theorem dX5_word_0 : decode cX5_word 0 = .ok (.aload_n 0, 1) := by decide +kernel
theorem dX5_word_1 : decode cX5_word 1 = .ok (.ldc 99, 2) := by decide +kernel
theorem dX5_word_3 : decode cX5_word 3 = .ok (.invokevirtual 101, 3) := by decide +kernel
theorem dX5_word_6 : decode cX5_word 6 = .ok (.ifCond .eq 5, 3) := by decide +kernel
theorem dX5_word_9 : decode cX5_word 9 = .ok (.iconst 0, 1) := by decide +kernel
theorem dX5_word_10 : decode cX5_word 10 = .ok (.ireturn, 1) := by decide +kernel
theorem dX5_word_11 : decode cX5_word 11 = .ok (.aload_n 0, 1) := by decide +kernel
theorem dX5_word_12 : decode cX5_word 12 = .ok (.ldc 105, 2) := by decide +kernel
theorem dX5_word_14 : decode cX5_word 14 = .ok (.invokevirtual 101, 3) := by decide +kernel
theorem dX5_word_17 : decode cX5_word 17 = .ok (.ifCond .eq 5, 3) := by decide +kernel
theorem dX5_word_20 : decode cX5_word 20 = .ok (.iconst 1, 1) := by decide +kernel
theorem dX5_word_21 : decode cX5_word 21 = .ok (.ireturn, 1) := by decide +kernel
theorem dX5_word_22 : decode cX5_word 22 = .ok (.aload_n 0, 1) := by decide +kernel
theorem dX5_word_23 : decode cX5_word 23 = .ok (.ldc 107, 2) := by decide +kernel
theorem dX5_word_25 : decode cX5_word 25 = .ok (.invokevirtual 101, 3) := by decide +kernel
theorem dX5_word_28 : decode cX5_word 28 = .ok (.ifCond .eq 5, 3) := by decide +kernel
theorem dX5_word_31 : decode cX5_word 31 = .ok (.iconst 2, 1) := by decide +kernel
theorem dX5_word_32 : decode cX5_word 32 = .ok (.ireturn, 1) := by decide +kernel
theorem dX5_word_33 : decode cX5_word 33 = .ok (.aload_n 0, 1) := by decide +kernel
theorem dX5_word_34 : decode cX5_word 34 = .ok (.ldc 109, 2) := by decide +kernel
theorem dX5_word_36 : decode cX5_word 36 = .ok (.invokevirtual 101, 3) := by decide +kernel
theorem dX5_word_39 : decode cX5_word 39 = .ok (.ifCond .eq 5, 3) := by decide +kernel
theorem dX5_word_42 : decode cX5_word 42 = .ok (.iconst 3, 1) := by decide +kernel
theorem dX5_word_43 : decode cX5_word 43 = .ok (.ireturn, 1) := by decide +kernel
theorem dX5_word_44 : decode cX5_word 44 = .ok (.aload_n 0, 1) := by decide +kernel
theorem dX5_word_45 : decode cX5_word 45 = .ok (.ldc 111, 2) := by decide +kernel
theorem dX5_word_47 : decode cX5_word 47 = .ok (.invokevirtual 101, 3) := by decide +kernel
theorem dX5_word_50 : decode cX5_word 50 = .ok (.ifCond .eq 5, 3) := by decide +kernel
theorem dX5_word_53 : decode cX5_word 53 = .ok (.iconst 4, 1) := by decide +kernel
theorem dX5_word_54 : decode cX5_word 54 = .ok (.ireturn, 1) := by decide +kernel
theorem dX5_word_55 : decode cX5_word 55 = .ok (.aload_n 0, 1) := by decide +kernel
theorem dX5_word_56 : decode cX5_word 56 = .ok (.ldc 112, 2) := by decide +kernel
theorem dX5_word_58 : decode cX5_word 58 = .ok (.invokevirtual 101, 3) := by decide +kernel
theorem dX5_word_61 : decode cX5_word 61 = .ok (.ifCond .eq 5, 3) := by decide +kernel
theorem dX5_word_64 : decode cX5_word 64 = .ok (.iconst 5, 1) := by decide +kernel
theorem dX5_word_65 : decode cX5_word 65 = .ok (.ireturn, 1) := by decide +kernel
theorem dX5_word_66 : decode cX5_word 66 = .ok (.aload_n 0, 1) := by decide +kernel
theorem dX5_word_67 : decode cX5_word 67 = .ok (.ldc 114, 2) := by decide +kernel
theorem dX5_word_69 : decode cX5_word 69 = .ok (.invokevirtual 101, 3) := by decide +kernel
theorem dX5_word_72 : decode cX5_word 72 = .ok (.ifCond .eq 6, 3) := by decide +kernel
theorem dX5_word_75 : decode cX5_word 75 = .ok (.bipush 6, 2) := by decide +kernel
theorem dX5_word_77 : decode cX5_word 77 = .ok (.ireturn, 1) := by decide +kernel
theorem dX5_word_78 : decode cX5_word 78 = .ok (.aload_n 0, 1) := by decide +kernel
theorem dX5_word_79 : decode cX5_word 79 = .ok (.ldc 116, 2) := by decide +kernel
theorem dX5_word_81 : decode cX5_word 81 = .ok (.invokevirtual 101, 3) := by decide +kernel
theorem dX5_word_84 : decode cX5_word 84 = .ok (.ifCond .eq 6, 3) := by decide +kernel
theorem dX5_word_87 : decode cX5_word 87 = .ok (.bipush 7, 2) := by decide +kernel
theorem dX5_word_89 : decode cX5_word 89 = .ok (.ireturn, 1) := by decide +kernel
theorem dX5_word_90 : decode cX5_word 90 = .ok (.aload_n 0, 1) := by decide +kernel
theorem dX5_word_91 : decode cX5_word 91 = .ok (.ldc 118, 2) := by decide +kernel
theorem dX5_word_93 : decode cX5_word 93 = .ok (.invokevirtual 101, 3) := by decide +kernel
theorem dX5_word_96 : decode cX5_word 96 = .ok (.ifCond .eq 6, 3) := by decide +kernel
theorem dX5_word_99 : decode cX5_word 99 = .ok (.bipush 8, 2) := by decide +kernel
theorem dX5_word_101 : decode cX5_word 101 = .ok (.ireturn, 1) := by decide +kernel
theorem dX5_word_102 : decode cX5_word 102 = .ok (.aload_n 0, 1) := by decide +kernel
theorem dX5_word_103 : decode cX5_word 103 = .ok (.ldc 120, 2) := by decide +kernel
theorem dX5_word_105 : decode cX5_word 105 = .ok (.invokevirtual 101, 3) := by decide +kernel
theorem dX5_word_108 : decode cX5_word 108 = .ok (.ifCond .eq 8, 3) := by decide +kernel
theorem dX5_word_111 : decode cX5_word 111 = .ok (.bipush 9, 2) := by decide +kernel
theorem dX5_word_113 : decode cX5_word 113 = .ok (.goto 4, 3) := by decide +kernel
theorem dX5_word_116 : decode cX5_word 116 = .ok (.iconst (-1), 1) := by decide +kernel
theorem dX5_word_117 : decode cX5_word 117 = .ok (.ireturn, 1) := by decide +kernel
theorem dX5_isWord_0 : decode cX5_isWord 0 = .ok (.aload_n 0, 1) := by decide +kernel
theorem dX5_isWord_1 : decode cX5_isWord 1 = .ok (.getfield 22, 3) := by decide +kernel
theorem dX5_isWord_4 : decode cX5_isWord 4 = .ok (.aload_n 0, 1) := by decide +kernel
theorem dX5_isWord_5 : decode cX5_isWord 5 = .ok (.getfield 32, 3) := by decide +kernel
theorem dX5_isWord_8 : decode cX5_isWord 8 = .ok (.isub, 1) := by decide +kernel
theorem dX5_isWord_9 : decode cX5_isWord 9 = .ok (.aload_n 1, 1) := by decide +kernel
theorem dX5_isWord_10 : decode cX5_isWord 10 = .ok (.invokevirtual 122, 3) := by decide +kernel
theorem dX5_isWord_13 : decode cX5_isWord 13 = .ok (.if_icmp .eq 5, 3) := by decide +kernel
theorem dX5_isWord_16 : decode cX5_isWord 16 = .ok (.iconst 0, 1) := by decide +kernel
theorem dX5_isWord_17 : decode cX5_isWord 17 = .ok (.ireturn, 1) := by decide +kernel
theorem dX5_isWord_18 : decode cX5_isWord 18 = .ok (.iconst 0, 1) := by decide +kernel
theorem dX5_isWord_19 : decode cX5_isWord 19 = .ok (.istore_n 2, 1) := by decide +kernel
theorem dX5_isWord_20 : decode cX5_isWord 20 = .ok (.iload_n 2, 1) := by decide +kernel
theorem dX5_isWord_21 : decode cX5_isWord 21 = .ok (.aload_n 1, 1) := by decide +kernel
theorem dX5_isWord_22 : decode cX5_isWord 22 = .ok (.invokevirtual 122, 3) := by decide +kernel
theorem dX5_isWord_25 : decode cX5_isWord 25 = .ok (.if_icmp .ge 30, 3) := by decide +kernel
theorem dX5_isWord_28 : decode cX5_isWord 28 = .ok (.aload_n 0, 1) := by decide +kernel
theorem dX5_isWord_29 : decode cX5_isWord 29 = .ok (.getfield 9, 3) := by decide +kernel
theorem dX5_isWord_32 : decode cX5_isWord 32 = .ok (.aload_n 0, 1) := by decide +kernel
theorem dX5_isWord_33 : decode cX5_isWord 33 = .ok (.getfield 32, 3) := by decide +kernel
theorem dX5_isWord_36 : decode cX5_isWord 36 = .ok (.iload_n 2, 1) := by decide +kernel
theorem dX5_isWord_37 : decode cX5_isWord 37 = .ok (.iadd, 1) := by decide +kernel
theorem dX5_isWord_38 : decode cX5_isWord 38 = .ok (.iaload, 1) := by decide +kernel
theorem dX5_isWord_39 : decode cX5_isWord 39 = .ok (.aload_n 1, 1) := by decide +kernel
theorem dX5_isWord_40 : decode cX5_isWord 40 = .ok (.iload_n 2, 1) := by decide +kernel
theorem dX5_isWord_41 : decode cX5_isWord 41 = .ok (.invokevirtual 126, 3) := by decide +kernel
theorem dX5_isWord_44 : decode cX5_isWord 44 = .ok (.if_icmp .eq 5, 3) := by decide +kernel
theorem dX5_isWord_47 : decode cX5_isWord 47 = .ok (.iconst 0, 1) := by decide +kernel
theorem dX5_isWord_48 : decode cX5_isWord 48 = .ok (.ireturn, 1) := by decide +kernel
theorem dX5_isWord_49 : decode cX5_isWord 49 = .ok (.iinc 2 1, 3) := by decide +kernel
theorem dX5_isWord_52 : decode cX5_isWord 52 = .ok (.goto (-32), 3) := by decide +kernel
theorem dX5_isWord_55 : decode cX5_isWord 55 = .ok (.iconst 1, 1) := by decide +kernel
theorem dX5_isWord_56 : decode cX5_isWord 56 = .ok (.ireturn, 1) := by decide +kernel
theorem dJ0_length_8abf5_0 : decode cJ0_length_8abf5 0 = .ok (.aload_n 0, 1) := by decide +kernel
theorem dJ0_length_8abf5_1 : decode cJ0_length_8abf5 1 = .ok (.getfield 9, 3) := by decide +kernel
theorem dJ0_length_8abf5_4 : decode cJ0_length_8abf5 4 = .ok (.arraylength, 1) := by decide +kernel
theorem dJ0_length_8abf5_5 : decode cJ0_length_8abf5 5 = .ok (.aload_n 0, 1) := by decide +kernel
theorem dJ0_length_8abf5_6 : decode cJ0_length_8abf5 6 = .ok (.invokevirtual 335, 3) := by decide +kernel
theorem dJ0_length_8abf5_9 : decode cJ0_length_8abf5 9 = .ok (.ishr, 1) := by decide +kernel
theorem dJ0_length_8abf5_10 : decode cJ0_length_8abf5 10 = .ok (.ireturn, 1) := by decide +kernel
theorem dJ0_charAt_5068e_0 : decode cJ0_charAt_5068e 0 = .ok (.aload_n 0, 1) := by decide +kernel
theorem dJ0_charAt_5068e_1 : decode cJ0_charAt_5068e 1 = .ok (.invokevirtual 492, 3) := by decide +kernel
theorem dJ0_charAt_5068e_4 : decode cJ0_charAt_5068e 4 = .ok (.ifCond .eq 12, 3) := by decide +kernel
theorem dJ0_charAt_5068e_7 : decode cJ0_charAt_5068e 7 = .ok (.aload_n 0, 1) := by decide +kernel
theorem dJ0_charAt_5068e_8 : decode cJ0_charAt_5068e 8 = .ok (.getfield 9, 3) := by decide +kernel
theorem dJ0_charAt_5068e_11 : decode cJ0_charAt_5068e 11 = .ok (.iload_n 1, 1) := by decide +kernel
theorem dJ0_charAt_5068e_12 : decode cJ0_charAt_5068e 12 = .ok (.invokestatic 495, 3) := by decide +kernel
theorem dJ0_charAt_5068e_15 : decode cJ0_charAt_5068e 15 = .ok (.ireturn, 1) := by decide +kernel
theorem dJ0_charAt_5068e_16 : decode cJ0_charAt_5068e 16 = .ok (.aload_n 0, 1) := by decide +kernel
theorem dJ0_charAt_5068e_17 : decode cJ0_charAt_5068e 17 = .ok (.getfield 9, 3) := by decide +kernel
theorem dJ0_charAt_5068e_20 : decode cJ0_charAt_5068e 20 = .ok (.iload_n 1, 1) := by decide +kernel
theorem dJ0_charAt_5068e_21 : decode cJ0_charAt_5068e 21 = .ok (.invokestatic 498, 3) := by decide +kernel
theorem dJ0_charAt_5068e_24 : decode cJ0_charAt_5068e 24 = .ok (.ireturn, 1) := by decide +kernel
theorem dJ0_coder_7d493_0 : decode cJ0_coder_7d493 0 = .ok (.getstatic 38, 3) := by decide +kernel
theorem dJ0_coder_7d493_3 : decode cJ0_coder_7d493 3 = .ok (.ifCond .eq 10, 3) := by decide +kernel
theorem dJ0_coder_7d493_6 : decode cJ0_coder_7d493 6 = .ok (.aload_n 0, 1) := by decide +kernel
theorem dJ0_coder_7d493_7 : decode cJ0_coder_7d493 7 = .ok (.getfield 15, 3) := by decide +kernel
theorem dJ0_coder_7d493_10 : decode cJ0_coder_7d493 10 = .ok (.goto 4, 3) := by decide +kernel
theorem dJ0_coder_7d493_13 : decode cJ0_coder_7d493 13 = .ok (.iconst 1, 1) := by decide +kernel
theorem dJ0_coder_7d493_14 : decode cJ0_coder_7d493 14 = .ok (.ireturn, 1) := by decide +kernel
theorem dJ0_isLatin1_aae02_0 : decode cJ0_isLatin1_aae02 0 = .ok (.getstatic 38, 3) := by decide +kernel
theorem dJ0_isLatin1_aae02_3 : decode cJ0_isLatin1_aae02 3 = .ok (.ifCond .eq 14, 3) := by decide +kernel
theorem dJ0_isLatin1_aae02_6 : decode cJ0_isLatin1_aae02 6 = .ok (.aload_n 0, 1) := by decide +kernel
theorem dJ0_isLatin1_aae02_7 : decode cJ0_isLatin1_aae02 7 = .ok (.getfield 15, 3) := by decide +kernel
theorem dJ0_isLatin1_aae02_10 : decode cJ0_isLatin1_aae02 10 = .ok (.ifCond .ne 7, 3) := by decide +kernel
theorem dJ0_isLatin1_aae02_13 : decode cJ0_isLatin1_aae02 13 = .ok (.iconst 1, 1) := by decide +kernel
theorem dJ0_isLatin1_aae02_14 : decode cJ0_isLatin1_aae02 14 = .ok (.goto 4, 3) := by decide +kernel
theorem dJ0_isLatin1_aae02_17 : decode cJ0_isLatin1_aae02 17 = .ok (.iconst 0, 1) := by decide +kernel
theorem dJ0_isLatin1_aae02_18 : decode cJ0_isLatin1_aae02 18 = .ok (.ireturn, 1) := by decide +kernel
theorem dJ0_checkIndex_df160_0 : decode cJ0_checkIndex_df160 0 = .ok (.iload_n 0, 1) := by decide +kernel
theorem dJ0_checkIndex_df160_1 : decode cJ0_checkIndex_df160 1 = .ok (.iload_n 1, 1) := by decide +kernel
theorem dJ0_checkIndex_df160_2 : decode cJ0_checkIndex_df160 2 = .ok (.getstatic 1053, 3) := by decide +kernel
theorem dJ0_checkIndex_df160_5 : decode cJ0_checkIndex_df160 5 = .ok (.invokestatic 1059, 3) := by decide +kernel
theorem dJ0_checkIndex_df160_8 : decode cJ0_checkIndex_df160 8 = .ok (.pop, 1) := by decide +kernel
theorem dJ0_checkIndex_df160_9 : decode cJ0_checkIndex_df160 9 = .ok (.return_, 1) := by decide +kernel
theorem dJ1_charAt_3b067_0 : decode cJ1_charAt_3b067 0 = .ok (.iload_n 1, 1) := by decide +kernel
theorem dJ1_charAt_3b067_1 : decode cJ1_charAt_3b067 1 = .ok (.aload_n 0, 1) := by decide +kernel
theorem dJ1_charAt_3b067_2 : decode cJ1_charAt_3b067 2 = .ok (.arraylength, 1) := by decide +kernel
theorem dJ1_charAt_3b067_3 : decode cJ1_charAt_3b067 3 = .ok (.invokestatic 9, 3) := by decide +kernel
theorem dJ1_charAt_3b067_6 : decode cJ1_charAt_3b067 6 = .ok (.aload_n 0, 1) := by decide +kernel
theorem dJ1_charAt_3b067_7 : decode cJ1_charAt_3b067 7 = .ok (.iload_n 1, 1) := by decide +kernel
theorem dJ1_charAt_3b067_8 : decode cJ1_charAt_3b067 8 = .ok (.baload, 1) := by decide +kernel
theorem dJ1_charAt_3b067_9 : decode cJ1_charAt_3b067 9 = .ok (.sipush 255, 3) := by decide +kernel
theorem dJ1_charAt_3b067_12 : decode cJ1_charAt_3b067 12 = .ok (.iand, 1) := by decide +kernel
theorem dJ1_charAt_3b067_13 : decode cJ1_charAt_3b067 13 = .ok (.i2c, 1) := by decide +kernel
theorem dJ1_charAt_3b067_14 : decode cJ1_charAt_3b067 14 = .ok (.ireturn, 1) := by decide +kernel
theorem dJ2_getChar_3b067_0 : decode cJ2_getChar_3b067 0 = .ok (.getstatic 44, 3) := by decide +kernel
theorem dJ2_getChar_3b067_3 : decode cJ2_getChar_3b067 3 = .ok (.ifCond .ne 25, 3) := by decide +kernel
theorem dJ2_getChar_3b067_6 : decode cJ2_getChar_3b067 6 = .ok (.iload_n 1, 1) := by decide +kernel
theorem dJ2_getChar_3b067_7 : decode cJ2_getChar_3b067 7 = .ok (.ifCond .lt 11, 3) := by decide +kernel
theorem dJ2_getChar_3b067_10 : decode cJ2_getChar_3b067 10 = .ok (.iload_n 1, 1) := by decide +kernel
theorem dJ2_getChar_3b067_11 : decode cJ2_getChar_3b067 11 = .ok (.aload_n 0, 1) := by decide +kernel
theorem dJ2_getChar_3b067_12 : decode cJ2_getChar_3b067 12 = .ok (.invokestatic 48, 3) := by decide +kernel
theorem dJ2_getChar_3b067_15 : decode cJ2_getChar_3b067 15 = .ok (.if_icmp .lt 13, 3) := by decide +kernel
theorem dJ2_getChar_3b067_18 : decode cJ2_getChar_3b067 18 = .ok (.new 52, 3) := by decide +kernel
theorem dJ2_getChar_3b067_21 : decode cJ2_getChar_3b067 21 = .ok (.dup, 1) := by decide +kernel
theorem dJ2_getChar_3b067_22 : decode cJ2_getChar_3b067 22 = .ok (.ldc 54, 2) := by decide +kernel
theorem dJ2_getChar_3b067_24 : decode cJ2_getChar_3b067 24 = .ok (.invokespecial 56, 3) := by decide +kernel
theorem dJ2_getChar_3b067_27 : decode cJ2_getChar_3b067 27 = .ok (.athrow, 1) := by decide +kernel
theorem dJ2_getChar_3b067_28 : decode cJ2_getChar_3b067 28 = .ok (.iload_n 1, 1) := by decide +kernel
theorem dJ2_getChar_3b067_29 : decode cJ2_getChar_3b067 29 = .ok (.iconst 1, 1) := by decide +kernel
theorem dJ2_getChar_3b067_30 : decode cJ2_getChar_3b067 30 = .ok (.ishl, 1) := by decide +kernel
theorem dJ2_getChar_3b067_31 : decode cJ2_getChar_3b067 31 = .ok (.istore_n 1, 1) := by decide +kernel
theorem dJ2_getChar_3b067_32 : decode cJ2_getChar_3b067 32 = .ok (.aload_n 0, 1) := by decide +kernel
theorem dJ2_getChar_3b067_33 : decode cJ2_getChar_3b067 33 = .ok (.iload_n 1, 1) := by decide +kernel
theorem dJ2_getChar_3b067_34 : decode cJ2_getChar_3b067 34 = .ok (.iinc 1 1, 3) := by decide +kernel
theorem dJ2_getChar_3b067_37 : decode cJ2_getChar_3b067 37 = .ok (.baload, 1) := by decide +kernel
theorem dJ2_getChar_3b067_38 : decode cJ2_getChar_3b067 38 = .ok (.sipush 255, 3) := by decide +kernel
theorem dJ2_getChar_3b067_41 : decode cJ2_getChar_3b067 41 = .ok (.iand, 1) := by decide +kernel
theorem dJ2_getChar_3b067_42 : decode cJ2_getChar_3b067 42 = .ok (.getstatic 59, 3) := by decide +kernel
theorem dJ2_getChar_3b067_45 : decode cJ2_getChar_3b067 45 = .ok (.ishl, 1) := by decide +kernel
theorem dJ2_getChar_3b067_46 : decode cJ2_getChar_3b067 46 = .ok (.aload_n 0, 1) := by decide +kernel
theorem dJ2_getChar_3b067_47 : decode cJ2_getChar_3b067 47 = .ok (.iload_n 1, 1) := by decide +kernel
theorem dJ2_getChar_3b067_48 : decode cJ2_getChar_3b067 48 = .ok (.baload, 1) := by decide +kernel
theorem dJ2_getChar_3b067_49 : decode cJ2_getChar_3b067 49 = .ok (.sipush 255, 3) := by decide +kernel
theorem dJ2_getChar_3b067_52 : decode cJ2_getChar_3b067 52 = .ok (.iand, 1) := by decide +kernel
theorem dJ2_getChar_3b067_53 : decode cJ2_getChar_3b067 53 = .ok (.getstatic 63, 3) := by decide +kernel
theorem dJ2_getChar_3b067_56 : decode cJ2_getChar_3b067 56 = .ok (.ishl, 1) := by decide +kernel
theorem dJ2_getChar_3b067_57 : decode cJ2_getChar_3b067 57 = .ok (.ior, 1) := by decide +kernel
theorem dJ2_getChar_3b067_58 : decode cJ2_getChar_3b067 58 = .ok (.i2c, 1) := by decide +kernel
theorem dJ2_getChar_3b067_59 : decode cJ2_getChar_3b067 59 = .ok (.ireturn, 1) := by decide +kernel
theorem dJ2_length_9d52b_0 : decode cJ2_length_9d52b 0 = .ok (.aload_n 0, 1) := by decide +kernel
theorem dJ2_length_9d52b_1 : decode cJ2_length_9d52b 1 = .ok (.arraylength, 1) := by decide +kernel
theorem dJ2_length_9d52b_2 : decode cJ2_length_9d52b 2 = .ok (.iconst 1, 1) := by decide +kernel
theorem dJ2_length_9d52b_3 : decode cJ2_length_9d52b 3 = .ok (.ishr, 1) := by decide +kernel
theorem dJ2_length_9d52b_4 : decode cJ2_length_9d52b 4 = .ok (.ireturn, 1) := by decide +kernel
theorem dJ2_charAt_3b067_0 : decode cJ2_charAt_3b067 0 = .ok (.iload_n 1, 1) := by decide +kernel
theorem dJ2_charAt_3b067_1 : decode cJ2_charAt_3b067 1 = .ok (.aload_n 0, 1) := by decide +kernel
theorem dJ2_charAt_3b067_2 : decode cJ2_charAt_3b067 2 = .ok (.invokestatic 67, 3) := by decide +kernel
theorem dJ2_charAt_3b067_5 : decode cJ2_charAt_3b067 5 = .ok (.aload_n 0, 1) := by decide +kernel
theorem dJ2_charAt_3b067_6 : decode cJ2_charAt_3b067 6 = .ok (.iload_n 1, 1) := by decide +kernel
theorem dJ2_charAt_3b067_7 : decode cJ2_charAt_3b067 7 = .ok (.invokestatic 71, 3) := by decide +kernel
theorem dJ2_charAt_3b067_10 : decode cJ2_charAt_3b067 10 = .ok (.ireturn, 1) := by decide +kernel
theorem dJ2_checkIndex_2214a_0 : decode cJ2_checkIndex_2214a 0 = .ok (.iload_n 0, 1) := by decide +kernel
theorem dJ2_checkIndex_2214a_1 : decode cJ2_checkIndex_2214a 1 = .ok (.aload_n 1, 1) := by decide +kernel
theorem dJ2_checkIndex_2214a_2 : decode cJ2_checkIndex_2214a 2 = .ok (.invokestatic 48, 3) := by decide +kernel
theorem dJ2_checkIndex_2214a_5 : decode cJ2_checkIndex_2214a 5 = .ok (.invokestatic 414, 3) := by decide +kernel
theorem dJ2_checkIndex_2214a_8 : decode cJ2_checkIndex_2214a 8 = .ok (.return_, 1) := by decide +kernel
theorem dJ3_checkIndex_8e157_0 : decode cJ3_checkIndex_8e157 0 = .ok (.iload_n 0, 1) := by decide +kernel
theorem dJ3_checkIndex_8e157_1 : decode cJ3_checkIndex_8e157 1 = .ok (.ifCond .lt 8, 3) := by decide +kernel
theorem dJ3_checkIndex_8e157_4 : decode cJ3_checkIndex_8e157 4 = .ok (.iload_n 0, 1) := by decide +kernel
theorem dJ3_checkIndex_8e157_5 : decode cJ3_checkIndex_8e157 5 = .ok (.iload_n 1, 1) := by decide +kernel
theorem dJ3_checkIndex_8e157_6 : decode cJ3_checkIndex_8e157 6 = .ok (.if_icmp .lt 10, 3) := by decide +kernel
theorem dJ3_checkIndex_8e157_9 : decode cJ3_checkIndex_8e157 9 = .ok (.aload_n 2, 1) := by decide +kernel
theorem dJ3_checkIndex_8e157_10 : decode cJ3_checkIndex_8e157 10 = .ok (.iload_n 0, 1) := by decide +kernel
theorem dJ3_checkIndex_8e157_11 : decode cJ3_checkIndex_8e157 11 = .ok (.iload_n 1, 1) := by decide +kernel
theorem dJ3_checkIndex_8e157_12 : decode cJ3_checkIndex_8e157 12 = .ok (.invokestatic 95, 3) := by decide +kernel
theorem dJ3_checkIndex_8e157_15 : decode cJ3_checkIndex_8e157 15 = .ok (.athrow, 1) := by decide +kernel
theorem dJ3_checkIndex_8e157_16 : decode cJ3_checkIndex_8e157 16 = .ok (.iload_n 0, 1) := by decide +kernel
theorem dJ3_checkIndex_8e157_17 : decode cJ3_checkIndex_8e157 17 = .ok (.ireturn, 1) := by decide +kernel
theorem dJ6_numberOfTrailingZeros_0f7a4_0 : decode cJ6_numberOfTrailingZeros_0f7a4 0 = .ok (.iload_n 0, 1) := by decide +kernel
theorem dJ6_numberOfTrailingZeros_0f7a4_1 : decode cJ6_numberOfTrailingZeros_0f7a4 1 = .ok (.iconst (-1), 1) := by decide +kernel
theorem dJ6_numberOfTrailingZeros_0f7a4_2 : decode cJ6_numberOfTrailingZeros_0f7a4 2 = .ok (.ixor, 1) := by decide +kernel
theorem dJ6_numberOfTrailingZeros_0f7a4_3 : decode cJ6_numberOfTrailingZeros_0f7a4 3 = .ok (.iload_n 0, 1) := by decide +kernel
theorem dJ6_numberOfTrailingZeros_0f7a4_4 : decode cJ6_numberOfTrailingZeros_0f7a4 4 = .ok (.iconst 1, 1) := by decide +kernel
theorem dJ6_numberOfTrailingZeros_0f7a4_5 : decode cJ6_numberOfTrailingZeros_0f7a4 5 = .ok (.isub, 1) := by decide +kernel
theorem dJ6_numberOfTrailingZeros_0f7a4_6 : decode cJ6_numberOfTrailingZeros_0f7a4 6 = .ok (.iand, 1) := by decide +kernel
theorem dJ6_numberOfTrailingZeros_0f7a4_7 : decode cJ6_numberOfTrailingZeros_0f7a4 7 = .ok (.istore_n 0, 1) := by decide +kernel
theorem dJ6_numberOfTrailingZeros_0f7a4_8 : decode cJ6_numberOfTrailingZeros_0f7a4 8 = .ok (.iload_n 0, 1) := by decide +kernel
theorem dJ6_numberOfTrailingZeros_0f7a4_9 : decode cJ6_numberOfTrailingZeros_0f7a4 9 = .ok (.ifCond .gt 8, 3) := by decide +kernel
theorem dJ6_numberOfTrailingZeros_0f7a4_12 : decode cJ6_numberOfTrailingZeros_0f7a4 12 = .ok (.iload_n 0, 1) := by decide +kernel
theorem dJ6_numberOfTrailingZeros_0f7a4_13 : decode cJ6_numberOfTrailingZeros_0f7a4 13 = .ok (.bipush 32, 2) := by decide +kernel
theorem dJ6_numberOfTrailingZeros_0f7a4_15 : decode cJ6_numberOfTrailingZeros_0f7a4 15 = .ok (.iand, 1) := by decide +kernel
theorem dJ6_numberOfTrailingZeros_0f7a4_16 : decode cJ6_numberOfTrailingZeros_0f7a4 16 = .ok (.ireturn, 1) := by decide +kernel
theorem dJ6_numberOfTrailingZeros_0f7a4_17 : decode cJ6_numberOfTrailingZeros_0f7a4 17 = .ok (.iconst 1, 1) := by decide +kernel
theorem dJ6_numberOfTrailingZeros_0f7a4_18 : decode cJ6_numberOfTrailingZeros_0f7a4 18 = .ok (.istore_n 1, 1) := by decide +kernel
theorem dJ6_numberOfTrailingZeros_0f7a4_19 : decode cJ6_numberOfTrailingZeros_0f7a4 19 = .ok (.iload_n 0, 1) := by decide +kernel
theorem dJ6_numberOfTrailingZeros_0f7a4_20 : decode cJ6_numberOfTrailingZeros_0f7a4 20 = .ok (.ldc_w 264, 3) := by decide +kernel
theorem dJ6_numberOfTrailingZeros_0f7a4_23 : decode cJ6_numberOfTrailingZeros_0f7a4 23 = .ok (.if_icmp .le 11, 3) := by decide +kernel
theorem dJ6_numberOfTrailingZeros_0f7a4_26 : decode cJ6_numberOfTrailingZeros_0f7a4 26 = .ok (.iinc 1 16, 3) := by decide +kernel
theorem dJ6_numberOfTrailingZeros_0f7a4_29 : decode cJ6_numberOfTrailingZeros_0f7a4 29 = .ok (.iload_n 0, 1) := by decide +kernel
theorem dJ6_numberOfTrailingZeros_0f7a4_30 : decode cJ6_numberOfTrailingZeros_0f7a4 30 = .ok (.bipush 16, 2) := by decide +kernel
theorem dJ6_numberOfTrailingZeros_0f7a4_32 : decode cJ6_numberOfTrailingZeros_0f7a4 32 = .ok (.iushr, 1) := by decide +kernel
theorem dJ6_numberOfTrailingZeros_0f7a4_33 : decode cJ6_numberOfTrailingZeros_0f7a4 33 = .ok (.istore_n 0, 1) := by decide +kernel
theorem dJ6_numberOfTrailingZeros_0f7a4_34 : decode cJ6_numberOfTrailingZeros_0f7a4 34 = .ok (.iload_n 0, 1) := by decide +kernel
theorem dJ6_numberOfTrailingZeros_0f7a4_35 : decode cJ6_numberOfTrailingZeros_0f7a4 35 = .ok (.sipush 256, 3) := by decide +kernel
theorem dJ6_numberOfTrailingZeros_0f7a4_38 : decode cJ6_numberOfTrailingZeros_0f7a4 38 = .ok (.if_icmp .le 11, 3) := by decide +kernel
theorem dJ6_numberOfTrailingZeros_0f7a4_41 : decode cJ6_numberOfTrailingZeros_0f7a4 41 = .ok (.iinc 1 8, 3) := by decide +kernel
theorem dJ6_numberOfTrailingZeros_0f7a4_44 : decode cJ6_numberOfTrailingZeros_0f7a4 44 = .ok (.iload_n 0, 1) := by decide +kernel
theorem dJ6_numberOfTrailingZeros_0f7a4_45 : decode cJ6_numberOfTrailingZeros_0f7a4 45 = .ok (.bipush 8, 2) := by decide +kernel
theorem dJ6_numberOfTrailingZeros_0f7a4_47 : decode cJ6_numberOfTrailingZeros_0f7a4 47 = .ok (.iushr, 1) := by decide +kernel
theorem dJ6_numberOfTrailingZeros_0f7a4_48 : decode cJ6_numberOfTrailingZeros_0f7a4 48 = .ok (.istore_n 0, 1) := by decide +kernel
theorem dJ6_numberOfTrailingZeros_0f7a4_49 : decode cJ6_numberOfTrailingZeros_0f7a4 49 = .ok (.iload_n 0, 1) := by decide +kernel
theorem dJ6_numberOfTrailingZeros_0f7a4_50 : decode cJ6_numberOfTrailingZeros_0f7a4 50 = .ok (.bipush 16, 2) := by decide +kernel
theorem dJ6_numberOfTrailingZeros_0f7a4_52 : decode cJ6_numberOfTrailingZeros_0f7a4 52 = .ok (.if_icmp .le 10, 3) := by decide +kernel
theorem dJ6_numberOfTrailingZeros_0f7a4_55 : decode cJ6_numberOfTrailingZeros_0f7a4 55 = .ok (.iinc 1 4, 3) := by decide +kernel
theorem dJ6_numberOfTrailingZeros_0f7a4_58 : decode cJ6_numberOfTrailingZeros_0f7a4 58 = .ok (.iload_n 0, 1) := by decide +kernel
theorem dJ6_numberOfTrailingZeros_0f7a4_59 : decode cJ6_numberOfTrailingZeros_0f7a4 59 = .ok (.iconst 4, 1) := by decide +kernel
theorem dJ6_numberOfTrailingZeros_0f7a4_60 : decode cJ6_numberOfTrailingZeros_0f7a4 60 = .ok (.iushr, 1) := by decide +kernel
theorem dJ6_numberOfTrailingZeros_0f7a4_61 : decode cJ6_numberOfTrailingZeros_0f7a4 61 = .ok (.istore_n 0, 1) := by decide +kernel
theorem dJ6_numberOfTrailingZeros_0f7a4_62 : decode cJ6_numberOfTrailingZeros_0f7a4 62 = .ok (.iload_n 0, 1) := by decide +kernel
theorem dJ6_numberOfTrailingZeros_0f7a4_63 : decode cJ6_numberOfTrailingZeros_0f7a4 63 = .ok (.iconst 4, 1) := by decide +kernel
theorem dJ6_numberOfTrailingZeros_0f7a4_64 : decode cJ6_numberOfTrailingZeros_0f7a4 64 = .ok (.if_icmp .le 10, 3) := by decide +kernel
theorem dJ6_numberOfTrailingZeros_0f7a4_67 : decode cJ6_numberOfTrailingZeros_0f7a4 67 = .ok (.iinc 1 2, 3) := by decide +kernel
theorem dJ6_numberOfTrailingZeros_0f7a4_70 : decode cJ6_numberOfTrailingZeros_0f7a4 70 = .ok (.iload_n 0, 1) := by decide +kernel
theorem dJ6_numberOfTrailingZeros_0f7a4_71 : decode cJ6_numberOfTrailingZeros_0f7a4 71 = .ok (.iconst 2, 1) := by decide +kernel
theorem dJ6_numberOfTrailingZeros_0f7a4_72 : decode cJ6_numberOfTrailingZeros_0f7a4 72 = .ok (.iushr, 1) := by decide +kernel
theorem dJ6_numberOfTrailingZeros_0f7a4_73 : decode cJ6_numberOfTrailingZeros_0f7a4 73 = .ok (.istore_n 0, 1) := by decide +kernel
theorem dJ6_numberOfTrailingZeros_0f7a4_74 : decode cJ6_numberOfTrailingZeros_0f7a4 74 = .ok (.iload_n 1, 1) := by decide +kernel
theorem dJ6_numberOfTrailingZeros_0f7a4_75 : decode cJ6_numberOfTrailingZeros_0f7a4 75 = .ok (.iload_n 0, 1) := by decide +kernel
theorem dJ6_numberOfTrailingZeros_0f7a4_76 : decode cJ6_numberOfTrailingZeros_0f7a4 76 = .ok (.iconst 1, 1) := by decide +kernel
theorem dJ6_numberOfTrailingZeros_0f7a4_77 : decode cJ6_numberOfTrailingZeros_0f7a4 77 = .ok (.iushr, 1) := by decide +kernel
theorem dJ6_numberOfTrailingZeros_0f7a4_78 : decode cJ6_numberOfTrailingZeros_0f7a4 78 = .ok (.iadd, 1) := by decide +kernel
theorem dJ6_numberOfTrailingZeros_0f7a4_79 : decode cJ6_numberOfTrailingZeros_0f7a4 79 = .ok (.ireturn, 1) := by decide +kernel
theorem dJ6_bitCount_0f7a4_0 : decode cJ6_bitCount_0f7a4 0 = .ok (.iload_n 0, 1) := by decide +kernel
theorem dJ6_bitCount_0f7a4_1 : decode cJ6_bitCount_0f7a4 1 = .ok (.iload_n 0, 1) := by decide +kernel
theorem dJ6_bitCount_0f7a4_2 : decode cJ6_bitCount_0f7a4 2 = .ok (.iconst 1, 1) := by decide +kernel
theorem dJ6_bitCount_0f7a4_3 : decode cJ6_bitCount_0f7a4 3 = .ok (.iushr, 1) := by decide +kernel
theorem dJ6_bitCount_0f7a4_4 : decode cJ6_bitCount_0f7a4 4 = .ok (.ldc_w 265, 3) := by decide +kernel
theorem dJ6_bitCount_0f7a4_7 : decode cJ6_bitCount_0f7a4 7 = .ok (.iand, 1) := by decide +kernel
theorem dJ6_bitCount_0f7a4_8 : decode cJ6_bitCount_0f7a4 8 = .ok (.isub, 1) := by decide +kernel
theorem dJ6_bitCount_0f7a4_9 : decode cJ6_bitCount_0f7a4 9 = .ok (.istore_n 0, 1) := by decide +kernel
theorem dJ6_bitCount_0f7a4_10 : decode cJ6_bitCount_0f7a4 10 = .ok (.iload_n 0, 1) := by decide +kernel
theorem dJ6_bitCount_0f7a4_11 : decode cJ6_bitCount_0f7a4 11 = .ok (.ldc_w 266, 3) := by decide +kernel
theorem dJ6_bitCount_0f7a4_14 : decode cJ6_bitCount_0f7a4 14 = .ok (.iand, 1) := by decide +kernel
theorem dJ6_bitCount_0f7a4_15 : decode cJ6_bitCount_0f7a4 15 = .ok (.iload_n 0, 1) := by decide +kernel
theorem dJ6_bitCount_0f7a4_16 : decode cJ6_bitCount_0f7a4 16 = .ok (.iconst 2, 1) := by decide +kernel
theorem dJ6_bitCount_0f7a4_17 : decode cJ6_bitCount_0f7a4 17 = .ok (.iushr, 1) := by decide +kernel
theorem dJ6_bitCount_0f7a4_18 : decode cJ6_bitCount_0f7a4 18 = .ok (.ldc_w 266, 3) := by decide +kernel
theorem dJ6_bitCount_0f7a4_21 : decode cJ6_bitCount_0f7a4 21 = .ok (.iand, 1) := by decide +kernel
theorem dJ6_bitCount_0f7a4_22 : decode cJ6_bitCount_0f7a4 22 = .ok (.iadd, 1) := by decide +kernel
theorem dJ6_bitCount_0f7a4_23 : decode cJ6_bitCount_0f7a4 23 = .ok (.istore_n 0, 1) := by decide +kernel
theorem dJ6_bitCount_0f7a4_24 : decode cJ6_bitCount_0f7a4 24 = .ok (.iload_n 0, 1) := by decide +kernel
theorem dJ6_bitCount_0f7a4_25 : decode cJ6_bitCount_0f7a4 25 = .ok (.iload_n 0, 1) := by decide +kernel
theorem dJ6_bitCount_0f7a4_26 : decode cJ6_bitCount_0f7a4 26 = .ok (.iconst 4, 1) := by decide +kernel
theorem dJ6_bitCount_0f7a4_27 : decode cJ6_bitCount_0f7a4 27 = .ok (.iushr, 1) := by decide +kernel
theorem dJ6_bitCount_0f7a4_28 : decode cJ6_bitCount_0f7a4 28 = .ok (.iadd, 1) := by decide +kernel
theorem dJ6_bitCount_0f7a4_29 : decode cJ6_bitCount_0f7a4 29 = .ok (.ldc_w 267, 3) := by decide +kernel
theorem dJ6_bitCount_0f7a4_32 : decode cJ6_bitCount_0f7a4 32 = .ok (.iand, 1) := by decide +kernel
theorem dJ6_bitCount_0f7a4_33 : decode cJ6_bitCount_0f7a4 33 = .ok (.istore_n 0, 1) := by decide +kernel
theorem dJ6_bitCount_0f7a4_34 : decode cJ6_bitCount_0f7a4 34 = .ok (.iload_n 0, 1) := by decide +kernel
theorem dJ6_bitCount_0f7a4_35 : decode cJ6_bitCount_0f7a4 35 = .ok (.iload_n 0, 1) := by decide +kernel
theorem dJ6_bitCount_0f7a4_36 : decode cJ6_bitCount_0f7a4 36 = .ok (.bipush 8, 2) := by decide +kernel
theorem dJ6_bitCount_0f7a4_38 : decode cJ6_bitCount_0f7a4 38 = .ok (.iushr, 1) := by decide +kernel
theorem dJ6_bitCount_0f7a4_39 : decode cJ6_bitCount_0f7a4 39 = .ok (.iadd, 1) := by decide +kernel
theorem dJ6_bitCount_0f7a4_40 : decode cJ6_bitCount_0f7a4 40 = .ok (.istore_n 0, 1) := by decide +kernel
theorem dJ6_bitCount_0f7a4_41 : decode cJ6_bitCount_0f7a4 41 = .ok (.iload_n 0, 1) := by decide +kernel
theorem dJ6_bitCount_0f7a4_42 : decode cJ6_bitCount_0f7a4 42 = .ok (.iload_n 0, 1) := by decide +kernel
theorem dJ6_bitCount_0f7a4_43 : decode cJ6_bitCount_0f7a4 43 = .ok (.bipush 16, 2) := by decide +kernel
theorem dJ6_bitCount_0f7a4_45 : decode cJ6_bitCount_0f7a4 45 = .ok (.iushr, 1) := by decide +kernel
theorem dJ6_bitCount_0f7a4_46 : decode cJ6_bitCount_0f7a4 46 = .ok (.iadd, 1) := by decide +kernel
theorem dJ6_bitCount_0f7a4_47 : decode cJ6_bitCount_0f7a4 47 = .ok (.istore_n 0, 1) := by decide +kernel
theorem dJ6_bitCount_0f7a4_48 : decode cJ6_bitCount_0f7a4 48 = .ok (.iload_n 0, 1) := by decide +kernel
theorem dJ6_bitCount_0f7a4_49 : decode cJ6_bitCount_0f7a4 49 = .ok (.bipush 63, 2) := by decide +kernel
theorem dJ6_bitCount_0f7a4_51 : decode cJ6_bitCount_0f7a4 51 = .ok (.iand, 1) := by decide +kernel
theorem dJ6_bitCount_0f7a4_52 : decode cJ6_bitCount_0f7a4 52 = .ok (.ireturn, 1) := by decide +kernel
theorem dJ9_max_7cf53_0 : decode cJ9_max_7cf53 0 = .ok (.iload_n 0, 1) := by decide +kernel
theorem dJ9_max_7cf53_1 : decode cJ9_max_7cf53 1 = .ok (.iload_n 1, 1) := by decide +kernel
theorem dJ9_max_7cf53_2 : decode cJ9_max_7cf53 2 = .ok (.if_icmp .lt 7, 3) := by decide +kernel
theorem dJ9_max_7cf53_5 : decode cJ9_max_7cf53 5 = .ok (.iload_n 0, 1) := by decide +kernel
theorem dJ9_max_7cf53_6 : decode cJ9_max_7cf53 6 = .ok (.goto 4, 3) := by decide +kernel
theorem dJ9_max_7cf53_9 : decode cJ9_max_7cf53 9 = .ok (.iload_n 1, 1) := by decide +kernel
theorem dJ9_max_7cf53_10 : decode cJ9_max_7cf53 10 = .ok (.ireturn, 1) := by decide +kernel
theorem dJ9_min_7cf53_0 : decode cJ9_min_7cf53 0 = .ok (.iload_n 0, 1) := by decide +kernel
theorem dJ9_min_7cf53_1 : decode cJ9_min_7cf53 1 = .ok (.iload_n 1, 1) := by decide +kernel
theorem dJ9_min_7cf53_2 : decode cJ9_min_7cf53 2 = .ok (.if_icmp .gt 7, 3) := by decide +kernel
theorem dJ9_min_7cf53_5 : decode cJ9_min_7cf53 5 = .ok (.iload_n 0, 1) := by decide +kernel
theorem dJ9_min_7cf53_6 : decode cJ9_min_7cf53 6 = .ok (.goto 4, 3) := by decide +kernel
theorem dJ9_min_7cf53_9 : decode cJ9_min_7cf53 9 = .ok (.iload_n 1, 1) := by decide +kernel
theorem dJ9_min_7cf53_10 : decode cJ9_min_7cf53 10 = .ok (.ireturn, 1) := by decide +kernel
