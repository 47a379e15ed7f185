theorem dX6_init_0 : decode cX6_init 0 = .ok (.aload_n 0, 1) := by decide +kernel
theorem dX6_init_1 : decode cX6_init 1 = .ok (.invokespecial 3, 3) := by decide +kernel
theorem dX6_init_4 : decode cX6_init 4 = .ok (.aload_n 0, 1) := by decide +kernel
theorem dX6_init_5 : decode cX6_init 5 = .ok (.new 9, 3) := by decide +kernel
theorem dX6_init_8 : decode cX6_init 8 = .ok (.dup, 1) := by decide +kernel
theorem dX6_init_9 : decode cX6_init 9 = .ok (.invokespecial 11, 3) := by decide +kernel
theorem dX6_init_12 : decode cX6_init 12 = .ok (.putfield 12, 3) := by decide +kernel
theorem dX6_init_15 : decode cX6_init 15 = .ok (.aload_n 0, 1) := by decide +kernel
theorem dX6_init_16 : decode cX6_init 16 = .ok (.new 16, 3) := by decide +kernel
theorem dX6_init_19 : decode cX6_init 19 = .ok (.dup, 1) := by decide +kernel
theorem dX6_init_20 : decode cX6_init 20 = .ok (.invokespecial 18, 3) := by decide +kernel
theorem dX6_init_23 : decode cX6_init 23 = .ok (.putfield 19, 3) := by decide +kernel
theorem dX6_init_26 : decode cX6_init 26 = .ok (.aload_n 0, 1) := by decide +kernel
theorem dX6_init_27 : decode cX6_init 27 = .ok (.new 16, 3) := by decide +kernel
theorem dX6_init_30 : decode cX6_init 30 = .ok (.dup, 1) := by decide +kernel
theorem dX6_init_31 : decode cX6_init 31 = .ok (.invokespecial 18, 3) := by decide +kernel
theorem dX6_init_34 : decode cX6_init 34 = .ok (.putfield 23, 3) := by decide +kernel
theorem dX6_init_37 : decode cX6_init 37 = .ok (.aload_n 0, 1) := by decide +kernel
theorem dX6_init_38 : decode cX6_init 38 = .ok (.new 26, 3) := by decide +kernel
theorem dX6_init_41 : decode cX6_init 41 = .ok (.dup, 1) := by decide +kernel
theorem dX6_init_42 : decode cX6_init 42 = .ok (.aload_n 0, 1) := by decide +kernel
theorem dX6_init_43 : decode cX6_init 43 = .ok (.getfield 19, 3) := by decide +kernel
theorem dX6_init_46 : decode cX6_init 46 = .ok (.invokespecial 28, 3) := by decide +kernel
theorem dX6_init_49 : decode cX6_init 49 = .ok (.putfield 31, 3) := by decide +kernel
theorem dX6_init_52 : decode cX6_init 52 = .ok (.aload_n 0, 1) := by decide +kernel
theorem dX6_init_53 : decode cX6_init 53 = .ok (.new 26, 3) := by decide +kernel
theorem dX6_init_56 : decode cX6_init 56 = .ok (.dup, 1) := by decide +kernel
theorem dX6_init_57 : decode cX6_init 57 = .ok (.aload_n 0, 1) := by decide +kernel
theorem dX6_init_58 : decode cX6_init 58 = .ok (.getfield 19, 3) := by decide +kernel
theorem dX6_init_61 : decode cX6_init 61 = .ok (.invokespecial 28, 3) := by decide +kernel
theorem dX6_init_64 : decode cX6_init 64 = .ok (.putfield 35, 3) := by decide +kernel
theorem dX6_init_67 : decode cX6_init 67 = .ok (.aload_n 0, 1) := by decide +kernel
theorem dX6_init_68 : decode cX6_init 68 = .ok (.new 38, 3) := by decide +kernel
theorem dX6_init_71 : decode cX6_init 71 = .ok (.dup, 1) := by decide +kernel
theorem dX6_init_72 : decode cX6_init 72 = .ok (.aload_n 0, 1) := by decide +kernel
theorem dX6_init_73 : decode cX6_init 73 = .ok (.getfield 19, 3) := by decide +kernel
theorem dX6_init_76 : decode cX6_init 76 = .ok (.invokespecial 40, 3) := by decide +kernel
theorem dX6_init_79 : decode cX6_init 79 = .ok (.putfield 41, 3) := by decide +kernel
theorem dX6_init_82 : decode cX6_init 82 = .ok (.aload_n 0, 1) := by decide +kernel
theorem dX6_init_83 : decode cX6_init 83 = .ok (.iconst 2, 1) := by decide +kernel
theorem dX6_init_84 : decode cX6_init 84 = .ok (.anewarray 26, 3) := by decide +kernel
theorem dX6_init_87 : decode cX6_init 87 = .ok (.putfield 45, 3) := by decide +kernel
theorem dX6_init_90 : decode cX6_init 90 = .ok (.iconst 0, 1) := by decide +kernel
theorem dX6_init_91 : decode cX6_init 91 = .ok (.istore_n 1, 1) := by decide +kernel
theorem dX6_init_92 : decode cX6_init 92 = .ok (.iload_n 1, 1) := by decide +kernel
theorem dX6_init_93 : decode cX6_init 93 = .ok (.iconst 2, 1) := by decide +kernel
theorem dX6_init_94 : decode cX6_init 94 = .ok (.if_icmp .ge 26, 3) := by decide +kernel
theorem dX6_init_97 : decode cX6_init 97 = .ok (.aload_n 0, 1) := by decide +kernel
theorem dX6_init_98 : decode cX6_init 98 = .ok (.getfield 45, 3) := by decide +kernel
theorem dX6_init_101 : decode cX6_init 101 = .ok (.iload_n 1, 1) := by decide +kernel
theorem dX6_init_102 : decode cX6_init 102 = .ok (.new 26, 3) := by decide +kernel
theorem dX6_init_105 : decode cX6_init 105 = .ok (.dup, 1) := by decide +kernel
theorem dX6_init_106 : decode cX6_init 106 = .ok (.aload_n 0, 1) := by decide +kernel
theorem dX6_init_107 : decode cX6_init 107 = .ok (.getfield 19, 3) := by decide +kernel
theorem dX6_init_110 : decode cX6_init 110 = .ok (.invokespecial 28, 3) := by decide +kernel
theorem dX6_init_113 : decode cX6_init 113 = .ok (.aastore, 1) := by decide +kernel
theorem dX6_init_114 : decode cX6_init 114 = .ok (.iinc 1 1, 3) := by decide +kernel
theorem dX6_init_117 : decode cX6_init 117 = .ok (.goto (-25), 3) := by decide +kernel
theorem dX6_init_120 : decode cX6_init 120 = .ok (.aload_n 0, 1) := by decide +kernel
theorem dX6_init_121 : decode cX6_init 121 = .ok (.iconst 0, 1) := by decide +kernel
theorem dX6_init_122 : decode cX6_init 122 = .ok (.putfield 49, 3) := by decide +kernel
theorem dX6_init_125 : decode cX6_init 125 = .ok (.aload_n 0, 1) := by decide +kernel
theorem dX6_init_126 : decode cX6_init 126 = .ok (.new 53, 3) := by decide +kernel
theorem dX6_init_129 : decode cX6_init 129 = .ok (.dup, 1) := by decide +kernel
theorem dX6_init_130 : decode cX6_init 130 = .ok (.aload_n 0, 1) := by decide +kernel
theorem dX6_init_131 : decode cX6_init 131 = .ok (.getfield 19, 3) := by decide +kernel
theorem dX6_init_134 : decode cX6_init 134 = .ok (.aload_n 0, 1) := by decide +kernel
theorem dX6_init_135 : decode cX6_init 135 = .ok (.getfield 31, 3) := by decide +kernel
theorem dX6_init_138 : decode cX6_init 138 = .ok (.invokespecial 55, 3) := by decide +kernel
theorem dX6_init_141 : decode cX6_init 141 = .ok (.putfield 58, 3) := by decide +kernel
theorem dX6_init_144 : decode cX6_init 144 = .ok (.aload_n 0, 1) := by decide +kernel
theorem dX6_init_145 : decode cX6_init 145 = .ok (.new 62, 3) := by decide +kernel
theorem dX6_init_148 : decode cX6_init 148 = .ok (.dup, 1) := by decide +kernel
theorem dX6_init_149 : decode cX6_init 149 = .ok (.aload_n 0, 1) := by decide +kernel
theorem dX6_init_150 : decode cX6_init 150 = .ok (.getfield 19, 3) := by decide +kernel
theorem dX6_init_153 : decode cX6_init 153 = .ok (.aload_n 0, 1) := by decide +kernel
theorem dX6_init_154 : decode cX6_init 154 = .ok (.getfield 31, 3) := by decide +kernel
theorem dX6_init_157 : decode cX6_init 157 = .ok (.invokespecial 64, 3) := by decide +kernel
theorem dX6_init_160 : decode cX6_init 160 = .ok (.putfield 65, 3) := by decide +kernel
theorem dX6_init_163 : decode cX6_init 163 = .ok (.return_, 1) := by decide +kernel
theorem dX6_write_0 : decode cX6_write 0 = .ok (.iload_n 1, 1) := by decide +kernel
theorem dX6_write_1 : decode cX6_write 1 = .ok (.ifCond .lt 10, 3) := by decide +kernel
theorem dX6_write_4 : decode cX6_write 4 = .ok (.iload_n 1, 1) := by decide +kernel
theorem dX6_write_5 : decode cX6_write 5 = .ok (.sipush 255, 3) := by decide +kernel
theorem dX6_write_8 : decode cX6_write 8 = .ok (.if_icmp .le 6, 3) := by decide +kernel
theorem dX6_write_11 : decode cX6_write 11 = .ok (.bipush (-3), 2) := by decide +kernel
theorem dX6_write_13 : decode cX6_write 13 = .ok (.ireturn, 1) := by decide +kernel
theorem dX6_write_14 : decode cX6_write 14 = .ok (.aload_n 0, 1) := by decide +kernel
theorem dX6_write_15 : decode cX6_write 15 = .ok (.getfield 12, 3) := by decide +kernel
theorem dX6_write_18 : decode cX6_write 18 = .ok (.getfield 69, 3) := by decide +kernel
theorem dX6_write_21 : decode cX6_write 21 = .ok (.sipush 160, 3) := by decide +kernel
theorem dX6_write_24 : decode cX6_write 24 = .ok (.if_icmp .lt 6, 3) := by decide +kernel
theorem dX6_write_27 : decode cX6_write 27 = .ok (.bipush (-5), 2) := by decide +kernel
theorem dX6_write_29 : decode cX6_write 29 = .ok (.ireturn, 1) := by decide +kernel
theorem dX6_write_30 : decode cX6_write 30 = .ok (.aload_n 0, 1) := by decide +kernel
theorem dX6_write_31 : decode cX6_write 31 = .ok (.getfield 12, 3) := by decide +kernel
theorem dX6_write_34 : decode cX6_write 34 = .ok (.iload_n 1, 1) := by decide +kernel
theorem dX6_write_35 : decode cX6_write 35 = .ok (.invokevirtual 72, 3) := by decide +kernel
theorem dX6_write_38 : decode cX6_write 38 = .ok (.aload_n 0, 1) := by decide +kernel
theorem dX6_write_39 : decode cX6_write 39 = .ok (.getfield 12, 3) := by decide +kernel
theorem dX6_write_42 : decode cX6_write 42 = .ok (.getfield 69, 3) := by decide +kernel
theorem dX6_write_45 : decode cX6_write 45 = .ok (.ireturn, 1) := by decide +kernel
theorem dX6_erase_0 : decode cX6_erase 0 = .ok (.aload_n 0, 1) := by decide +kernel
theorem dX6_erase_1 : decode cX6_erase 1 = .ok (.getfield 12, 3) := by decide +kernel
theorem dX6_erase_4 : decode cX6_erase 4 = .ok (.getfield 69, 3) := by decide +kernel
theorem dX6_erase_7 : decode cX6_erase 7 = .ok (.istore_n 1, 1) := by decide +kernel
theorem dX6_erase_8 : decode cX6_erase 8 = .ok (.aload_n 0, 1) := by decide +kernel
theorem dX6_erase_9 : decode cX6_erase 9 = .ok (.getfield 12, 3) := by decide +kernel
theorem dX6_erase_12 : decode cX6_erase 12 = .ok (.iconst 0, 1) := by decide +kernel
theorem dX6_erase_13 : decode cX6_erase 13 = .ok (.putfield 69, 3) := by decide +kernel
theorem dX6_erase_16 : decode cX6_erase 16 = .ok (.iload_n 1, 1) := by decide +kernel
theorem dX6_erase_17 : decode cX6_erase 17 = .ok (.ireturn, 1) := by decide +kernel
theorem dX6_fault_0 : decode cX6_fault 0 = .ok (.aload_n 0, 1) := by decide +kernel
theorem dX6_fault_1 : decode cX6_fault 1 = .ok (.getfield 23, 3) := by decide +kernel
theorem dX6_fault_4 : decode cX6_fault 4 = .ok (.aload_n 0, 1) := by decide +kernel
theorem dX6_fault_5 : decode cX6_fault 5 = .ok (.getfield 19, 3) := by decide +kernel
theorem dX6_fault_8 : decode cX6_fault 8 = .ok (.invokevirtual 76, 3) := by decide +kernel
theorem dX6_fault_11 : decode cX6_fault 11 = .ok (.aload_n 0, 1) := by decide +kernel
theorem dX6_fault_12 : decode cX6_fault 12 = .ok (.getfield 12, 3) := by decide +kernel
theorem dX6_fault_15 : decode cX6_fault 15 = .ok (.aload_n 0, 1) := by decide +kernel
theorem dX6_fault_16 : decode cX6_fault 16 = .ok (.getfield 23, 3) := by decide +kernel
theorem dX6_fault_19 : decode cX6_fault 19 = .ok (.invokevirtual 79, 3) := by decide +kernel
theorem dX6_fault_22 : decode cX6_fault 22 = .ok (.ireturn, 1) := by decide +kernel
theorem dX6_loom_0 : decode cX6_loom 0 = .ok (.aload_n 0, 1) := by decide +kernel
theorem dX6_loom_1 : decode cX6_loom 1 = .ok (.getfield 23, 3) := by decide +kernel
theorem dX6_loom_4 : decode cX6_loom 4 = .ok (.aload_n 0, 1) := by decide +kernel
theorem dX6_loom_5 : decode cX6_loom 5 = .ok (.getfield 19, 3) := by decide +kernel
theorem dX6_loom_8 : decode cX6_loom 8 = .ok (.invokevirtual 76, 3) := by decide +kernel
theorem dX6_loom_11 : decode cX6_loom 11 = .ok (.aload_n 0, 1) := by decide +kernel
theorem dX6_loom_12 : decode cX6_loom 12 = .ok (.getfield 12, 3) := by decide +kernel
theorem dX6_loom_15 : decode cX6_loom 15 = .ok (.aload_n 0, 1) := by decide +kernel
theorem dX6_loom_16 : decode cX6_loom 16 = .ok (.getfield 23, 3) := by decide +kernel
theorem dX6_loom_19 : decode cX6_loom 19 = .ok (.invokevirtual 79, 3) := by decide +kernel
theorem dX6_loom_22 : decode cX6_loom 22 = .ok (.iconst (-1), 1) := by decide +kernel
theorem dX6_loom_23 : decode cX6_loom 23 = .ok (.if_icmp .eq 6, 3) := by decide +kernel
theorem dX6_loom_26 : decode cX6_loom 26 = .ok (.bipush (-4), 2) := by decide +kernel
theorem dX6_loom_28 : decode cX6_loom 28 = .ok (.ireturn, 1) := by decide +kernel
theorem dX6_loom_29 : decode cX6_loom 29 = .ok (.aload_n 0, 1) := by decide +kernel
theorem dX6_loom_30 : decode cX6_loom 30 = .ok (.getfield 19, 3) := by decide +kernel
theorem dX6_loom_33 : decode cX6_loom 33 = .ok (.aload_n 0, 1) := by decide +kernel
theorem dX6_loom_34 : decode cX6_loom 34 = .ok (.getfield 23, 3) := by decide +kernel
theorem dX6_loom_37 : decode cX6_loom 37 = .ok (.invokevirtual 76, 3) := by decide +kernel
theorem dX6_loom_40 : decode cX6_loom 40 = .ok (.aload_n 0, 1) := by decide +kernel
theorem dX6_loom_41 : decode cX6_loom 41 = .ok (.getfield 12, 3) := by decide +kernel
theorem dX6_loom_44 : decode cX6_loom 44 = .ok (.iconst 0, 1) := by decide +kernel
theorem dX6_loom_45 : decode cX6_loom 45 = .ok (.putfield 69, 3) := by decide +kernel
theorem dX6_loom_48 : decode cX6_loom 48 = .ok (.aload_n 0, 1) := by decide +kernel
theorem dX6_loom_49 : decode cX6_loom 49 = .ok (.getfield 31, 3) := by decide +kernel
theorem dX6_loom_52 : decode cX6_loom 52 = .ok (.invokevirtual 83, 3) := by decide +kernel
theorem dX6_loom_55 : decode cX6_loom 55 = .ok (.aload_n 0, 1) := by decide +kernel
theorem dX6_loom_56 : decode cX6_loom 56 = .ok (.getfield 41, 3) := by decide +kernel
theorem dX6_loom_59 : decode cX6_loom 59 = .ok (.iconst 0, 1) := by decide +kernel
theorem dX6_loom_60 : decode cX6_loom 60 = .ok (.putfield 86, 3) := by decide +kernel
theorem dX6_loom_63 : decode cX6_loom 63 = .ok (.aload_n 0, 1) := by decide +kernel
theorem dX6_loom_64 : decode cX6_loom 64 = .ok (.iconst 0, 1) := by decide +kernel
theorem dX6_loom_65 : decode cX6_loom 65 = .ok (.putfield 49, 3) := by decide +kernel
theorem dX6_loom_68 : decode cX6_loom 68 = .ok (.aload_n 0, 1) := by decide +kernel
theorem dX6_loom_69 : decode cX6_loom 69 = .ok (.getfield 12, 3) := by decide +kernel
theorem dX6_loom_72 : decode cX6_loom 72 = .ok (.getfield 89, 3) := by decide +kernel
theorem dX6_loom_75 : decode cX6_loom 75 = .ok (.ireturn, 1) := by decide +kernel
theorem dX6_thread_0 : decode cX6_thread 0 = .ok (.aload_n 0, 1) := by decide +kernel
theorem dX6_thread_1 : decode cX6_thread 1 = .ok (.iload_n 1, 1) := by decide +kernel
theorem dX6_thread_2 : decode cX6_thread 2 = .ok (.invokevirtual 92, 3) := by decide +kernel
theorem dX6_thread_5 : decode cX6_thread 5 = .ok (.ifCond .ne 6, 3) := by decide +kernel
theorem dX6_thread_8 : decode cX6_thread 8 = .ok (.bipush (-2), 2) := by decide +kernel
theorem dX6_thread_10 : decode cX6_thread 10 = .ok (.ireturn, 1) := by decide +kernel
theorem dX6_thread_11 : decode cX6_thread 11 = .ok (.iload_n 2, 1) := by decide +kernel
theorem dX6_thread_12 : decode cX6_thread 12 = .ok (.tableswitch 113 0 6 #[44, 54, 64, 74, 83, 93, 103], 44) := by decide +kernel
theorem dX6_thread_56 : decode cX6_thread 56 = .ok (.aload_n 0, 1) := by decide +kernel
theorem dX6_thread_57 : decode cX6_thread 57 = .ok (.getfield 19, 3) := by decide +kernel
theorem dX6_thread_60 : decode cX6_thread 60 = .ok (.getfield 96, 3) := by decide +kernel
theorem dX6_thread_63 : decode cX6_thread 63 = .ok (.iload_n 1, 1) := by decide +kernel
theorem dX6_thread_64 : decode cX6_thread 64 = .ok (.iaload, 1) := by decide +kernel
theorem dX6_thread_65 : decode cX6_thread 65 = .ok (.ireturn, 1) := by decide +kernel
theorem dX6_thread_66 : decode cX6_thread 66 = .ok (.aload_n 0, 1) := by decide +kernel
theorem dX6_thread_67 : decode cX6_thread 67 = .ok (.getfield 19, 3) := by decide +kernel
theorem dX6_thread_70 : decode cX6_thread 70 = .ok (.getfield 100, 3) := by decide +kernel
theorem dX6_thread_73 : decode cX6_thread 73 = .ok (.iload_n 1, 1) := by decide +kernel
theorem dX6_thread_74 : decode cX6_thread 74 = .ok (.iaload, 1) := by decide +kernel
theorem dX6_thread_75 : decode cX6_thread 75 = .ok (.ireturn, 1) := by decide +kernel
theorem dX6_thread_76 : decode cX6_thread 76 = .ok (.aload_n 0, 1) := by decide +kernel
theorem dX6_thread_77 : decode cX6_thread 77 = .ok (.getfield 31, 3) := by decide +kernel
theorem dX6_thread_80 : decode cX6_thread 80 = .ok (.getfield 103, 3) := by decide +kernel
theorem dX6_thread_83 : decode cX6_thread 83 = .ok (.iload_n 1, 1) := by decide +kernel
theorem dX6_thread_84 : decode cX6_thread 84 = .ok (.iaload, 1) := by decide +kernel
theorem dX6_thread_85 : decode cX6_thread 85 = .ok (.ireturn, 1) := by decide +kernel
theorem dX6_thread_86 : decode cX6_thread 86 = .ok (.aload_n 0, 1) := by decide +kernel
theorem dX6_thread_87 : decode cX6_thread 87 = .ok (.getfield 31, 3) := by decide +kernel
theorem dX6_thread_90 : decode cX6_thread 90 = .ok (.iload_n 1, 1) := by decide +kernel
theorem dX6_thread_91 : decode cX6_thread 91 = .ok (.invokevirtual 106, 3) := by decide +kernel
theorem dX6_thread_94 : decode cX6_thread 94 = .ok (.ireturn, 1) := by decide +kernel
theorem dX6_thread_95 : decode cX6_thread 95 = .ok (.aload_n 0, 1) := by decide +kernel
theorem dX6_thread_96 : decode cX6_thread 96 = .ok (.getfield 31, 3) := by decide +kernel
theorem dX6_thread_99 : decode cX6_thread 99 = .ok (.getfield 110, 3) := by decide +kernel
theorem dX6_thread_102 : decode cX6_thread 102 = .ok (.iload_n 1, 1) := by decide +kernel
theorem dX6_thread_103 : decode cX6_thread 103 = .ok (.iaload, 1) := by decide +kernel
theorem dX6_thread_104 : decode cX6_thread 104 = .ok (.ireturn, 1) := by decide +kernel
theorem dX6_thread_105 : decode cX6_thread 105 = .ok (.aload_n 0, 1) := by decide +kernel
theorem dX6_thread_106 : decode cX6_thread 106 = .ok (.getfield 31, 3) := by decide +kernel
theorem dX6_thread_109 : decode cX6_thread 109 = .ok (.getfield 113, 3) := by decide +kernel
theorem dX6_thread_112 : decode cX6_thread 112 = .ok (.iload_n 1, 1) := by decide +kernel
theorem dX6_thread_113 : decode cX6_thread 113 = .ok (.iaload, 1) := by decide +kernel
theorem dX6_thread_114 : decode cX6_thread 114 = .ok (.ireturn, 1) := by decide +kernel
theorem dX6_thread_115 : decode cX6_thread 115 = .ok (.aload_n 0, 1) := by decide +kernel
theorem dX6_thread_116 : decode cX6_thread 116 = .ok (.getfield 31, 3) := by decide +kernel
theorem dX6_thread_119 : decode cX6_thread 119 = .ok (.getfield 116, 3) := by decide +kernel
theorem dX6_thread_122 : decode cX6_thread 122 = .ok (.iload_n 1, 1) := by decide +kernel
theorem dX6_thread_123 : decode cX6_thread 123 = .ok (.iaload, 1) := by decide +kernel
theorem dX6_thread_124 : decode cX6_thread 124 = .ok (.ireturn, 1) := by decide +kernel
theorem dX6_thread_125 : decode cX6_thread 125 = .ok (.bipush (-3), 2) := by decide +kernel
theorem dX6_thread_127 : decode cX6_thread 127 = .ok (.ireturn, 1) := by decide +kernel
theorem dX6_as_0 : decode cX6_as 0 = .ok (.aload_n 0, 1) := by decide +kernel
theorem dX6_as_1 : decode cX6_as 1 = .ok (.iload_n 1, 1) := by decide +kernel
theorem dX6_as_2 : decode cX6_as 2 = .ok (.invokevirtual 92, 3) := by decide +kernel
theorem dX6_as_5 : decode cX6_as 5 = .ok (.ifCond .ne 6, 3) := by decide +kernel
theorem dX6_as_8 : decode cX6_as 8 = .ok (.bipush (-2), 2) := by decide +kernel
theorem dX6_as_10 : decode cX6_as 10 = .ok (.ireturn, 1) := by decide +kernel
theorem dX6_as_11 : decode cX6_as 11 = .ok (.iload_n 2, 1) := by decide +kernel
theorem dX6_as_12 : decode cX6_as 12 = .ok (.ifCond .lt 8, 3) := by decide +kernel
theorem dX6_as_15 : decode cX6_as 15 = .ok (.iload_n 2, 1) := by decide +kernel
theorem dX6_as_16 : decode cX6_as 16 = .ok (.iconst 4, 1) := by decide +kernel
theorem dX6_as_17 : decode cX6_as 17 = .ok (.if_icmp .le 6, 3) := by decide +kernel
theorem dX6_as_20 : decode cX6_as 20 = .ok (.bipush (-3), 2) := by decide +kernel
theorem dX6_as_22 : decode cX6_as 22 = .ok (.ireturn, 1) := by decide +kernel
theorem dX6_as_23 : decode cX6_as 23 = .ok (.aload_n 0, 1) := by decide +kernel
theorem dX6_as_24 : decode cX6_as 24 = .ok (.getfield 19, 3) := by decide +kernel
theorem dX6_as_27 : decode cX6_as 27 = .ok (.iload_n 1, 1) := by decide +kernel
theorem dX6_as_28 : decode cX6_as 28 = .ok (.iload_n 2, 1) := by decide +kernel
theorem dX6_as_29 : decode cX6_as 29 = .ok (.invokevirtual 119, 3) := by decide +kernel
theorem dX6_as_32 : decode cX6_as 32 = .ok (.ifCond .ne 6, 3) := by decide +kernel
theorem dX6_as_35 : decode cX6_as 35 = .ok (.bipush (-4), 2) := by decide +kernel
theorem dX6_as_37 : decode cX6_as 37 = .ok (.ireturn, 1) := by decide +kernel
theorem dX6_as_38 : decode cX6_as 38 = .ok (.aload_n 0, 1) := by decide +kernel
theorem dX6_as_39 : decode cX6_as 39 = .ok (.getfield 31, 3) := by decide +kernel
theorem dX6_as_42 : decode cX6_as 42 = .ok (.iload_n 1, 1) := by decide +kernel
theorem dX6_as_43 : decode cX6_as 43 = .ok (.invokevirtual 123, 3) := by decide +kernel
theorem dX6_as_46 : decode cX6_as 46 = .ok (.ifCond .eq 21, 3) := by decide +kernel
theorem dX6_as_49 : decode cX6_as 49 = .ok (.aload_n 0, 1) := by decide +kernel
theorem dX6_as_50 : decode cX6_as 50 = .ok (.getfield 19, 3) := by decide +kernel
theorem dX6_as_53 : decode cX6_as 53 = .ok (.iload_n 1, 1) := by decide +kernel
theorem dX6_as_54 : decode cX6_as 54 = .ok (.aload_n 0, 1) := by decide +kernel
theorem dX6_as_55 : decode cX6_as 55 = .ok (.getfield 31, 3) := by decide +kernel
theorem dX6_as_58 : decode cX6_as 58 = .ok (.getfield 126, 3) := by decide +kernel
theorem dX6_as_61 : decode cX6_as 61 = .ok (.invokevirtual 129, 3) := by decide +kernel
theorem dX6_as_64 : decode cX6_as 64 = .ok (.goto 4, 3) := by decide +kernel
theorem dX6_as_67 : decode cX6_as 67 = .ok (.iconst 0, 1) := by decide +kernel
theorem dX6_as_68 : decode cX6_as 68 = .ok (.ireturn, 1) := by decide +kernel
theorem dX6_order_0 : decode cX6_order 0 = .ok (.iload_n 1, 1) := by decide +kernel
theorem dX6_order_1 : decode cX6_order 1 = .ok (.ifCond .lt 14, 3) := by decide +kernel
theorem dX6_order_4 : decode cX6_order 4 = .ok (.iload_n 1, 1) := by decide +kernel
theorem dX6_order_5 : decode cX6_order 5 = .ok (.aload_n 0, 1) := by decide +kernel
theorem dX6_order_6 : decode cX6_order 6 = .ok (.getfield 19, 3) := by decide +kernel
theorem dX6_order_9 : decode cX6_order 9 = .ok (.getfield 133, 3) := by decide +kernel
theorem dX6_order_12 : decode cX6_order 12 = .ok (.if_icmp .lt 6, 3) := by decide +kernel
theorem dX6_order_15 : decode cX6_order 15 = .ok (.bipush (-2), 2) := by decide +kernel
theorem dX6_order_17 : decode cX6_order 17 = .ok (.ireturn, 1) := by decide +kernel
theorem dX6_order_18 : decode cX6_order 18 = .ok (.iload_n 2, 1) := by decide +kernel
theorem dX6_order_19 : decode cX6_order 19 = .ok (.lookupswitch 45 #[(0, 25), (1, 35)], 25) := by decide +kernel
theorem dX6_order_44 : decode cX6_order 44 = .ok (.aload_n 0, 1) := by decide +kernel
theorem dX6_order_45 : decode cX6_order 45 = .ok (.getfield 19, 3) := by decide +kernel
theorem dX6_order_48 : decode cX6_order 48 = .ok (.getfield 136, 3) := by decide +kernel
theorem dX6_order_51 : decode cX6_order 51 = .ok (.iload_n 1, 1) := by decide +kernel
theorem dX6_order_52 : decode cX6_order 52 = .ok (.iaload, 1) := by decide +kernel
theorem dX6_order_53 : decode cX6_order 53 = .ok (.ireturn, 1) := by decide +kernel
theorem dX6_order_54 : decode cX6_order 54 = .ok (.aload_n 0, 1) := by decide +kernel
theorem dX6_order_55 : decode cX6_order 55 = .ok (.getfield 19, 3) := by decide +kernel
theorem dX6_order_58 : decode cX6_order 58 = .ok (.getfield 139, 3) := by decide +kernel
theorem dX6_order_61 : decode cX6_order 61 = .ok (.iload_n 1, 1) := by decide +kernel
theorem dX6_order_62 : decode cX6_order 62 = .ok (.iaload, 1) := by decide +kernel
theorem dX6_order_63 : decode cX6_order 63 = .ok (.ireturn, 1) := by decide +kernel
theorem dX6_order_64 : decode cX6_order 64 = .ok (.bipush (-3), 2) := by decide +kernel
theorem dX6_order_66 : decode cX6_order 66 = .ok (.ireturn, 1) := by decide +kernel
theorem dX6_top_0 : decode cX6_top 0 = .ok (.aload_n 0, 1) := by decide +kernel
theorem dX6_top_1 : decode cX6_top 1 = .ok (.iload_n 1, 1) := by decide +kernel
theorem dX6_top_2 : decode cX6_top 2 = .ok (.invokevirtual 92, 3) := by decide +kernel
theorem dX6_top_5 : decode cX6_top 5 = .ok (.ifCond .ne 6, 3) := by decide +kernel
theorem dX6_top_8 : decode cX6_top 8 = .ok (.bipush (-2), 2) := by decide +kernel
theorem dX6_top_10 : decode cX6_top 10 = .ok (.ireturn, 1) := by decide +kernel
theorem dX6_top_11 : decode cX6_top 11 = .ok (.aload_n 0, 1) := by decide +kernel
theorem dX6_top_12 : decode cX6_top 12 = .ok (.getfield 31, 3) := by decide +kernel
theorem dX6_top_15 : decode cX6_top 15 = .ok (.iload_n 1, 1) := by decide +kernel
theorem dX6_top_16 : decode cX6_top 16 = .ok (.invokevirtual 123, 3) := by decide +kernel
theorem dX6_top_19 : decode cX6_top 19 = .ok (.ifCond .eq 21, 3) := by decide +kernel
theorem dX6_top_22 : decode cX6_top 22 = .ok (.aload_n 0, 1) := by decide +kernel
theorem dX6_top_23 : decode cX6_top 23 = .ok (.getfield 31, 3) := by decide +kernel
theorem dX6_top_26 : decode cX6_top 26 = .ok (.iload_n 1, 1) := by decide +kernel
theorem dX6_top_27 : decode cX6_top 27 = .ok (.aload_n 0, 1) := by decide +kernel
theorem dX6_top_28 : decode cX6_top 28 = .ok (.getfield 31, 3) := by decide +kernel
theorem dX6_top_31 : decode cX6_top 31 = .ok (.getfield 142, 3) := by decide +kernel
theorem dX6_top_34 : decode cX6_top 34 = .ok (.invokevirtual 145, 3) := by decide +kernel
theorem dX6_top_37 : decode cX6_top 37 = .ok (.goto 5, 3) := by decide +kernel
theorem dX6_top_40 : decode cX6_top 40 = .ok (.bipush (-4), 2) := by decide +kernel
theorem dX6_top_42 : decode cX6_top 42 = .ok (.ireturn, 1) := by decide +kernel
theorem dX6_cut_0 : decode cX6_cut 0 = .ok (.aload_n 0, 1) := by decide +kernel
theorem dX6_cut_1 : decode cX6_cut 1 = .ok (.iload_n 1, 1) := by decide +kernel
theorem dX6_cut_2 : decode cX6_cut 2 = .ok (.invokevirtual 92, 3) := by decide +kernel
theorem dX6_cut_5 : decode cX6_cut 5 = .ok (.ifCond .ne 6, 3) := by decide +kernel
theorem dX6_cut_8 : decode cX6_cut 8 = .ok (.bipush (-2), 2) := by decide +kernel
theorem dX6_cut_10 : decode cX6_cut 10 = .ok (.ireturn, 1) := by decide +kernel
theorem dX6_cut_11 : decode cX6_cut 11 = .ok (.aload_n 0, 1) := by decide +kernel
theorem dX6_cut_12 : decode cX6_cut 12 = .ok (.getfield 31, 3) := by decide +kernel
theorem dX6_cut_15 : decode cX6_cut 15 = .ok (.iload_n 1, 1) := by decide +kernel
theorem dX6_cut_16 : decode cX6_cut 16 = .ok (.invokevirtual 123, 3) := by decide +kernel
theorem dX6_cut_19 : decode cX6_cut 19 = .ok (.ifCond .ne 6, 3) := by decide +kernel
theorem dX6_cut_22 : decode cX6_cut 22 = .ok (.bipush (-4), 2) := by decide +kernel
theorem dX6_cut_24 : decode cX6_cut 24 = .ok (.ireturn, 1) := by decide +kernel
theorem dX6_cut_25 : decode cX6_cut 25 = .ok (.aload_n 0, 1) := by decide +kernel
theorem dX6_cut_26 : decode cX6_cut 26 = .ok (.getfield 41, 3) := by decide +kernel
theorem dX6_cut_29 : decode cX6_cut 29 = .ok (.aload_n 0, 1) := by decide +kernel
theorem dX6_cut_30 : decode cX6_cut 30 = .ok (.getfield 31, 3) := by decide +kernel
theorem dX6_cut_33 : decode cX6_cut 33 = .ok (.invokevirtual 148, 3) := by decide +kernel
theorem dX6_cut_36 : decode cX6_cut 36 = .ok (.aload_n 0, 1) := by decide +kernel
theorem dX6_cut_37 : decode cX6_cut 37 = .ok (.getfield 31, 3) := by decide +kernel
theorem dX6_cut_40 : decode cX6_cut 40 = .ok (.iload_n 1, 1) := by decide +kernel
theorem dX6_cut_41 : decode cX6_cut 41 = .ok (.invokevirtual 152, 3) := by decide +kernel
theorem dX6_cut_44 : decode cX6_cut 44 = .ok (.invokestatic 155, 3) := by decide +kernel
theorem dX6_cut_47 : decode cX6_cut 47 = .ok (.ireturn, 1) := by decide +kernel
theorem dX6_put_0 : decode cX6_put 0 = .ok (.aload_n 0, 1) := by decide +kernel
theorem dX6_put_1 : decode cX6_put 1 = .ok (.iload_n 1, 1) := by decide +kernel
theorem dX6_put_2 : decode cX6_put 2 = .ok (.iload_n 2, 1) := by decide +kernel
theorem dX6_put_3 : decode cX6_put 3 = .ok (.invokevirtual 160, 3) := by decide +kernel
theorem dX6_put_6 : decode cX6_put 6 = .ok (.ifCond .ne 6, 3) := by decide +kernel
theorem dX6_put_9 : decode cX6_put 9 = .ok (.bipush (-2), 2) := by decide +kernel
theorem dX6_put_11 : decode cX6_put 11 = .ok (.ireturn, 1) := by decide +kernel
theorem dX6_put_12 : decode cX6_put 12 = .ok (.aload_n 0, 1) := by decide +kernel
theorem dX6_put_13 : decode cX6_put 13 = .ok (.getfield 31, 3) := by decide +kernel
theorem dX6_put_16 : decode cX6_put 16 = .ok (.iload_n 1, 1) := by decide +kernel
theorem dX6_put_17 : decode cX6_put 17 = .ok (.invokevirtual 123, 3) := by decide +kernel
theorem dX6_put_20 : decode cX6_put 20 = .ok (.ifCond .eq 14, 3) := by decide +kernel
theorem dX6_put_23 : decode cX6_put 23 = .ok (.aload_n 0, 1) := by decide +kernel
theorem dX6_put_24 : decode cX6_put 24 = .ok (.getfield 31, 3) := by decide +kernel
theorem dX6_put_27 : decode cX6_put 27 = .ok (.iload_n 2, 1) := by decide +kernel
theorem dX6_put_28 : decode cX6_put 28 = .ok (.invokevirtual 123, 3) := by decide +kernel
theorem dX6_put_31 : decode cX6_put 31 = .ok (.ifCond .ne 6, 3) := by decide +kernel
theorem dX6_put_34 : decode cX6_put 34 = .ok (.bipush (-4), 2) := by decide +kernel
theorem dX6_put_36 : decode cX6_put 36 = .ok (.ireturn, 1) := by decide +kernel
theorem dX6_put_37 : decode cX6_put 37 = .ok (.aload_n 0, 1) := by decide +kernel
theorem dX6_put_38 : decode cX6_put 38 = .ok (.getfield 31, 3) := by decide +kernel
theorem dX6_put_41 : decode cX6_put 41 = .ok (.getfield 110, 3) := by decide +kernel
theorem dX6_put_44 : decode cX6_put 44 = .ok (.iload_n 2, 1) := by decide +kernel
theorem dX6_put_45 : decode cX6_put 45 = .ok (.iaload, 1) := by decide +kernel
theorem dX6_put_46 : decode cX6_put 46 = .ok (.iload_n 1, 1) := by decide +kernel
theorem dX6_put_47 : decode cX6_put 47 = .ok (.invokestatic 163, 3) := by decide +kernel
theorem dX6_put_50 : decode cX6_put 50 = .ok (.ifCond .ne 18, 3) := by decide +kernel
theorem dX6_put_53 : decode cX6_put 53 = .ok (.aload_n 0, 1) := by decide +kernel
theorem dX6_put_54 : decode cX6_put 54 = .ok (.getfield 31, 3) := by decide +kernel
theorem dX6_put_57 : decode cX6_put 57 = .ok (.getfield 110, 3) := by decide +kernel
theorem dX6_put_60 : decode cX6_put 60 = .ok (.iload_n 1, 1) := by decide +kernel
theorem dX6_put_61 : decode cX6_put 61 = .ok (.iload_n 2, 1) := by decide +kernel
theorem dX6_put_62 : decode cX6_put 62 = .ok (.invokestatic 166, 3) := by decide +kernel
theorem dX6_put_65 : decode cX6_put 65 = .ok (.ifCond .eq 6, 3) := by decide +kernel
theorem dX6_put_68 : decode cX6_put 68 = .ok (.bipush (-4), 2) := by decide +kernel
theorem dX6_put_70 : decode cX6_put 70 = .ok (.ireturn, 1) := by decide +kernel
theorem dX6_put_71 : decode cX6_put 71 = .ok (.aload_n 0, 1) := by decide +kernel
theorem dX6_put_72 : decode cX6_put 72 = .ok (.getfield 41, 3) := by decide +kernel
theorem dX6_put_75 : decode cX6_put 75 = .ok (.aload_n 0, 1) := by decide +kernel
theorem dX6_put_76 : decode cX6_put 76 = .ok (.getfield 31, 3) := by decide +kernel
theorem dX6_put_79 : decode cX6_put 79 = .ok (.invokevirtual 148, 3) := by decide +kernel
theorem dX6_put_82 : decode cX6_put 82 = .ok (.aload_n 0, 1) := by decide +kernel
theorem dX6_put_83 : decode cX6_put 83 = .ok (.getfield 31, 3) := by decide +kernel
theorem dX6_put_86 : decode cX6_put 86 = .ok (.getfield 110, 3) := by decide +kernel
theorem dX6_put_89 : decode cX6_put 89 = .ok (.iload_n 2, 1) := by decide +kernel
theorem dX6_put_90 : decode cX6_put 90 = .ok (.dup2, 1) := by decide +kernel
theorem dX6_put_91 : decode cX6_put 91 = .ok (.iaload, 1) := by decide +kernel
theorem dX6_put_92 : decode cX6_put 92 = .ok (.iload_n 1, 1) := by decide +kernel
theorem dX6_put_93 : decode cX6_put 93 = .ok (.invokestatic 170, 3) := by decide +kernel
theorem dX6_put_96 : decode cX6_put 96 = .ok (.ior, 1) := by decide +kernel
theorem dX6_put_97 : decode cX6_put 97 = .ok (.iastore, 1) := by decide +kernel
theorem dX6_put_98 : decode cX6_put 98 = .ok (.aload_n 0, 1) := by decide +kernel
theorem dX6_put_99 : decode cX6_put 99 = .ok (.getfield 31, 3) := by decide +kernel
theorem dX6_put_102 : decode cX6_put 102 = .ok (.getfield 110, 3) := by decide +kernel
theorem dX6_put_105 : decode cX6_put 105 = .ok (.iload_n 2, 1) := by decide +kernel
theorem dX6_put_106 : decode cX6_put 106 = .ok (.iaload, 1) := by decide +kernel
theorem dX6_put_107 : decode cX6_put 107 = .ok (.invokestatic 155, 3) := by decide +kernel
theorem dX6_put_110 : decode cX6_put 110 = .ok (.ireturn, 1) := by decide +kernel
theorem dX6_lift_0 : decode cX6_lift 0 = .ok (.aload_n 0, 1) := by decide +kernel
theorem dX6_lift_1 : decode cX6_lift 1 = .ok (.iload_n 1, 1) := by decide +kernel
theorem dX6_lift_2 : decode cX6_lift 2 = .ok (.invokevirtual 92, 3) := by decide +kernel
theorem dX6_lift_5 : decode cX6_lift 5 = .ok (.ifCond .ne 6, 3) := by decide +kernel
theorem dX6_lift_8 : decode cX6_lift 8 = .ok (.bipush (-2), 2) := by decide +kernel
theorem dX6_lift_10 : decode cX6_lift 10 = .ok (.ireturn, 1) := by decide +kernel
theorem dX6_lift_11 : decode cX6_lift 11 = .ok (.aload_n 0, 1) := by decide +kernel
theorem dX6_lift_12 : decode cX6_lift 12 = .ok (.getfield 31, 3) := by decide +kernel
theorem dX6_lift_15 : decode cX6_lift 15 = .ok (.iload_n 1, 1) := by decide +kernel
theorem dX6_lift_16 : decode cX6_lift 16 = .ok (.invokevirtual 123, 3) := by decide +kernel
theorem dX6_lift_19 : decode cX6_lift 19 = .ok (.ifCond .eq 14, 3) := by decide +kernel
theorem dX6_lift_22 : decode cX6_lift 22 = .ok (.aload_n 0, 1) := by decide +kernel
theorem dX6_lift_23 : decode cX6_lift 23 = .ok (.getfield 31, 3) := by decide +kernel
theorem dX6_lift_26 : decode cX6_lift 26 = .ok (.iload_n 1, 1) := by decide +kernel
theorem dX6_lift_27 : decode cX6_lift 27 = .ok (.invokevirtual 173, 3) := by decide +kernel
theorem dX6_lift_30 : decode cX6_lift 30 = .ok (.ifCond .ne 6, 3) := by decide +kernel
theorem dX6_lift_33 : decode cX6_lift 33 = .ok (.bipush (-4), 2) := by decide +kernel
theorem dX6_lift_35 : decode cX6_lift 35 = .ok (.ireturn, 1) := by decide +kernel
theorem dX6_lift_36 : decode cX6_lift 36 = .ok (.aload_n 0, 1) := by decide +kernel
theorem dX6_lift_37 : decode cX6_lift 37 = .ok (.getfield 41, 3) := by decide +kernel
theorem dX6_lift_40 : decode cX6_lift 40 = .ok (.aload_n 0, 1) := by decide +kernel
theorem dX6_lift_41 : decode cX6_lift 41 = .ok (.getfield 31, 3) := by decide +kernel
theorem dX6_lift_44 : decode cX6_lift 44 = .ok (.invokevirtual 148, 3) := by decide +kernel
theorem dX6_lift_47 : decode cX6_lift 47 = .ok (.aload_n 0, 1) := by decide +kernel
theorem dX6_lift_48 : decode cX6_lift 48 = .ok (.getfield 31, 3) := by decide +kernel
theorem dX6_lift_51 : decode cX6_lift 51 = .ok (.iload_n 1, 1) := by decide +kernel
theorem dX6_lift_52 : decode cX6_lift 52 = .ok (.invokevirtual 173, 3) := by decide +kernel
theorem dX6_lift_55 : decode cX6_lift 55 = .ok (.istore_n 2, 1) := by decide +kernel
theorem dX6_lift_56 : decode cX6_lift 56 = .ok (.aload_n 0, 1) := by decide +kernel
theorem dX6_lift_57 : decode cX6_lift 57 = .ok (.getfield 31, 3) := by decide +kernel
theorem dX6_lift_60 : decode cX6_lift 60 = .ok (.iload_n 1, 1) := by decide +kernel
theorem dX6_lift_61 : decode cX6_lift 61 = .ok (.invokevirtual 176, 3) := by decide +kernel
theorem dX6_lift_64 : decode cX6_lift 64 = .ok (.iload_n 2, 1) := by decide +kernel
theorem dX6_lift_65 : decode cX6_lift 65 = .ok (.ireturn, 1) := by decide +kernel
theorem dX6_knot_0 : decode cX6_knot 0 = .ok (.aload_n 0, 1) := by decide +kernel
theorem dX6_knot_1 : decode cX6_knot 1 = .ok (.iload_n 1, 1) := by decide +kernel
theorem dX6_knot_2 : decode cX6_knot 2 = .ok (.iload_n 2, 1) := by decide +kernel
theorem dX6_knot_3 : decode cX6_knot 3 = .ok (.invokevirtual 160, 3) := by decide +kernel
theorem dX6_knot_6 : decode cX6_knot 6 = .ok (.ifCond .ne 6, 3) := by decide +kernel
theorem dX6_knot_9 : decode cX6_knot 9 = .ok (.bipush (-2), 2) := by decide +kernel
theorem dX6_knot_11 : decode cX6_knot 11 = .ok (.ireturn, 1) := by decide +kernel
theorem dX6_knot_12 : decode cX6_knot 12 = .ok (.iload_n 3, 1) := by decide +kernel
theorem dX6_knot_13 : decode cX6_knot 13 = .ok (.ifCond .lt 8, 3) := by decide +kernel
theorem dX6_knot_16 : decode cX6_knot 16 = .ok (.iload_n 3, 1) := by decide +kernel
theorem dX6_knot_17 : decode cX6_knot 17 = .ok (.iconst 1, 1) := by decide +kernel
theorem dX6_knot_18 : decode cX6_knot 18 = .ok (.if_icmp .le 6, 3) := by decide +kernel
theorem dX6_knot_21 : decode cX6_knot 21 = .ok (.bipush (-3), 2) := by decide +kernel
theorem dX6_knot_23 : decode cX6_knot 23 = .ok (.ireturn, 1) := by decide +kernel
theorem dX6_knot_24 : decode cX6_knot 24 = .ok (.aload_n 0, 1) := by decide +kernel
theorem dX6_knot_25 : decode cX6_knot 25 = .ok (.getfield 31, 3) := by decide +kernel
theorem dX6_knot_28 : decode cX6_knot 28 = .ok (.iload_n 1, 1) := by decide +kernel
theorem dX6_knot_29 : decode cX6_knot 29 = .ok (.invokevirtual 123, 3) := by decide +kernel
theorem dX6_knot_32 : decode cX6_knot 32 = .ok (.ifCond .eq 14, 3) := by decide +kernel
theorem dX6_knot_35 : decode cX6_knot 35 = .ok (.aload_n 0, 1) := by decide +kernel
theorem dX6_knot_36 : decode cX6_knot 36 = .ok (.getfield 31, 3) := by decide +kernel
theorem dX6_knot_39 : decode cX6_knot 39 = .ok (.iload_n 2, 1) := by decide +kernel
theorem dX6_knot_40 : decode cX6_knot 40 = .ok (.invokevirtual 123, 3) := by decide +kernel
theorem dX6_knot_43 : decode cX6_knot 43 = .ok (.ifCond .ne 6, 3) := by decide +kernel
theorem dX6_knot_46 : decode cX6_knot 46 = .ok (.bipush (-4), 2) := by decide +kernel
theorem dX6_knot_48 : decode cX6_knot 48 = .ok (.ireturn, 1) := by decide +kernel
theorem dX6_knot_49 : decode cX6_knot 49 = .ok (.aload_n 0, 1) := by decide +kernel
theorem dX6_knot_50 : decode cX6_knot 50 = .ok (.getfield 41, 3) := by decide +kernel
theorem dX6_knot_53 : decode cX6_knot 53 = .ok (.aload_n 0, 1) := by decide +kernel
theorem dX6_knot_54 : decode cX6_knot 54 = .ok (.getfield 31, 3) := by decide +kernel
theorem dX6_knot_57 : decode cX6_knot 57 = .ok (.invokevirtual 148, 3) := by decide +kernel
theorem dX6_knot_60 : decode cX6_knot 60 = .ok (.aload_n 0, 1) := by decide +kernel
theorem dX6_knot_61 : decode cX6_knot 61 = .ok (.getfield 31, 3) := by decide +kernel
theorem dX6_knot_64 : decode cX6_knot 64 = .ok (.getfield 113, 3) := by decide +kernel
theorem dX6_knot_67 : decode cX6_knot 67 = .ok (.iload_n 1, 1) := by decide +kernel
theorem dX6_knot_68 : decode cX6_knot 68 = .ok (.iaload, 1) := by decide +kernel
theorem dX6_knot_69 : decode cX6_knot 69 = .ok (.iload_n 2, 1) := by decide +kernel
theorem dX6_knot_70 : decode cX6_knot 70 = .ok (.invokestatic 163, 3) := by decide +kernel
theorem dX6_knot_73 : decode cX6_knot 73 = .ok (.ifCond .eq 7, 3) := by decide +kernel
theorem dX6_knot_76 : decode cX6_knot 76 = .ok (.iconst 1, 1) := by decide +kernel
theorem dX6_knot_77 : decode cX6_knot 77 = .ok (.goto 4, 3) := by decide +kernel
theorem dX6_knot_80 : decode cX6_knot 80 = .ok (.iconst 0, 1) := by decide +kernel
theorem dX6_knot_81 : decode cX6_knot 81 = .ok (.istore 4, 2) := by decide +kernel
theorem dX6_knot_83 : decode cX6_knot 83 = .ok (.iload_n 3, 1) := by decide +kernel
theorem dX6_knot_84 : decode cX6_knot 84 = .ok (.iload 4, 2) := by decide +kernel
theorem dX6_knot_86 : decode cX6_knot 86 = .ok (.if_icmp .eq 35, 3) := by decide +kernel
theorem dX6_knot_89 : decode cX6_knot 89 = .ok (.aload_n 0, 1) := by decide +kernel
theorem dX6_knot_90 : decode cX6_knot 90 = .ok (.getfield 31, 3) := by decide +kernel
theorem dX6_knot_93 : decode cX6_knot 93 = .ok (.getfield 113, 3) := by decide +kernel
theorem dX6_knot_96 : decode cX6_knot 96 = .ok (.iload_n 1, 1) := by decide +kernel
theorem dX6_knot_97 : decode cX6_knot 97 = .ok (.dup2, 1) := by decide +kernel
theorem dX6_knot_98 : decode cX6_knot 98 = .ok (.iaload, 1) := by decide +kernel
theorem dX6_knot_99 : decode cX6_knot 99 = .ok (.iload_n 2, 1) := by decide +kernel
theorem dX6_knot_100 : decode cX6_knot 100 = .ok (.invokestatic 170, 3) := by decide +kernel
theorem dX6_knot_103 : decode cX6_knot 103 = .ok (.ixor, 1) := by decide +kernel
theorem dX6_knot_104 : decode cX6_knot 104 = .ok (.iastore, 1) := by decide +kernel
theorem dX6_knot_105 : decode cX6_knot 105 = .ok (.aload_n 0, 1) := by decide +kernel
theorem dX6_knot_106 : decode cX6_knot 106 = .ok (.getfield 31, 3) := by decide +kernel
theorem dX6_knot_109 : decode cX6_knot 109 = .ok (.getfield 113, 3) := by decide +kernel
theorem dX6_knot_112 : decode cX6_knot 112 = .ok (.iload_n 2, 1) := by decide +kernel
theorem dX6_knot_113 : decode cX6_knot 113 = .ok (.dup2, 1) := by decide +kernel
theorem dX6_knot_114 : decode cX6_knot 114 = .ok (.iaload, 1) := by decide +kernel
theorem dX6_knot_115 : decode cX6_knot 115 = .ok (.iload_n 1, 1) := by decide +kernel
theorem dX6_knot_116 : decode cX6_knot 116 = .ok (.invokestatic 170, 3) := by decide +kernel
theorem dX6_knot_119 : decode cX6_knot 119 = .ok (.ixor, 1) := by decide +kernel
theorem dX6_knot_120 : decode cX6_knot 120 = .ok (.iastore, 1) := by decide +kernel
theorem dX6_knot_121 : decode cX6_knot 121 = .ok (.iload 4, 2) := by decide +kernel
theorem dX6_knot_123 : decode cX6_knot 123 = .ok (.ireturn, 1) := by decide +kernel
theorem dX6_dye_0 : decode cX6_dye 0 = .ok (.aload_n 0, 1) := by decide +kernel
theorem dX6_dye_1 : decode cX6_dye 1 = .ok (.iload_n 1, 1) := by decide +kernel
theorem dX6_dye_2 : decode cX6_dye 2 = .ok (.invokevirtual 92, 3) := by decide +kernel
theorem dX6_dye_5 : decode cX6_dye 5 = .ok (.ifCond .ne 6, 3) := by decide +kernel
theorem dX6_dye_8 : decode cX6_dye 8 = .ok (.bipush (-2), 2) := by decide +kernel
theorem dX6_dye_10 : decode cX6_dye 10 = .ok (.ireturn, 1) := by decide +kernel
theorem dX6_dye_11 : decode cX6_dye 11 = .ok (.iload_n 2, 1) := by decide +kernel
theorem dX6_dye_12 : decode cX6_dye 12 = .ok (.ifCond .lt 8, 3) := by decide +kernel
theorem dX6_dye_15 : decode cX6_dye 15 = .ok (.iload_n 2, 1) := by decide +kernel
theorem dX6_dye_16 : decode cX6_dye 16 = .ok (.iconst 3, 1) := by decide +kernel
theorem dX6_dye_17 : decode cX6_dye 17 = .ok (.if_icmp .le 6, 3) := by decide +kernel
theorem dX6_dye_20 : decode cX6_dye 20 = .ok (.bipush (-3), 2) := by decide +kernel
theorem dX6_dye_22 : decode cX6_dye 22 = .ok (.ireturn, 1) := by decide +kernel
theorem dX6_dye_23 : decode cX6_dye 23 = .ok (.aload_n 0, 1) := by decide +kernel
theorem dX6_dye_24 : decode cX6_dye 24 = .ok (.getfield 31, 3) := by decide +kernel
theorem dX6_dye_27 : decode cX6_dye 27 = .ok (.iload_n 1, 1) := by decide +kernel
theorem dX6_dye_28 : decode cX6_dye 28 = .ok (.invokevirtual 123, 3) := by decide +kernel
theorem dX6_dye_31 : decode cX6_dye 31 = .ok (.ifCond .ne 6, 3) := by decide +kernel
theorem dX6_dye_34 : decode cX6_dye 34 = .ok (.bipush (-4), 2) := by decide +kernel
theorem dX6_dye_36 : decode cX6_dye 36 = .ok (.ireturn, 1) := by decide +kernel
theorem dX6_dye_37 : decode cX6_dye 37 = .ok (.aload_n 0, 1) := by decide +kernel
theorem dX6_dye_38 : decode cX6_dye 38 = .ok (.getfield 41, 3) := by decide +kernel
theorem dX6_dye_41 : decode cX6_dye 41 = .ok (.aload_n 0, 1) := by decide +kernel
theorem dX6_dye_42 : decode cX6_dye 42 = .ok (.getfield 31, 3) := by decide +kernel
theorem dX6_dye_45 : decode cX6_dye 45 = .ok (.invokevirtual 148, 3) := by decide +kernel
theorem dX6_dye_48 : decode cX6_dye 48 = .ok (.aload_n 0, 1) := by decide +kernel
theorem dX6_dye_49 : decode cX6_dye 49 = .ok (.getfield 31, 3) := by decide +kernel
theorem dX6_dye_52 : decode cX6_dye 52 = .ok (.getfield 103, 3) := by decide +kernel
theorem dX6_dye_55 : decode cX6_dye 55 = .ok (.iload_n 1, 1) := by decide +kernel
theorem dX6_dye_56 : decode cX6_dye 56 = .ok (.iaload, 1) := by decide +kernel
theorem dX6_dye_57 : decode cX6_dye 57 = .ok (.istore_n 3, 1) := by decide +kernel
theorem dX6_dye_58 : decode cX6_dye 58 = .ok (.aload_n 0, 1) := by decide +kernel
theorem dX6_dye_59 : decode cX6_dye 59 = .ok (.getfield 31, 3) := by decide +kernel
theorem dX6_dye_62 : decode cX6_dye 62 = .ok (.getfield 103, 3) := by decide +kernel
theorem dX6_dye_65 : decode cX6_dye 65 = .ok (.iload_n 1, 1) := by decide +kernel
theorem dX6_dye_66 : decode cX6_dye 66 = .ok (.iload_n 2, 1) := by decide +kernel
theorem dX6_dye_67 : decode cX6_dye 67 = .ok (.iastore, 1) := by decide +kernel
theorem dX6_dye_68 : decode cX6_dye 68 = .ok (.iload_n 3, 1) := by decide +kernel
theorem dX6_dye_69 : decode cX6_dye 69 = .ok (.ireturn, 1) := by decide +kernel
theorem dX6_go_0 : decode cX6_go 0 = .ok (.iload_n 1, 1) := by decide +kernel
theorem dX6_go_1 : decode cX6_go 1 = .ok (.iconst 1, 1) := by decide +kernel
theorem dX6_go_2 : decode cX6_go 2 = .ok (.if_icmp .lt 9, 3) := by decide +kernel
theorem dX6_go_5 : decode cX6_go 5 = .ok (.iload_n 1, 1) := by decide +kernel
theorem dX6_go_6 : decode cX6_go 6 = .ok (.bipush 99, 2) := by decide +kernel
theorem dX6_go_8 : decode cX6_go 8 = .ok (.if_icmp .le 6, 3) := by decide +kernel
theorem dX6_go_11 : decode cX6_go 11 = .ok (.bipush (-3), 2) := by decide +kernel
theorem dX6_go_13 : decode cX6_go 13 = .ok (.ireturn, 1) := by decide +kernel
theorem dX6_go_14 : decode cX6_go 14 = .ok (.aload_n 0, 1) := by decide +kernel
theorem dX6_go_15 : decode cX6_go 15 = .ok (.getfield 31, 3) := by decide +kernel
theorem dX6_go_18 : decode cX6_go 18 = .ok (.getfield 126, 3) := by decide +kernel
theorem dX6_go_21 : decode cX6_go 21 = .ok (.iload_n 1, 1) := by decide +kernel
theorem dX6_go_22 : decode cX6_go 22 = .ok (.iadd, 1) := by decide +kernel
theorem dX6_go_23 : decode cX6_go 23 = .ok (.sipush 999, 3) := by decide +kernel
theorem dX6_go_26 : decode cX6_go 26 = .ok (.if_icmp .le 6, 3) := by decide +kernel
theorem dX6_go_29 : decode cX6_go 29 = .ok (.bipush (-5), 2) := by decide +kernel
theorem dX6_go_31 : decode cX6_go 31 = .ok (.ireturn, 1) := by decide +kernel
theorem dX6_go_32 : decode cX6_go 32 = .ok (.aload_n 0, 1) := by decide +kernel
theorem dX6_go_33 : decode cX6_go 33 = .ok (.getfield 41, 3) := by decide +kernel
theorem dX6_go_36 : decode cX6_go 36 = .ok (.aload_n 0, 1) := by decide +kernel
theorem dX6_go_37 : decode cX6_go 37 = .ok (.getfield 31, 3) := by decide +kernel
theorem dX6_go_40 : decode cX6_go 40 = .ok (.invokevirtual 148, 3) := by decide +kernel
theorem dX6_go_43 : decode cX6_go 43 = .ok (.aload_n 0, 1) := by decide +kernel
theorem dX6_go_44 : decode cX6_go 44 = .ok (.getfield 31, 3) := by decide +kernel
theorem dX6_go_47 : decode cX6_go 47 = .ok (.getfield 179, 3) := by decide +kernel
theorem dX6_go_50 : decode cX6_go 50 = .ok (.istore_n 2, 1) := by decide +kernel
theorem dX6_go_51 : decode cX6_go 51 = .ok (.aload_n 0, 1) := by decide +kernel
theorem dX6_go_52 : decode cX6_go 52 = .ok (.getfield 31, 3) := by decide +kernel
theorem dX6_go_55 : decode cX6_go 55 = .ok (.iload_n 1, 1) := by decide +kernel
theorem dX6_go_56 : decode cX6_go 56 = .ok (.invokevirtual 182, 3) := by decide +kernel
theorem dX6_go_59 : decode cX6_go 59 = .ok (.aload_n 0, 1) := by decide +kernel
theorem dX6_go_60 : decode cX6_go 60 = .ok (.getfield 31, 3) := by decide +kernel
theorem dX6_go_63 : decode cX6_go 63 = .ok (.getfield 179, 3) := by decide +kernel
theorem dX6_go_66 : decode cX6_go 66 = .ok (.iload_n 2, 1) := by decide +kernel
theorem dX6_go_67 : decode cX6_go 67 = .ok (.isub, 1) := by decide +kernel
theorem dX6_go_68 : decode cX6_go 68 = .ok (.ireturn, 1) := by decide +kernel
theorem dX6_undo_0 : decode cX6_undo 0 = .ok (.aload_n 0, 1) := by decide +kernel
theorem dX6_undo_1 : decode cX6_undo 1 = .ok (.getfield 41, 3) := by decide +kernel
theorem dX6_undo_4 : decode cX6_undo 4 = .ok (.getfield 86, 3) := by decide +kernel
theorem dX6_undo_7 : decode cX6_undo 7 = .ok (.ifCond .ne 6, 3) := by decide +kernel
theorem dX6_undo_10 : decode cX6_undo 10 = .ok (.bipush (-4), 2) := by decide +kernel
theorem dX6_undo_12 : decode cX6_undo 12 = .ok (.ireturn, 1) := by decide +kernel
theorem dX6_undo_13 : decode cX6_undo 13 = .ok (.aload_n 0, 1) := by decide +kernel
theorem dX6_undo_14 : decode cX6_undo 14 = .ok (.getfield 41, 3) := by decide +kernel
theorem dX6_undo_17 : decode cX6_undo 17 = .ok (.aload_n 0, 1) := by decide +kernel
theorem dX6_undo_18 : decode cX6_undo 18 = .ok (.getfield 31, 3) := by decide +kernel
theorem dX6_undo_21 : decode cX6_undo 21 = .ok (.invokevirtual 185, 3) := by decide +kernel
theorem dX6_undo_24 : decode cX6_undo 24 = .ok (.aload_n 0, 1) := by decide +kernel
theorem dX6_undo_25 : decode cX6_undo 25 = .ok (.getfield 41, 3) := by decide +kernel
theorem dX6_undo_28 : decode cX6_undo 28 = .ok (.getfield 86, 3) := by decide +kernel
theorem dX6_undo_31 : decode cX6_undo 31 = .ok (.ireturn, 1) := by decide +kernel
theorem dX6_keep_0 : decode cX6_keep 0 = .ok (.iload_n 1, 1) := by decide +kernel
theorem dX6_keep_1 : decode cX6_keep 1 = .ok (.ifCond .lt 8, 3) := by decide +kernel
theorem dX6_keep_4 : decode cX6_keep 4 = .ok (.iload_n 1, 1) := by decide +kernel
theorem dX6_keep_5 : decode cX6_keep 5 = .ok (.iconst 2, 1) := by decide +kernel
theorem dX6_keep_6 : decode cX6_keep 6 = .ok (.if_icmp .lt 6, 3) := by decide +kernel
theorem dX6_keep_9 : decode cX6_keep 9 = .ok (.bipush (-2), 2) := by decide +kernel
theorem dX6_keep_11 : decode cX6_keep 11 = .ok (.ireturn, 1) := by decide +kernel
theorem dX6_keep_12 : decode cX6_keep 12 = .ok (.aload_n 0, 1) := by decide +kernel
theorem dX6_keep_13 : decode cX6_keep 13 = .ok (.getfield 45, 3) := by decide +kernel
theorem dX6_keep_16 : decode cX6_keep 16 = .ok (.iload_n 1, 1) := by decide +kernel
theorem dX6_keep_17 : decode cX6_keep 17 = .ok (.aaload, 1) := by decide +kernel
theorem dX6_keep_18 : decode cX6_keep 18 = .ok (.aload_n 0, 1) := by decide +kernel
theorem dX6_keep_19 : decode cX6_keep 19 = .ok (.getfield 31, 3) := by decide +kernel
theorem dX6_keep_22 : decode cX6_keep 22 = .ok (.invokevirtual 188, 3) := by decide +kernel
theorem dX6_keep_25 : decode cX6_keep 25 = .ok (.aload_n 0, 1) := by decide +kernel
theorem dX6_keep_26 : decode cX6_keep 26 = .ok (.dup, 1) := by decide +kernel
theorem dX6_keep_27 : decode cX6_keep 27 = .ok (.getfield 49, 3) := by decide +kernel
theorem dX6_keep_30 : decode cX6_keep 30 = .ok (.iload_n 1, 1) := by decide +kernel
theorem dX6_keep_31 : decode cX6_keep 31 = .ok (.invokestatic 170, 3) := by decide +kernel
theorem dX6_keep_34 : decode cX6_keep 34 = .ok (.ior, 1) := by decide +kernel
theorem dX6_keep_35 : decode cX6_keep 35 = .ok (.putfield 49, 3) := by decide +kernel
theorem dX6_keep_38 : decode cX6_keep 38 = .ok (.aload_n 0, 1) := by decide +kernel
theorem dX6_keep_39 : decode cX6_keep 39 = .ok (.getfield 31, 3) := by decide +kernel
theorem dX6_keep_42 : decode cX6_keep 42 = .ok (.getfield 126, 3) := by decide +kernel
theorem dX6_keep_45 : decode cX6_keep 45 = .ok (.ireturn, 1) := by decide +kernel
theorem dX6_back_0 : decode cX6_back 0 = .ok (.iload_n 1, 1) := by decide +kernel
theorem dX6_back_1 : decode cX6_back 1 = .ok (.ifCond .lt 8, 3) := by decide +kernel
theorem dX6_back_4 : decode cX6_back 4 = .ok (.iload_n 1, 1) := by decide +kernel
theorem dX6_back_5 : decode cX6_back 5 = .ok (.iconst 2, 1) := by decide +kernel
theorem dX6_back_6 : decode cX6_back 6 = .ok (.if_icmp .lt 6, 3) := by decide +kernel
theorem dX6_back_9 : decode cX6_back 9 = .ok (.bipush (-2), 2) := by decide +kernel
theorem dX6_back_11 : decode cX6_back 11 = .ok (.ireturn, 1) := by decide +kernel
theorem dX6_back_12 : decode cX6_back 12 = .ok (.aload_n 0, 1) := by decide +kernel
theorem dX6_back_13 : decode cX6_back 13 = .ok (.getfield 49, 3) := by decide +kernel
theorem dX6_back_16 : decode cX6_back 16 = .ok (.iload_n 1, 1) := by decide +kernel
theorem dX6_back_17 : decode cX6_back 17 = .ok (.invokestatic 163, 3) := by decide +kernel
theorem dX6_back_20 : decode cX6_back 20 = .ok (.ifCond .ne 6, 3) := by decide +kernel
theorem dX6_back_23 : decode cX6_back 23 = .ok (.bipush (-4), 2) := by decide +kernel
theorem dX6_back_25 : decode cX6_back 25 = .ok (.ireturn, 1) := by decide +kernel
theorem dX6_back_26 : decode cX6_back 26 = .ok (.aload_n 0, 1) := by decide +kernel
theorem dX6_back_27 : decode cX6_back 27 = .ok (.getfield 31, 3) := by decide +kernel
theorem dX6_back_30 : decode cX6_back 30 = .ok (.aload_n 0, 1) := by decide +kernel
theorem dX6_back_31 : decode cX6_back 31 = .ok (.getfield 45, 3) := by decide +kernel
theorem dX6_back_34 : decode cX6_back 34 = .ok (.iload_n 1, 1) := by decide +kernel
theorem dX6_back_35 : decode cX6_back 35 = .ok (.aaload, 1) := by decide +kernel
theorem dX6_back_36 : decode cX6_back 36 = .ok (.invokevirtual 188, 3) := by decide +kernel
theorem dX6_back_39 : decode cX6_back 39 = .ok (.aload_n 0, 1) := by decide +kernel
theorem dX6_back_40 : decode cX6_back 40 = .ok (.getfield 41, 3) := by decide +kernel
theorem dX6_back_43 : decode cX6_back 43 = .ok (.iconst 0, 1) := by decide +kernel
theorem dX6_back_44 : decode cX6_back 44 = .ok (.putfield 86, 3) := by decide +kernel
theorem dX6_back_47 : decode cX6_back 47 = .ok (.aload_n 0, 1) := by decide +kernel
theorem dX6_back_48 : decode cX6_back 48 = .ok (.getfield 31, 3) := by decide +kernel
theorem dX6_back_51 : decode cX6_back 51 = .ok (.getfield 126, 3) := by decide +kernel
theorem dX6_back_54 : decode cX6_back 54 = .ok (.ireturn, 1) := by decide +kernel
theorem dX6_takes_0 : decode cX6_takes 0 = .ok (.aload_n 0, 1) := by decide +kernel
theorem dX6_takes_1 : decode cX6_takes 1 = .ok (.iload_n 1, 1) := by decide +kernel
theorem dX6_takes_2 : decode cX6_takes 2 = .ok (.invokevirtual 92, 3) := by decide +kernel
theorem dX6_takes_5 : decode cX6_takes 5 = .ok (.ifCond .eq 21, 3) := by decide +kernel
theorem dX6_takes_8 : decode cX6_takes 8 = .ok (.aload_n 0, 1) := by decide +kernel
theorem dX6_takes_9 : decode cX6_takes 9 = .ok (.getfield 31, 3) := by decide +kernel
theorem dX6_takes_12 : decode cX6_takes 12 = .ok (.iload_n 1, 1) := by decide +kernel
theorem dX6_takes_13 : decode cX6_takes 13 = .ok (.aload_n 0, 1) := by decide +kernel
theorem dX6_takes_14 : decode cX6_takes 14 = .ok (.getfield 31, 3) := by decide +kernel
theorem dX6_takes_17 : decode cX6_takes 17 = .ok (.getfield 142, 3) := by decide +kernel
theorem dX6_takes_20 : decode cX6_takes 20 = .ok (.invokevirtual 190, 3) := by decide +kernel
theorem dX6_takes_23 : decode cX6_takes 23 = .ok (.goto 5, 3) := by decide +kernel
theorem dX6_takes_26 : decode cX6_takes 26 = .ok (.bipush (-2), 2) := by decide +kernel
theorem dX6_takes_28 : decode cX6_takes 28 = .ok (.ireturn, 1) := by decide +kernel
theorem dX6_loss_0 : decode cX6_loss 0 = .ok (.aload_n 0, 1) := by decide +kernel
theorem dX6_loss_1 : decode cX6_loss 1 = .ok (.iload_n 1, 1) := by decide +kernel
theorem dX6_loss_2 : decode cX6_loss 2 = .ok (.invokevirtual 92, 3) := by decide +kernel
theorem dX6_loss_5 : decode cX6_loss 5 = .ok (.ifCond .eq 11, 3) := by decide +kernel
theorem dX6_loss_8 : decode cX6_loss 8 = .ok (.aload_n 0, 1) := by decide +kernel
theorem dX6_loss_9 : decode cX6_loss 9 = .ok (.iload_n 1, 1) := by decide +kernel
theorem dX6_loss_10 : decode cX6_loss 10 = .ok (.invokevirtual 193, 3) := by decide +kernel
theorem dX6_loss_13 : decode cX6_loss 13 = .ok (.goto 5, 3) := by decide +kernel
theorem dX6_loss_16 : decode cX6_loss 16 = .ok (.bipush (-2), 2) := by decide +kernel
theorem dX6_loss_18 : decode cX6_loss 18 = .ok (.ireturn, 1) := by decide +kernel
theorem dX6_lifts_0 : decode cX6_lifts 0 = .ok (.aload_n 0, 1) := by decide +kernel
theorem dX6_lifts_1 : decode cX6_lifts 1 = .ok (.iload_n 1, 1) := by decide +kernel
theorem dX6_lifts_2 : decode cX6_lifts 2 = .ok (.invokevirtual 92, 3) := by decide +kernel
theorem dX6_lifts_5 : decode cX6_lifts 5 = .ok (.ifCond .ne 6, 3) := by decide +kernel
theorem dX6_lifts_8 : decode cX6_lifts 8 = .ok (.bipush (-2), 2) := by decide +kernel
theorem dX6_lifts_10 : decode cX6_lifts 10 = .ok (.ireturn, 1) := by decide +kernel
theorem dX6_lifts_11 : decode cX6_lifts 11 = .ok (.iload_n 2, 1) := by decide +kernel
theorem dX6_lifts_12 : decode cX6_lifts 12 = .ok (.ifCond .lt 8, 3) := by decide +kernel
theorem dX6_lifts_15 : decode cX6_lifts 15 = .ok (.iload_n 2, 1) := by decide +kernel
theorem dX6_lifts_16 : decode cX6_lifts 16 = .ok (.iconst 1, 1) := by decide +kernel
theorem dX6_lifts_17 : decode cX6_lifts 17 = .ok (.if_icmp .le 6, 3) := by decide +kernel
theorem dX6_lifts_20 : decode cX6_lifts 20 = .ok (.bipush (-3), 2) := by decide +kernel
theorem dX6_lifts_22 : decode cX6_lifts 22 = .ok (.ireturn, 1) := by decide +kernel
theorem dX6_lifts_23 : decode cX6_lifts 23 = .ok (.aload_n 0, 1) := by decide +kernel
theorem dX6_lifts_24 : decode cX6_lifts 24 = .ok (.getfield 31, 3) := by decide +kernel
theorem dX6_lifts_27 : decode cX6_lifts 27 = .ok (.iload_n 1, 1) := by decide +kernel
theorem dX6_lifts_28 : decode cX6_lifts 28 = .ok (.invokevirtual 123, 3) := by decide +kernel
theorem dX6_lifts_31 : decode cX6_lifts 31 = .ok (.ifCond .ne 6, 3) := by decide +kernel
theorem dX6_lifts_34 : decode cX6_lifts 34 = .ok (.bipush (-4), 2) := by decide +kernel
theorem dX6_lifts_36 : decode cX6_lifts 36 = .ok (.ireturn, 1) := by decide +kernel
theorem dX6_lifts_37 : decode cX6_lifts 37 = .ok (.aload_n 0, 1) := by decide +kernel
theorem dX6_lifts_38 : decode cX6_lifts 38 = .ok (.getfield 31, 3) := by decide +kernel
theorem dX6_lifts_41 : decode cX6_lifts 41 = .ok (.getfield 110, 3) := by decide +kernel
theorem dX6_lifts_44 : decode cX6_lifts 44 = .ok (.iload_n 1, 1) := by decide +kernel
theorem dX6_lifts_45 : decode cX6_lifts 45 = .ok (.iaload, 1) := by decide +kernel
theorem dX6_lifts_46 : decode cX6_lifts 46 = .ok (.aload_n 0, 1) := by decide +kernel
theorem dX6_lifts_47 : decode cX6_lifts 47 = .ok (.getfield 31, 3) := by decide +kernel
theorem dX6_lifts_50 : decode cX6_lifts 50 = .ok (.getfield 142, 3) := by decide +kernel
theorem dX6_lifts_53 : decode cX6_lifts 53 = .ok (.iand, 1) := by decide +kernel
theorem dX6_lifts_54 : decode cX6_lifts 54 = .ok (.istore_n 3, 1) := by decide +kernel
theorem dX6_lifts_55 : decode cX6_lifts 55 = .ok (.iload_n 2, 1) := by decide +kernel
theorem dX6_lifts_56 : decode cX6_lifts 56 = .ok (.ifCond .ne 10, 3) := by decide +kernel
theorem dX6_lifts_59 : decode cX6_lifts 59 = .ok (.iload_n 3, 1) := by decide +kernel
theorem dX6_lifts_60 : decode cX6_lifts 60 = .ok (.invokestatic 155, 3) := by decide +kernel
theorem dX6_lifts_63 : decode cX6_lifts 63 = .ok (.goto 4, 3) := by decide +kernel
theorem dX6_lifts_66 : decode cX6_lifts 66 = .ok (.iload_n 3, 1) := by decide +kernel
theorem dX6_lifts_67 : decode cX6_lifts 67 = .ok (.ireturn, 1) := by decide +kernel
theorem dX6_doom_0 : decode cX6_doom 0 = .ok (.iload_n 1, 1) := by decide +kernel
theorem dX6_doom_1 : decode cX6_doom 1 = .ok (.ifCond .lt 8, 3) := by decide +kernel
theorem dX6_doom_4 : decode cX6_doom 4 = .ok (.iload_n 1, 1) := by decide +kernel
theorem dX6_doom_5 : decode cX6_doom 5 = .ok (.iconst 1, 1) := by decide +kernel
theorem dX6_doom_6 : decode cX6_doom 6 = .ok (.if_icmp .le 6, 3) := by decide +kernel
theorem dX6_doom_9 : decode cX6_doom 9 = .ok (.bipush (-3), 2) := by decide +kernel
theorem dX6_doom_11 : decode cX6_doom 11 = .ok (.ireturn, 1) := by decide +kernel
theorem dX6_doom_12 : decode cX6_doom 12 = .ok (.aload_n 0, 1) := by decide +kernel
theorem dX6_doom_13 : decode cX6_doom 13 = .ok (.getfield 35, 3) := by decide +kernel
theorem dX6_doom_16 : decode cX6_doom 16 = .ok (.aload_n 0, 1) := by decide +kernel
theorem dX6_doom_17 : decode cX6_doom 17 = .ok (.getfield 31, 3) := by decide +kernel
theorem dX6_doom_20 : decode cX6_doom 20 = .ok (.invokevirtual 188, 3) := by decide +kernel
theorem dX6_doom_23 : decode cX6_doom 23 = .ok (.aload_n 0, 1) := by decide +kernel
theorem dX6_doom_24 : decode cX6_doom 24 = .ok (.getfield 35, 3) := by decide +kernel
theorem dX6_doom_27 : decode cX6_doom 27 = .ok (.bipush 100, 2) := by decide +kernel
theorem dX6_doom_29 : decode cX6_doom 29 = .ok (.aload_n 0, 1) := by decide +kernel
theorem dX6_doom_30 : decode cX6_doom 30 = .ok (.getfield 31, 3) := by decide +kernel
theorem dX6_doom_33 : decode cX6_doom 33 = .ok (.getfield 126, 3) := by decide +kernel
theorem dX6_doom_36 : decode cX6_doom 36 = .ok (.isub, 1) := by decide +kernel
theorem dX6_doom_37 : decode cX6_doom 37 = .ok (.invokevirtual 182, 3) := by decide +kernel
theorem dX6_doom_40 : decode cX6_doom 40 = .ok (.iload_n 1, 1) := by decide +kernel
theorem dX6_doom_41 : decode cX6_doom 41 = .ok (.ifCond .ne 21, 3) := by decide +kernel
theorem dX6_doom_44 : decode cX6_doom 44 = .ok (.aload_n 0, 1) := by decide +kernel
theorem dX6_doom_45 : decode cX6_doom 45 = .ok (.getfield 35, 3) := by decide +kernel
theorem dX6_doom_48 : decode cX6_doom 48 = .ok (.getfield 179, 3) := by decide +kernel
theorem dX6_doom_51 : decode cX6_doom 51 = .ok (.aload_n 0, 1) := by decide +kernel
theorem dX6_doom_52 : decode cX6_doom 52 = .ok (.getfield 31, 3) := by decide +kernel
theorem dX6_doom_55 : decode cX6_doom 55 = .ok (.getfield 179, 3) := by decide +kernel
theorem dX6_doom_58 : decode cX6_doom 58 = .ok (.isub, 1) := by decide +kernel
theorem dX6_doom_59 : decode cX6_doom 59 = .ok (.goto 20, 3) := by decide +kernel
theorem dX6_doom_62 : decode cX6_doom 62 = .ok (.aload_n 0, 1) := by decide +kernel
theorem dX6_doom_63 : decode cX6_doom 63 = .ok (.getfield 35, 3) := by decide +kernel
theorem dX6_doom_66 : decode cX6_doom 66 = .ok (.getfield 196, 3) := by decide +kernel
theorem dX6_doom_69 : decode cX6_doom 69 = .ok (.aload_n 0, 1) := by decide +kernel
theorem dX6_doom_70 : decode cX6_doom 70 = .ok (.getfield 31, 3) := by decide +kernel
theorem dX6_doom_73 : decode cX6_doom 73 = .ok (.getfield 196, 3) := by decide +kernel
theorem dX6_doom_76 : decode cX6_doom 76 = .ok (.iconst (-1), 1) := by decide +kernel
theorem dX6_doom_77 : decode cX6_doom 77 = .ok (.ixor, 1) := by decide +kernel
theorem dX6_doom_78 : decode cX6_doom 78 = .ok (.iand, 1) := by decide +kernel
theorem dX6_doom_79 : decode cX6_doom 79 = .ok (.ireturn, 1) := by decide +kernel
theorem dX6_swapped_0 : decode cX6_swapped 0 = .ok (.iload_n 1, 1) := by decide +kernel
theorem dX6_swapped_1 : decode cX6_swapped 1 = .ok (.iconst (-1), 1) := by decide +kernel
theorem dX6_swapped_2 : decode cX6_swapped 2 = .ok (.if_icmp .eq 21, 3) := by decide +kernel
theorem dX6_swapped_5 : decode cX6_swapped 5 = .ok (.iload_n 1, 1) := by decide +kernel
theorem dX6_swapped_6 : decode cX6_swapped 6 = .ok (.ifCond .lt 14, 3) := by decide +kernel
theorem dX6_swapped_9 : decode cX6_swapped 9 = .ok (.iload_n 1, 1) := by decide +kernel
theorem dX6_swapped_10 : decode cX6_swapped 10 = .ok (.aload_n 0, 1) := by decide +kernel
theorem dX6_swapped_11 : decode cX6_swapped 11 = .ok (.getfield 19, 3) := by decide +kernel
theorem dX6_swapped_14 : decode cX6_swapped 14 = .ok (.getfield 133, 3) := by decide +kernel
theorem dX6_swapped_17 : decode cX6_swapped 17 = .ok (.if_icmp .lt 6, 3) := by decide +kernel
theorem dX6_swapped_20 : decode cX6_swapped 20 = .ok (.bipush (-2), 2) := by decide +kernel
theorem dX6_swapped_22 : decode cX6_swapped 22 = .ok (.ireturn, 1) := by decide +kernel
theorem dX6_swapped_23 : decode cX6_swapped 23 = .ok (.aload_n 0, 1) := by decide +kernel
theorem dX6_swapped_24 : decode cX6_swapped 24 = .ok (.getfield 58, 3) := by decide +kernel
theorem dX6_swapped_27 : decode cX6_swapped 27 = .ok (.invokevirtual 199, 3) := by decide +kernel
theorem dX6_swapped_30 : decode cX6_swapped 30 = .ok (.iload_n 1, 1) := by decide +kernel
theorem dX6_swapped_31 : decode cX6_swapped 31 = .ok (.iconst (-1), 1) := by decide +kernel
theorem dX6_swapped_32 : decode cX6_swapped 32 = .ok (.if_icmp .ne 13, 3) := by decide +kernel
theorem dX6_swapped_35 : decode cX6_swapped 35 = .ok (.aload_n 0, 1) := by decide +kernel
theorem dX6_swapped_36 : decode cX6_swapped 36 = .ok (.getfield 58, 3) := by decide +kernel
theorem dX6_swapped_39 : decode cX6_swapped 39 = .ok (.getfield 202, 3) := by decide +kernel
theorem dX6_swapped_42 : decode cX6_swapped 42 = .ok (.goto 12, 3) := by decide +kernel
theorem dX6_swapped_45 : decode cX6_swapped 45 = .ok (.aload_n 0, 1) := by decide +kernel
theorem dX6_swapped_46 : decode cX6_swapped 46 = .ok (.getfield 58, 3) := by decide +kernel
theorem dX6_swapped_49 : decode cX6_swapped 49 = .ok (.getfield 205, 3) := by decide +kernel
theorem dX6_swapped_52 : decode cX6_swapped 52 = .ok (.iload_n 1, 1) := by decide +kernel
theorem dX6_swapped_53 : decode cX6_swapped 53 = .ok (.iaload, 1) := by decide +kernel
theorem dX6_swapped_54 : decode cX6_swapped 54 = .ok (.ireturn, 1) := by decide +kernel
theorem dX6_tails_0 : decode cX6_tails 0 = .ok (.iload_n 1, 1) := by decide +kernel
theorem dX6_tails_1 : decode cX6_tails 1 = .ok (.iconst (-1), 1) := by decide +kernel
theorem dX6_tails_2 : decode cX6_tails 2 = .ok (.if_icmp .eq 14, 3) := by decide +kernel
theorem dX6_tails_5 : decode cX6_tails 5 = .ok (.aload_n 0, 1) := by decide +kernel
theorem dX6_tails_6 : decode cX6_tails 6 = .ok (.iload_n 1, 1) := by decide +kernel
theorem dX6_tails_7 : decode cX6_tails 7 = .ok (.invokevirtual 92, 3) := by decide +kernel
theorem dX6_tails_10 : decode cX6_tails 10 = .ok (.ifCond .ne 6, 3) := by decide +kernel
theorem dX6_tails_13 : decode cX6_tails 13 = .ok (.bipush (-2), 2) := by decide +kernel
theorem dX6_tails_15 : decode cX6_tails 15 = .ok (.ireturn, 1) := by decide +kernel
theorem dX6_tails_16 : decode cX6_tails 16 = .ok (.aload_n 0, 1) := by decide +kernel
theorem dX6_tails_17 : decode cX6_tails 17 = .ok (.getfield 65, 3) := by decide +kernel
theorem dX6_tails_20 : decode cX6_tails 20 = .ok (.invokevirtual 208, 3) := by decide +kernel
theorem dX6_tails_23 : decode cX6_tails 23 = .ok (.iload_n 1, 1) := by decide +kernel
theorem dX6_tails_24 : decode cX6_tails 24 = .ok (.iconst (-1), 1) := by decide +kernel
theorem dX6_tails_25 : decode cX6_tails 25 = .ok (.if_icmp .ne 13, 3) := by decide +kernel
theorem dX6_tails_28 : decode cX6_tails 28 = .ok (.aload_n 0, 1) := by decide +kernel
theorem dX6_tails_29 : decode cX6_tails 29 = .ok (.getfield 65, 3) := by decide +kernel
theorem dX6_tails_32 : decode cX6_tails 32 = .ok (.getfield 211, 3) := by decide +kernel
theorem dX6_tails_35 : decode cX6_tails 35 = .ok (.goto 12, 3) := by decide +kernel
theorem dX6_tails_38 : decode cX6_tails 38 = .ok (.aload_n 0, 1) := by decide +kernel
theorem dX6_tails_39 : decode cX6_tails 39 = .ok (.getfield 65, 3) := by decide +kernel
theorem dX6_tails_42 : decode cX6_tails 42 = .ok (.getfield 214, 3) := by decide +kernel
theorem dX6_tails_45 : decode cX6_tails 45 = .ok (.iload_n 1, 1) := by decide +kernel
theorem dX6_tails_46 : decode cX6_tails 46 = .ok (.iaload, 1) := by decide +kernel
theorem dX6_tails_47 : decode cX6_tails 47 = .ok (.ireturn, 1) := by decide +kernel
theorem dX6_given_0 : decode cX6_given 0 = .ok (.aload_n 0, 1) := by decide +kernel
theorem dX6_given_1 : decode cX6_given 1 = .ok (.iload_n 1, 1) := by decide +kernel
theorem dX6_given_2 : decode cX6_given 2 = .ok (.invokevirtual 92, 3) := by decide +kernel
theorem dX6_given_5 : decode cX6_given 5 = .ok (.ifCond .ne 6, 3) := by decide +kernel
theorem dX6_given_8 : decode cX6_given 8 = .ok (.bipush (-2), 2) := by decide +kernel
theorem dX6_given_10 : decode cX6_given 10 = .ok (.ireturn, 1) := by decide +kernel
theorem dX6_given_11 : decode cX6_given 11 = .ok (.iload_n 2, 1) := by decide +kernel
theorem dX6_given_12 : decode cX6_given 12 = .ok (.iconst 1, 1) := by decide +kernel
theorem dX6_given_13 : decode cX6_given 13 = .ok (.if_icmp .lt 19, 3) := by decide +kernel
theorem dX6_given_16 : decode cX6_given 16 = .ok (.iload_n 2, 1) := by decide +kernel
theorem dX6_given_17 : decode cX6_given 17 = .ok (.bipush 99, 2) := by decide +kernel
theorem dX6_given_19 : decode cX6_given 19 = .ok (.if_icmp .gt 13, 3) := by decide +kernel
theorem dX6_given_22 : decode cX6_given 22 = .ok (.iload_n 3, 1) := by decide +kernel
theorem dX6_given_23 : decode cX6_given 23 = .ok (.ifCond .lt 9, 3) := by decide +kernel
theorem dX6_given_26 : decode cX6_given 26 = .ok (.iload_n 3, 1) := by decide +kernel
theorem dX6_given_27 : decode cX6_given 27 = .ok (.bipush 99, 2) := by decide +kernel
theorem dX6_given_29 : decode cX6_given 29 = .ok (.if_icmp .le 6, 3) := by decide +kernel
theorem dX6_given_32 : decode cX6_given 32 = .ok (.bipush (-3), 2) := by decide +kernel
theorem dX6_given_34 : decode cX6_given 34 = .ok (.ireturn, 1) := by decide +kernel
theorem dX6_given_35 : decode cX6_given 35 = .ok (.aload_n 0, 1) := by decide +kernel
theorem dX6_given_36 : decode cX6_given 36 = .ok (.getfield 31, 3) := by decide +kernel
theorem dX6_given_39 : decode cX6_given 39 = .ok (.iload_n 1, 1) := by decide +kernel
theorem dX6_given_40 : decode cX6_given 40 = .ok (.invokevirtual 123, 3) := by decide +kernel
theorem dX6_given_43 : decode cX6_given 43 = .ok (.ifCond .ne 6, 3) := by decide +kernel
theorem dX6_given_46 : decode cX6_given 46 = .ok (.bipush (-4), 2) := by decide +kernel
theorem dX6_given_48 : decode cX6_given 48 = .ok (.ireturn, 1) := by decide +kernel
theorem dX6_given_49 : decode cX6_given 49 = .ok (.iconst 0, 1) := by decide +kernel
theorem dX6_given_50 : decode cX6_given 50 = .ok (.istore 4, 2) := by decide +kernel
theorem dX6_given_52 : decode cX6_given 52 = .ok (.iconst 0, 1) := by decide +kernel
theorem dX6_given_53 : decode cX6_given 53 = .ok (.istore 5, 2) := by decide +kernel
theorem dX6_given_55 : decode cX6_given 55 = .ok (.iconst (-1), 1) := by decide +kernel
theorem dX6_given_56 : decode cX6_given 56 = .ok (.istore 6, 2) := by decide +kernel
theorem dX6_given_58 : decode cX6_given 58 = .ok (.iconst 0, 1) := by decide +kernel
theorem dX6_given_59 : decode cX6_given 59 = .ok (.istore 7, 2) := by decide +kernel
theorem dX6_given_61 : decode cX6_given 61 = .ok (.iload 7, 2) := by decide +kernel
theorem dX6_given_63 : decode cX6_given 63 = .ok (.aload_n 0, 1) := by decide +kernel
theorem dX6_given_64 : decode cX6_given 64 = .ok (.getfield 19, 3) := by decide +kernel
theorem dX6_given_67 : decode cX6_given 67 = .ok (.getfield 215, 3) := by decide +kernel
theorem dX6_given_70 : decode cX6_given 70 = .ok (.if_icmp .ge 53, 3) := by decide +kernel
theorem dX6_given_73 : decode cX6_given 73 = .ok (.iload 7, 2) := by decide +kernel
theorem dX6_given_75 : decode cX6_given 75 = .ok (.iload_n 1, 1) := by decide +kernel
theorem dX6_given_76 : decode cX6_given 76 = .ok (.if_icmp .ne 7, 3) := by decide +kernel
theorem dX6_given_79 : decode cX6_given 79 = .ok (.iconst 0, 1) := by decide +kernel
theorem dX6_given_80 : decode cX6_given 80 = .ok (.goto 13, 3) := by decide +kernel
theorem dX6_given_83 : decode cX6_given 83 = .ok (.aload_n 0, 1) := by decide +kernel
theorem dX6_given_84 : decode cX6_given 84 = .ok (.getfield 31, 3) := by decide +kernel
theorem dX6_given_87 : decode cX6_given 87 = .ok (.iload 7, 2) := by decide +kernel
theorem dX6_given_89 : decode cX6_given 89 = .ok (.iload_n 3, 1) := by decide +kernel
theorem dX6_given_90 : decode cX6_given 90 = .ok (.invokevirtual 218, 3) := by decide +kernel
theorem dX6_given_93 : decode cX6_given 93 = .ok (.istore 8, 2) := by decide +kernel
theorem dX6_given_95 : decode cX6_given 95 = .ok (.iload 4, 2) := by decide +kernel
theorem dX6_given_97 : decode cX6_given 97 = .ok (.iload 8, 2) := by decide +kernel
theorem dX6_given_99 : decode cX6_given 99 = .ok (.iadd, 1) := by decide +kernel
theorem dX6_given_100 : decode cX6_given 100 = .ok (.istore 4, 2) := by decide +kernel
theorem dX6_given_102 : decode cX6_given 102 = .ok (.iload 8, 2) := by decide +kernel
theorem dX6_given_104 : decode cX6_given 104 = .ok (.iload 5, 2) := by decide +kernel
theorem dX6_given_106 : decode cX6_given 106 = .ok (.if_icmp .le 11, 3) := by decide +kernel
theorem dX6_given_109 : decode cX6_given 109 = .ok (.iload 8, 2) := by decide +kernel
theorem dX6_given_111 : decode cX6_given 111 = .ok (.istore 5, 2) := by decide +kernel
theorem dX6_given_113 : decode cX6_given 113 = .ok (.iload 7, 2) := by decide +kernel
theorem dX6_given_115 : decode cX6_given 115 = .ok (.istore 6, 2) := by decide +kernel
theorem dX6_given_117 : decode cX6_given 117 = .ok (.iinc 7 1, 3) := by decide +kernel
theorem dX6_given_120 : decode cX6_given 120 = .ok (.goto (-59), 3) := by decide +kernel
theorem dX6_given_123 : decode cX6_given 123 = .ok (.iload 4, 2) := by decide +kernel
theorem dX6_given_125 : decode cX6_given 125 = .ok (.iload_n 2, 1) := by decide +kernel
theorem dX6_given_126 : decode cX6_given 126 = .ok (.if_icmp .lt 8, 3) := by decide +kernel
theorem dX6_given_129 : decode cX6_given 129 = .ok (.iload 6, 2) := by decide +kernel
theorem dX6_given_131 : decode cX6_given 131 = .ok (.goto 4, 3) := by decide +kernel
theorem dX6_given_134 : decode cX6_given 134 = .ok (.iconst (-1), 1) := by decide +kernel
theorem dX6_given_135 : decode cX6_given 135 = .ok (.ireturn, 1) := by decide +kernel
theorem dX6_cat_0 : decode cX6_cat 0 = .ok (.aload_n 0, 1) := by decide +kernel
theorem dX6_cat_1 : decode cX6_cat 1 = .ok (.iload_n 1, 1) := by decide +kernel
theorem dX6_cat_2 : decode cX6_cat 2 = .ok (.invokevirtual 92, 3) := by decide +kernel
theorem dX6_cat_5 : decode cX6_cat 5 = .ok (.ifCond .ne 6, 3) := by decide +kernel
theorem dX6_cat_8 : decode cX6_cat 8 = .ok (.bipush (-2), 2) := by decide +kernel
theorem dX6_cat_10 : decode cX6_cat 10 = .ok (.ireturn, 1) := by decide +kernel
theorem dX6_cat_11 : decode cX6_cat 11 = .ok (.iload_n 2, 1) := by decide +kernel
theorem dX6_cat_12 : decode cX6_cat 12 = .ok (.ifCond .lt 8, 3) := by decide +kernel
theorem dX6_cat_15 : decode cX6_cat 15 = .ok (.iload_n 2, 1) := by decide +kernel
theorem dX6_cat_16 : decode cX6_cat 16 = .ok (.iconst 1, 1) := by decide +kernel
theorem dX6_cat_17 : decode cX6_cat 17 = .ok (.if_icmp .le 6, 3) := by decide +kernel
theorem dX6_cat_20 : decode cX6_cat 20 = .ok (.bipush (-3), 2) := by decide +kernel
theorem dX6_cat_22 : decode cX6_cat 22 = .ok (.ireturn, 1) := by decide +kernel
theorem dX6_cat_23 : decode cX6_cat 23 = .ok (.aload_n 0, 1) := by decide +kernel
theorem dX6_cat_24 : decode cX6_cat 24 = .ok (.getfield 31, 3) := by decide +kernel
theorem dX6_cat_27 : decode cX6_cat 27 = .ok (.getfield 142, 3) := by decide +kernel
theorem dX6_cat_30 : decode cX6_cat 30 = .ok (.ifCond .ne 6, 3) := by decide +kernel
theorem dX6_cat_33 : decode cX6_cat 33 = .ok (.bipush (-4), 2) := by decide +kernel
theorem dX6_cat_35 : decode cX6_cat 35 = .ok (.ireturn, 1) := by decide +kernel
theorem dX6_cat_36 : decode cX6_cat 36 = .ok (.iconst 0, 1) := by decide +kernel
theorem dX6_cat_37 : decode cX6_cat 37 = .ok (.istore_n 3, 1) := by decide +kernel
theorem dX6_cat_38 : decode cX6_cat 38 = .ok (.iconst 0, 1) := by decide +kernel
theorem dX6_cat_39 : decode cX6_cat 39 = .ok (.istore 4, 2) := by decide +kernel
theorem dX6_cat_41 : decode cX6_cat 41 = .ok (.iload 4, 2) := by decide +kernel
theorem dX6_cat_43 : decode cX6_cat 43 = .ok (.aload_n 0, 1) := by decide +kernel
theorem dX6_cat_44 : decode cX6_cat 44 = .ok (.getfield 19, 3) := by decide +kernel
theorem dX6_cat_47 : decode cX6_cat 47 = .ok (.getfield 215, 3) := by decide +kernel
theorem dX6_cat_50 : decode cX6_cat 50 = .ok (.if_icmp .ge 35, 3) := by decide +kernel
theorem dX6_cat_53 : decode cX6_cat 53 = .ok (.aload_n 0, 1) := by decide +kernel
theorem dX6_cat_54 : decode cX6_cat 54 = .ok (.getfield 31, 3) := by decide +kernel
theorem dX6_cat_57 : decode cX6_cat 57 = .ok (.iload 4, 2) := by decide +kernel
theorem dX6_cat_59 : decode cX6_cat 59 = .ok (.aload_n 0, 1) := by decide +kernel
theorem dX6_cat_60 : decode cX6_cat 60 = .ok (.getfield 31, 3) := by decide +kernel
theorem dX6_cat_63 : decode cX6_cat 63 = .ok (.getfield 142, 3) := by decide +kernel
theorem dX6_cat_66 : decode cX6_cat 66 = .ok (.invokevirtual 190, 3) := by decide +kernel
theorem dX6_cat_69 : decode cX6_cat 69 = .ok (.iload_n 1, 1) := by decide +kernel
theorem dX6_cat_70 : decode cX6_cat 70 = .ok (.invokestatic 163, 3) := by decide +kernel
theorem dX6_cat_73 : decode cX6_cat 73 = .ok (.ifCond .eq 6, 3) := by decide +kernel
theorem dX6_cat_76 : decode cX6_cat 76 = .ok (.iinc 3 1, 3) := by decide +kernel
theorem dX6_cat_79 : decode cX6_cat 79 = .ok (.iinc 4 1, 3) := by decide +kernel
theorem dX6_cat_82 : decode cX6_cat 82 = .ok (.goto (-41), 3) := by decide +kernel
theorem dX6_cat_85 : decode cX6_cat 85 = .ok (.iload_n 3, 1) := by decide +kernel
theorem dX6_cat_86 : decode cX6_cat 86 = .ok (.aload_n 0, 1) := by decide +kernel
theorem dX6_cat_87 : decode cX6_cat 87 = .ok (.getfield 31, 3) := by decide +kernel
theorem dX6_cat_90 : decode cX6_cat 90 = .ok (.getfield 142, 3) := by decide +kernel
theorem dX6_cat_93 : decode cX6_cat 93 = .ok (.invokestatic 155, 3) := by decide +kernel
theorem dX6_cat_96 : decode cX6_cat 96 = .ok (.iload_n 2, 1) := by decide +kernel
theorem dX6_cat_97 : decode cX6_cat 97 = .ok (.invokestatic 221, 3) := by decide +kernel
theorem dX6_cat_100 : decode cX6_cat 100 = .ok (.ireturn, 1) := by decide +kernel
theorem dX6_mean_0 : decode cX6_mean 0 = .ok (.iload_n 1, 1) := by decide +kernel
theorem dX6_mean_1 : decode cX6_mean 1 = .ok (.ifCond .lt 8, 3) := by decide +kernel
theorem dX6_mean_4 : decode cX6_mean 4 = .ok (.iload_n 1, 1) := by decide +kernel
theorem dX6_mean_5 : decode cX6_mean 5 = .ok (.iconst 1, 1) := by decide +kernel
theorem dX6_mean_6 : decode cX6_mean 6 = .ok (.if_icmp .le 6, 3) := by decide +kernel
theorem dX6_mean_9 : decode cX6_mean 9 = .ok (.bipush (-3), 2) := by decide +kernel
theorem dX6_mean_11 : decode cX6_mean 11 = .ok (.ireturn, 1) := by decide +kernel
theorem dX6_mean_12 : decode cX6_mean 12 = .ok (.aload_n 0, 1) := by decide +kernel
theorem dX6_mean_13 : decode cX6_mean 13 = .ok (.getfield 31, 3) := by decide +kernel
theorem dX6_mean_16 : decode cX6_mean 16 = .ok (.getfield 142, 3) := by decide +kernel
theorem dX6_mean_19 : decode cX6_mean 19 = .ok (.ifCond .ne 6, 3) := by decide +kernel
theorem dX6_mean_22 : decode cX6_mean 22 = .ok (.bipush (-4), 2) := by decide +kernel
theorem dX6_mean_24 : decode cX6_mean 24 = .ok (.ireturn, 1) := by decide +kernel
theorem dX6_mean_25 : decode cX6_mean 25 = .ok (.iconst 0, 1) := by decide +kernel
theorem dX6_mean_26 : decode cX6_mean 26 = .ok (.istore_n 2, 1) := by decide +kernel
theorem dX6_mean_27 : decode cX6_mean 27 = .ok (.iconst 0, 1) := by decide +kernel
theorem dX6_mean_28 : decode cX6_mean 28 = .ok (.istore_n 3, 1) := by decide +kernel
theorem dX6_mean_29 : decode cX6_mean 29 = .ok (.iload_n 3, 1) := by decide +kernel
theorem dX6_mean_30 : decode cX6_mean 30 = .ok (.aload_n 0, 1) := by decide +kernel
theorem dX6_mean_31 : decode cX6_mean 31 = .ok (.getfield 19, 3) := by decide +kernel
theorem dX6_mean_34 : decode cX6_mean 34 = .ok (.getfield 215, 3) := by decide +kernel
theorem dX6_mean_37 : decode cX6_mean 37 = .ok (.if_icmp .ge 17, 3) := by decide +kernel
theorem dX6_mean_40 : decode cX6_mean 40 = .ok (.iload_n 2, 1) := by decide +kernel
theorem dX6_mean_41 : decode cX6_mean 41 = .ok (.aload_n 0, 1) := by decide +kernel
theorem dX6_mean_42 : decode cX6_mean 42 = .ok (.iload_n 3, 1) := by decide +kernel
theorem dX6_mean_43 : decode cX6_mean 43 = .ok (.invokevirtual 193, 3) := by decide +kernel
theorem dX6_mean_46 : decode cX6_mean 46 = .ok (.iadd, 1) := by decide +kernel
theorem dX6_mean_47 : decode cX6_mean 47 = .ok (.istore_n 2, 1) := by decide +kernel
theorem dX6_mean_48 : decode cX6_mean 48 = .ok (.iinc 3 1, 3) := by decide +kernel
theorem dX6_mean_51 : decode cX6_mean 51 = .ok (.goto (-22), 3) := by decide +kernel
theorem dX6_mean_54 : decode cX6_mean 54 = .ok (.iload_n 2, 1) := by decide +kernel
theorem dX6_mean_55 : decode cX6_mean 55 = .ok (.aload_n 0, 1) := by decide +kernel
theorem dX6_mean_56 : decode cX6_mean 56 = .ok (.getfield 31, 3) := by decide +kernel
theorem dX6_mean_59 : decode cX6_mean 59 = .ok (.getfield 142, 3) := by decide +kernel
theorem dX6_mean_62 : decode cX6_mean 62 = .ok (.invokestatic 155, 3) := by decide +kernel
theorem dX6_mean_65 : decode cX6_mean 65 = .ok (.iload_n 1, 1) := by decide +kernel
theorem dX6_mean_66 : decode cX6_mean 66 = .ok (.invokestatic 221, 3) := by decide +kernel
theorem dX6_mean_69 : decode cX6_mean 69 = .ok (.ireturn, 1) := by decide +kernel
theorem dX6_whose_0 : decode cX6_whose 0 = .ok (.iload_n 1, 1) := by decide +kernel
theorem dX6_whose_1 : decode cX6_whose 1 = .ok (.aload_n 0, 1) := by decide +kernel
theorem dX6_whose_2 : decode cX6_whose 2 = .ok (.getfield 19, 3) := by decide +kernel
theorem dX6_whose_5 : decode cX6_whose 5 = .ok (.invokevirtual 225, 3) := by decide +kernel
theorem dX6_whose_8 : decode cX6_whose 8 = .ok (.iconst (-1), 1) := by decide +kernel
theorem dX6_whose_9 : decode cX6_whose 9 = .ok (.ixor, 1) := by decide +kernel
theorem dX6_whose_10 : decode cX6_whose 10 = .ok (.iand, 1) := by decide +kernel
theorem dX6_whose_11 : decode cX6_whose 11 = .ok (.ifCond .eq 6, 3) := by decide +kernel
theorem dX6_whose_14 : decode cX6_whose 14 = .ok (.bipush (-2), 2) := by decide +kernel
theorem dX6_whose_16 : decode cX6_whose 16 = .ok (.ireturn, 1) := by decide +kernel
theorem dX6_whose_17 : decode cX6_whose 17 = .ok (.iconst 0, 1) := by decide +kernel
theorem dX6_whose_18 : decode cX6_whose 18 = .ok (.istore_n 2, 1) := by decide +kernel
theorem dX6_whose_19 : decode cX6_whose 19 = .ok (.iconst 0, 1) := by decide +kernel
theorem dX6_whose_20 : decode cX6_whose 20 = .ok (.istore_n 3, 1) := by decide +kernel
theorem dX6_whose_21 : decode cX6_whose 21 = .ok (.iload_n 3, 1) := by decide +kernel
theorem dX6_whose_22 : decode cX6_whose 22 = .ok (.aload_n 0, 1) := by decide +kernel
theorem dX6_whose_23 : decode cX6_whose 23 = .ok (.getfield 19, 3) := by decide +kernel
theorem dX6_whose_26 : decode cX6_whose 26 = .ok (.getfield 215, 3) := by decide +kernel
theorem dX6_whose_29 : decode cX6_whose 29 = .ok (.if_icmp .ge 35, 3) := by decide +kernel
theorem dX6_whose_32 : decode cX6_whose 32 = .ok (.aload_n 0, 1) := by decide +kernel
theorem dX6_whose_33 : decode cX6_whose 33 = .ok (.getfield 31, 3) := by decide +kernel
theorem dX6_whose_36 : decode cX6_whose 36 = .ok (.iload_n 3, 1) := by decide +kernel
theorem dX6_whose_37 : decode cX6_whose 37 = .ok (.aload_n 0, 1) := by decide +kernel
theorem dX6_whose_38 : decode cX6_whose 38 = .ok (.getfield 31, 3) := by decide +kernel
theorem dX6_whose_41 : decode cX6_whose 41 = .ok (.getfield 142, 3) := by decide +kernel
theorem dX6_whose_44 : decode cX6_whose 44 = .ok (.invokevirtual 190, 3) := by decide +kernel
theorem dX6_whose_47 : decode cX6_whose 47 = .ok (.iload_n 1, 1) := by decide +kernel
theorem dX6_whose_48 : decode cX6_whose 48 = .ok (.if_icmp .ne 10, 3) := by decide +kernel
theorem dX6_whose_51 : decode cX6_whose 51 = .ok (.iload_n 2, 1) := by decide +kernel
theorem dX6_whose_52 : decode cX6_whose 52 = .ok (.iload_n 3, 1) := by decide +kernel
theorem dX6_whose_53 : decode cX6_whose 53 = .ok (.invokestatic 170, 3) := by decide +kernel
theorem dX6_whose_56 : decode cX6_whose 56 = .ok (.ior, 1) := by decide +kernel
theorem dX6_whose_57 : decode cX6_whose 57 = .ok (.istore_n 2, 1) := by decide +kernel
theorem dX6_whose_58 : decode cX6_whose 58 = .ok (.iinc 3 1, 3) := by decide +kernel
theorem dX6_whose_61 : decode cX6_whose 61 = .ok (.goto (-40), 3) := by decide +kernel
theorem dX6_whose_64 : decode cX6_whose 64 = .ok (.iload_n 2, 1) := by decide +kernel
theorem dX6_whose_65 : decode cX6_whose 65 = .ok (.ireturn, 1) := by decide +kernel
theorem dX6_fourth_0 : decode cX6_fourth 0 = .ok (.iload_n 1, 1) := by decide +kernel
theorem dX6_fourth_1 : decode cX6_fourth 1 = .ok (.ifCond .lt 8, 3) := by decide +kernel
theorem dX6_fourth_4 : decode cX6_fourth 4 = .ok (.iload_n 1, 1) := by decide +kernel
theorem dX6_fourth_5 : decode cX6_fourth 5 = .ok (.iconst 1, 1) := by decide +kernel
theorem dX6_fourth_6 : decode cX6_fourth 6 = .ok (.if_icmp .le 6, 3) := by decide +kernel
theorem dX6_fourth_9 : decode cX6_fourth 9 = .ok (.bipush (-3), 2) := by decide +kernel
theorem dX6_fourth_11 : decode cX6_fourth 11 = .ok (.ireturn, 1) := by decide +kernel
theorem dX6_fourth_12 : decode cX6_fourth 12 = .ok (.iconst (-1), 1) := by decide +kernel
theorem dX6_fourth_13 : decode cX6_fourth 13 = .ok (.istore_n 2, 1) := by decide +kernel
theorem dX6_fourth_14 : decode cX6_fourth 14 = .ok (.iconst (-1), 1) := by decide +kernel
theorem dX6_fourth_15 : decode cX6_fourth 15 = .ok (.istore_n 3, 1) := by decide +kernel
theorem dX6_fourth_16 : decode cX6_fourth 16 = .ok (.iconst 0, 1) := by decide +kernel
theorem dX6_fourth_17 : decode cX6_fourth 17 = .ok (.istore 4, 2) := by decide +kernel
theorem dX6_fourth_19 : decode cX6_fourth 19 = .ok (.iload 4, 2) := by decide +kernel
theorem dX6_fourth_21 : decode cX6_fourth 21 = .ok (.aload_n 0, 1) := by decide +kernel
theorem dX6_fourth_22 : decode cX6_fourth 22 = .ok (.getfield 19, 3) := by decide +kernel
theorem dX6_fourth_25 : decode cX6_fourth 25 = .ok (.getfield 215, 3) := by decide +kernel
theorem dX6_fourth_28 : decode cX6_fourth 28 = .ok (.if_icmp .ge 53, 3) := by decide +kernel
theorem dX6_fourth_31 : decode cX6_fourth 31 = .ok (.aload_n 0, 1) := by decide +kernel
theorem dX6_fourth_32 : decode cX6_fourth 32 = .ok (.getfield 31, 3) := by decide +kernel
theorem dX6_fourth_35 : decode cX6_fourth 35 = .ok (.iload 4, 2) := by decide +kernel
theorem dX6_fourth_37 : decode cX6_fourth 37 = .ok (.aload_n 0, 1) := by decide +kernel
theorem dX6_fourth_38 : decode cX6_fourth 38 = .ok (.getfield 31, 3) := by decide +kernel
theorem dX6_fourth_41 : decode cX6_fourth 41 = .ok (.getfield 142, 3) := by decide +kernel
theorem dX6_fourth_44 : decode cX6_fourth 44 = .ok (.invokevirtual 190, 3) := by decide +kernel
theorem dX6_fourth_47 : decode cX6_fourth 47 = .ok (.ifCond .eq 28, 3) := by decide +kernel
theorem dX6_fourth_50 : decode cX6_fourth 50 = .ok (.iload_n 2, 1) := by decide +kernel
theorem dX6_fourth_51 : decode cX6_fourth 51 = .ok (.iconst (-1), 1) := by decide +kernel
theorem dX6_fourth_52 : decode cX6_fourth 52 = .ok (.if_icmp .eq 13, 3) := by decide +kernel
theorem dX6_fourth_55 : decode cX6_fourth 55 = .ok (.aload_n 0, 1) := by decide +kernel
theorem dX6_fourth_56 : decode cX6_fourth 56 = .ok (.iload 4, 2) := by decide +kernel
theorem dX6_fourth_58 : decode cX6_fourth 58 = .ok (.invokevirtual 193, 3) := by decide +kernel
theorem dX6_fourth_61 : decode cX6_fourth 61 = .ok (.iload_n 3, 1) := by decide +kernel
theorem dX6_fourth_62 : decode cX6_fourth 62 = .ok (.if_icmp .ge 13, 3) := by decide +kernel
theorem dX6_fourth_65 : decode cX6_fourth 65 = .ok (.iload 4, 2) := by decide +kernel
theorem dX6_fourth_67 : decode cX6_fourth 67 = .ok (.istore_n 2, 1) := by decide +kernel
theorem dX6_fourth_68 : decode cX6_fourth 68 = .ok (.aload_n 0, 1) := by decide +kernel
theorem dX6_fourth_69 : decode cX6_fourth 69 = .ok (.iload 4, 2) := by decide +kernel
theorem dX6_fourth_71 : decode cX6_fourth 71 = .ok (.invokevirtual 193, 3) := by decide +kernel
theorem dX6_fourth_74 : decode cX6_fourth 74 = .ok (.istore_n 3, 1) := by decide +kernel
theorem dX6_fourth_75 : decode cX6_fourth 75 = .ok (.iinc 4 1, 3) := by decide +kernel
theorem dX6_fourth_78 : decode cX6_fourth 78 = .ok (.goto (-59), 3) := by decide +kernel
theorem dX6_fourth_81 : decode cX6_fourth 81 = .ok (.iload_n 1, 1) := by decide +kernel
theorem dX6_fourth_82 : decode cX6_fourth 82 = .ok (.ifCond .ne 7, 3) := by decide +kernel
theorem dX6_fourth_85 : decode cX6_fourth 85 = .ok (.iload_n 2, 1) := by decide +kernel
theorem dX6_fourth_86 : decode cX6_fourth 86 = .ok (.goto 4, 3) := by decide +kernel
theorem dX6_fourth_89 : decode cX6_fourth 89 = .ok (.iload_n 3, 1) := by decide +kernel
theorem dX6_fourth_90 : decode cX6_fourth 90 = .ok (.ireturn, 1) := by decide +kernel
theorem dX6_count_0 : decode cX6_count 0 = .ok (.iload_n 1, 1) := by decide +kernel
theorem dX6_count_1 : decode cX6_count 1 = .ok (.tableswitch 131 0 8 #[51, 59, 67, 75, 83, 91, 104, 115, 123], 51) := by decide +kernel
theorem dX6_count_52 : decode cX6_count 52 = .ok (.aload_n 0, 1) := by decide +kernel
theorem dX6_count_53 : decode cX6_count 53 = .ok (.getfield 19, 3) := by decide +kernel
theorem dX6_count_56 : decode cX6_count 56 = .ok (.getfield 215, 3) := by decide +kernel
theorem dX6_count_59 : decode cX6_count 59 = .ok (.ireturn, 1) := by decide +kernel
theorem dX6_count_60 : decode cX6_count 60 = .ok (.aload_n 0, 1) := by decide +kernel
theorem dX6_count_61 : decode cX6_count 61 = .ok (.getfield 19, 3) := by decide +kernel
theorem dX6_count_64 : decode cX6_count 64 = .ok (.getfield 133, 3) := by decide +kernel
theorem dX6_count_67 : decode cX6_count 67 = .ok (.ireturn, 1) := by decide +kernel
theorem dX6_count_68 : decode cX6_count 68 = .ok (.aload_n 0, 1) := by decide +kernel
theorem dX6_count_69 : decode cX6_count 69 = .ok (.getfield 31, 3) := by decide +kernel
theorem dX6_count_72 : decode cX6_count 72 = .ok (.getfield 126, 3) := by decide +kernel
theorem dX6_count_75 : decode cX6_count 75 = .ok (.ireturn, 1) := by decide +kernel
theorem dX6_count_76 : decode cX6_count 76 = .ok (.aload_n 0, 1) := by decide +kernel
theorem dX6_count_77 : decode cX6_count 77 = .ok (.getfield 31, 3) := by decide +kernel
theorem dX6_count_80 : decode cX6_count 80 = .ok (.getfield 142, 3) := by decide +kernel
theorem dX6_count_83 : decode cX6_count 83 = .ok (.ireturn, 1) := by decide +kernel
theorem dX6_count_84 : decode cX6_count 84 = .ok (.aload_n 0, 1) := by decide +kernel
theorem dX6_count_85 : decode cX6_count 85 = .ok (.getfield 31, 3) := by decide +kernel
theorem dX6_count_88 : decode cX6_count 88 = .ok (.getfield 179, 3) := by decide +kernel
theorem dX6_count_91 : decode cX6_count 91 = .ok (.ireturn, 1) := by decide +kernel
theorem dX6_count_92 : decode cX6_count 92 = .ok (.aload_n 0, 1) := by decide +kernel
theorem dX6_count_93 : decode cX6_count 93 = .ok (.getfield 31, 3) := by decide +kernel
theorem dX6_count_96 : decode cX6_count 96 = .ok (.getfield 113, 3) := by decide +kernel
theorem dX6_count_99 : decode cX6_count 99 = .ok (.invokestatic 229, 3) := by decide +kernel
theorem dX6_count_102 : decode cX6_count 102 = .ok (.iconst 2, 1) := by decide +kernel
theorem dX6_count_103 : decode cX6_count 103 = .ok (.idiv, 1) := by decide +kernel
theorem dX6_count_104 : decode cX6_count 104 = .ok (.ireturn, 1) := by decide +kernel
theorem dX6_count_105 : decode cX6_count 105 = .ok (.aload_n 0, 1) := by decide +kernel
theorem dX6_count_106 : decode cX6_count 106 = .ok (.getfield 31, 3) := by decide +kernel
theorem dX6_count_109 : decode cX6_count 109 = .ok (.getfield 110, 3) := by decide +kernel
theorem dX6_count_112 : decode cX6_count 112 = .ok (.invokestatic 229, 3) := by decide +kernel
theorem dX6_count_115 : decode cX6_count 115 = .ok (.ireturn, 1) := by decide +kernel
theorem dX6_count_116 : decode cX6_count 116 = .ok (.aload_n 0, 1) := by decide +kernel
theorem dX6_count_117 : decode cX6_count 117 = .ok (.getfield 41, 3) := by decide +kernel
theorem dX6_count_120 : decode cX6_count 120 = .ok (.getfield 86, 3) := by decide +kernel
theorem dX6_count_123 : decode cX6_count 123 = .ok (.ireturn, 1) := by decide +kernel
theorem dX6_count_124 : decode cX6_count 124 = .ok (.aload_n 0, 1) := by decide +kernel
theorem dX6_count_125 : decode cX6_count 125 = .ok (.getfield 12, 3) := by decide +kernel
theorem dX6_count_128 : decode cX6_count 128 = .ok (.getfield 69, 3) := by decide +kernel
theorem dX6_count_131 : decode cX6_count 131 = .ok (.ireturn, 1) := by decide +kernel
theorem dX6_count_132 : decode cX6_count 132 = .ok (.bipush (-3), 2) := by decide +kernel
theorem dX6_count_134 : decode cX6_count 134 = .ok (.ireturn, 1) := by decide +kernel
theorem dX6_known_0 : decode cX6_known 0 = .ok (.iload_n 1, 1) := by decide +kernel
theorem dX6_known_1 : decode cX6_known 1 = .ok (.ifCond .lt 18, 3) := by decide +kernel
theorem dX6_known_4 : decode cX6_known 4 = .ok (.iload_n 1, 1) := by decide +kernel
theorem dX6_known_5 : decode cX6_known 5 = .ok (.aload_n 0, 1) := by decide +kernel
theorem dX6_known_6 : decode cX6_known 6 = .ok (.getfield 19, 3) := by decide +kernel
theorem dX6_known_9 : decode cX6_known 9 = .ok (.getfield 215, 3) := by decide +kernel
theorem dX6_known_12 : decode cX6_known 12 = .ok (.if_icmp .ge 7, 3) := by decide +kernel
theorem dX6_known_15 : decode cX6_known 15 = .ok (.iconst 1, 1) := by decide +kernel
theorem dX6_known_16 : decode cX6_known 16 = .ok (.goto 4, 3) := by decide +kernel
theorem dX6_known_19 : decode cX6_known 19 = .ok (.iconst 0, 1) := by decide +kernel
theorem dX6_known_20 : decode cX6_known 20 = .ok (.ireturn, 1) := by decide +kernel
theorem dX6_knownPair_0 : decode cX6_knownPair 0 = .ok (.aload_n 0, 1) := by decide +kernel
theorem dX6_knownPair_1 : decode cX6_knownPair 1 = .ok (.iload_n 1, 1) := by decide +kernel
theorem dX6_knownPair_2 : decode cX6_knownPair 2 = .ok (.invokevirtual 92, 3) := by decide +kernel
theorem dX6_knownPair_5 : decode cX6_knownPair 5 = .ok (.ifCond .eq 20, 3) := by decide +kernel
theorem dX6_knownPair_8 : decode cX6_knownPair 8 = .ok (.aload_n 0, 1) := by decide +kernel
theorem dX6_knownPair_9 : decode cX6_knownPair 9 = .ok (.iload_n 2, 1) := by decide +kernel
theorem dX6_knownPair_10 : decode cX6_knownPair 10 = .ok (.invokevirtual 92, 3) := by decide +kernel
theorem dX6_knownPair_13 : decode cX6_knownPair 13 = .ok (.ifCond .eq 12, 3) := by decide +kernel
theorem dX6_knownPair_16 : decode cX6_knownPair 16 = .ok (.iload_n 1, 1) := by decide +kernel
theorem dX6_knownPair_17 : decode cX6_knownPair 17 = .ok (.iload_n 2, 1) := by decide +kernel
theorem dX6_knownPair_18 : decode cX6_knownPair 18 = .ok (.if_icmp .eq 7, 3) := by decide +kernel
theorem dX6_knownPair_21 : decode cX6_knownPair 21 = .ok (.iconst 1, 1) := by decide +kernel
theorem dX6_knownPair_22 : decode cX6_knownPair 22 = .ok (.goto 4, 3) := by decide +kernel
theorem dX6_knownPair_25 : decode cX6_knownPair 25 = .ok (.iconst 0, 1) := by decide +kernel
theorem dX6_knownPair_26 : decode cX6_knownPair 26 = .ok (.ireturn, 1) := by decide +kernel
theorem dX6_lossAt_0 : decode cX6_lossAt 0 = .ok (.aload_n 0, 1) := by decide +kernel
theorem dX6_lossAt_1 : decode cX6_lossAt 1 = .ok (.getfield 19, 3) := by decide +kernel
theorem dX6_lossAt_4 : decode cX6_lossAt 4 = .ok (.aload_n 0, 1) := by decide +kernel
theorem dX6_lossAt_5 : decode cX6_lossAt 5 = .ok (.getfield 31, 3) := by decide +kernel
theorem dX6_lossAt_8 : decode cX6_lossAt 8 = .ok (.iload_n 1, 1) := by decide +kernel
theorem dX6_lossAt_9 : decode cX6_lossAt 9 = .ok (.aload_n 0, 1) := by decide +kernel
theorem dX6_lossAt_10 : decode cX6_lossAt 10 = .ok (.getfield 31, 3) := by decide +kernel
theorem dX6_lossAt_13 : decode cX6_lossAt 13 = .ok (.getfield 142, 3) := by decide +kernel
theorem dX6_lossAt_16 : decode cX6_lossAt 16 = .ok (.invokevirtual 190, 3) := by decide +kernel
theorem dX6_lossAt_19 : decode cX6_lossAt 19 = .ok (.aload_n 0, 1) := by decide +kernel
theorem dX6_lossAt_20 : decode cX6_lossAt 20 = .ok (.getfield 31, 3) := by decide +kernel
theorem dX6_lossAt_23 : decode cX6_lossAt 23 = .ok (.getfield 126, 3) := by decide +kernel
theorem dX6_lossAt_26 : decode cX6_lossAt 26 = .ok (.invokevirtual 233, 3) := by decide +kernel
theorem dX6_lossAt_29 : decode cX6_lossAt 29 = .ok (.ireturn, 1) := by decide +kernel
theorem dX6_bit_0 : decode cX6_bit 0 = .ok (.iconst 1, 1) := by decide +kernel
theorem dX6_bit_1 : decode cX6_bit 1 = .ok (.iload_n 0, 1) := by decide +kernel
theorem dX6_bit_2 : decode cX6_bit 2 = .ok (.ishl, 1) := by decide +kernel
theorem dX6_bit_3 : decode cX6_bit 3 = .ok (.ireturn, 1) := by decide +kernel
theorem dX6_has_0 : decode cX6_has 0 = .ok (.iload_n 0, 1) := by decide +kernel
theorem dX6_has_1 : decode cX6_has 1 = .ok (.iload_n 1, 1) := by decide +kernel
theorem dX6_has_2 : decode cX6_has 2 = .ok (.ishr, 1) := by decide +kernel
theorem dX6_has_3 : decode cX6_has 3 = .ok (.iconst 1, 1) := by decide +kernel
theorem dX6_has_4 : decode cX6_has 4 = .ok (.iand, 1) := by decide +kernel
theorem dX6_has_5 : decode cX6_has 5 = .ok (.ifCond .eq 7, 3) := by decide +kernel
theorem dX6_has_8 : decode cX6_has 8 = .ok (.iconst 1, 1) := by decide +kernel
theorem dX6_has_9 : decode cX6_has 9 = .ok (.goto 4, 3) := by decide +kernel
theorem dX6_has_12 : decode cX6_has 12 = .ok (.iconst 0, 1) := by decide +kernel
theorem dX6_has_13 : decode cX6_has 13 = .ok (.ireturn, 1) := by decide +kernel
theorem dX6_bitsIn_0 : decode cX6_bitsIn 0 = .ok (.iconst 0, 1) := by decide +kernel
theorem dX6_bitsIn_1 : decode cX6_bitsIn 1 = .ok (.istore_n 1, 1) := by decide +kernel
theorem dX6_bitsIn_2 : decode cX6_bitsIn 2 = .ok (.aload_n 0, 1) := by decide +kernel
theorem dX6_bitsIn_3 : decode cX6_bitsIn 3 = .ok (.astore_n 2, 1) := by decide +kernel
theorem dX6_bitsIn_4 : decode cX6_bitsIn 4 = .ok (.aload_n 2, 1) := by decide +kernel
theorem dX6_bitsIn_5 : decode cX6_bitsIn 5 = .ok (.arraylength, 1) := by decide +kernel
theorem dX6_bitsIn_6 : decode cX6_bitsIn 6 = .ok (.istore_n 3, 1) := by decide +kernel
theorem dX6_bitsIn_7 : decode cX6_bitsIn 7 = .ok (.iconst 0, 1) := by decide +kernel
theorem dX6_bitsIn_8 : decode cX6_bitsIn 8 = .ok (.istore 4, 2) := by decide +kernel
theorem dX6_bitsIn_10 : decode cX6_bitsIn 10 = .ok (.iload 4, 2) := by decide +kernel
theorem dX6_bitsIn_12 : decode cX6_bitsIn 12 = .ok (.iload_n 3, 1) := by decide +kernel
theorem dX6_bitsIn_13 : decode cX6_bitsIn 13 = .ok (.if_icmp .ge 23, 3) := by decide +kernel
theorem dX6_bitsIn_16 : decode cX6_bitsIn 16 = .ok (.aload_n 2, 1) := by decide +kernel
theorem dX6_bitsIn_17 : decode cX6_bitsIn 17 = .ok (.iload 4, 2) := by decide +kernel
theorem dX6_bitsIn_19 : decode cX6_bitsIn 19 = .ok (.iaload, 1) := by decide +kernel
theorem dX6_bitsIn_20 : decode cX6_bitsIn 20 = .ok (.istore 5, 2) := by decide +kernel
theorem dX6_bitsIn_22 : decode cX6_bitsIn 22 = .ok (.iload_n 1, 1) := by decide +kernel
theorem dX6_bitsIn_23 : decode cX6_bitsIn 23 = .ok (.iload 5, 2) := by decide +kernel
theorem dX6_bitsIn_25 : decode cX6_bitsIn 25 = .ok (.invokestatic 155, 3) := by decide +kernel
theorem dX6_bitsIn_28 : decode cX6_bitsIn 28 = .ok (.iadd, 1) := by decide +kernel
theorem dX6_bitsIn_29 : decode cX6_bitsIn 29 = .ok (.istore_n 1, 1) := by decide +kernel
theorem dX6_bitsIn_30 : decode cX6_bitsIn 30 = .ok (.iinc 4 1, 3) := by decide +kernel
theorem dX6_bitsIn_33 : decode cX6_bitsIn 33 = .ok (.goto (-23), 3) := by decide +kernel
theorem dX6_bitsIn_36 : decode cX6_bitsIn 36 = .ok (.iload_n 1, 1) := by decide +kernel
theorem dX6_bitsIn_37 : decode cX6_bitsIn 37 = .ok (.ireturn, 1) := by decide +kernel
theorem dX6_lowest_0 : decode cX6_lowest 0 = .ok (.iload_n 1, 1) := by decide +kernel
theorem dX6_lowest_1 : decode cX6_lowest 1 = .ok (.istore_n 3, 1) := by decide +kernel
theorem dX6_lowest_2 : decode cX6_lowest 2 = .ok (.iload_n 3, 1) := by decide +kernel
theorem dX6_lowest_3 : decode cX6_lowest 3 = .ok (.iconst 1, 1) := by decide +kernel
theorem dX6_lowest_4 : decode cX6_lowest 4 = .ok (.if_icmp .le 35, 3) := by decide +kernel
theorem dX6_lowest_7 : decode cX6_lowest 7 = .ok (.iload_n 0, 1) := by decide +kernel
theorem dX6_lowest_8 : decode cX6_lowest 8 = .ok (.iload_n 3, 1) := by decide +kernel
theorem dX6_lowest_9 : decode cX6_lowest 9 = .ok (.irem, 1) := by decide +kernel
theorem dX6_lowest_10 : decode cX6_lowest 10 = .ok (.ifCond .ne 23, 3) := by decide +kernel
theorem dX6_lowest_13 : decode cX6_lowest 13 = .ok (.iload_n 1, 1) := by decide +kernel
theorem dX6_lowest_14 : decode cX6_lowest 14 = .ok (.iload_n 3, 1) := by decide +kernel
theorem dX6_lowest_15 : decode cX6_lowest 15 = .ok (.irem, 1) := by decide +kernel
theorem dX6_lowest_16 : decode cX6_lowest 16 = .ok (.ifCond .ne 17, 3) := by decide +kernel
theorem dX6_lowest_19 : decode cX6_lowest 19 = .ok (.iload_n 2, 1) := by decide +kernel
theorem dX6_lowest_20 : decode cX6_lowest 20 = .ok (.ifCond .ne 9, 3) := by decide +kernel
theorem dX6_lowest_23 : decode cX6_lowest 23 = .ok (.iload_n 0, 1) := by decide +kernel
theorem dX6_lowest_24 : decode cX6_lowest 24 = .ok (.iload_n 3, 1) := by decide +kernel
theorem dX6_lowest_25 : decode cX6_lowest 25 = .ok (.idiv, 1) := by decide +kernel
theorem dX6_lowest_26 : decode cX6_lowest 26 = .ok (.goto 6, 3) := by decide +kernel
theorem dX6_lowest_29 : decode cX6_lowest 29 = .ok (.iload_n 1, 1) := by decide +kernel
theorem dX6_lowest_30 : decode cX6_lowest 30 = .ok (.iload_n 3, 1) := by decide +kernel
theorem dX6_lowest_31 : decode cX6_lowest 31 = .ok (.idiv, 1) := by decide +kernel
theorem dX6_lowest_32 : decode cX6_lowest 32 = .ok (.ireturn, 1) := by decide +kernel
theorem dX6_lowest_33 : decode cX6_lowest 33 = .ok (.iinc 3 (-1), 3) := by decide +kernel
theorem dX6_lowest_36 : decode cX6_lowest 36 = .ok (.goto (-34), 3) := by decide +kernel
theorem dX6_lowest_39 : decode cX6_lowest 39 = .ok (.iload_n 2, 1) := by decide +kernel
theorem dX6_lowest_40 : decode cX6_lowest 40 = .ok (.ifCond .ne 7, 3) := by decide +kernel
theorem dX6_lowest_43 : decode cX6_lowest 43 = .ok (.iload_n 0, 1) := by decide +kernel
theorem dX6_lowest_44 : decode cX6_lowest 44 = .ok (.goto 4, 3) := by decide +kernel
theorem dX6_lowest_47 : decode cX6_lowest 47 = .ok (.iload_n 1, 1) := by decide +kernel
theorem dX6_lowest_48 : decode cX6_lowest 48 = .ok (.ireturn, 1) := by decide +kernel
theorem dX6_spread_0 : decode cX6_spread 0 = .ok (.iload_n 1, 1) := by decide +kernel
theorem dX6_spread_1 : decode cX6_spread 1 = .ok (.istore_n 3, 1) := by decide +kernel
theorem dX6_spread_2 : decode cX6_spread 2 = .ok (.iconst 0, 1) := by decide +kernel
theorem dX6_spread_3 : decode cX6_spread 3 = .ok (.istore 4, 2) := by decide +kernel
theorem dX6_spread_5 : decode cX6_spread 5 = .ok (.iload 4, 2) := by decide +kernel
theorem dX6_spread_7 : decode cX6_spread 7 = .ok (.bipush 8, 2) := by decide +kernel
theorem dX6_spread_9 : decode cX6_spread 9 = .ok (.if_icmp .ge 59, 3) := by decide +kernel
theorem dX6_spread_12 : decode cX6_spread 12 = .ok (.iload_n 3, 1) := by decide +kernel
theorem dX6_spread_13 : decode cX6_spread 13 = .ok (.istore 5, 2) := by decide +kernel
theorem dX6_spread_15 : decode cX6_spread 15 = .ok (.iconst 0, 1) := by decide +kernel
theorem dX6_spread_16 : decode cX6_spread 16 = .ok (.istore 6, 2) := by decide +kernel
theorem dX6_spread_18 : decode cX6_spread 18 = .ok (.iload 6, 2) := by decide +kernel
theorem dX6_spread_20 : decode cX6_spread 20 = .ok (.bipush 8, 2) := by decide +kernel
theorem dX6_spread_22 : decode cX6_spread 22 = .ok (.if_icmp .ge 29, 3) := by decide +kernel
theorem dX6_spread_25 : decode cX6_spread 25 = .ok (.iload_n 3, 1) := by decide +kernel
theorem dX6_spread_26 : decode cX6_spread 26 = .ok (.iload 6, 2) := by decide +kernel
theorem dX6_spread_28 : decode cX6_spread 28 = .ok (.invokestatic 163, 3) := by decide +kernel
theorem dX6_spread_31 : decode cX6_spread 31 = .ok (.ifCond .eq 14, 3) := by decide +kernel
theorem dX6_spread_34 : decode cX6_spread 34 = .ok (.iload 5, 2) := by decide +kernel
theorem dX6_spread_36 : decode cX6_spread 36 = .ok (.aload_n 0, 1) := by decide +kernel
theorem dX6_spread_37 : decode cX6_spread 37 = .ok (.iload 6, 2) := by decide +kernel
theorem dX6_spread_39 : decode cX6_spread 39 = .ok (.iaload, 1) := by decide +kernel
theorem dX6_spread_40 : decode cX6_spread 40 = .ok (.iload_n 2, 1) := by decide +kernel
theorem dX6_spread_41 : decode cX6_spread 41 = .ok (.iand, 1) := by decide +kernel
theorem dX6_spread_42 : decode cX6_spread 42 = .ok (.ior, 1) := by decide +kernel
theorem dX6_spread_43 : decode cX6_spread 43 = .ok (.istore 5, 2) := by decide +kernel
theorem dX6_spread_45 : decode cX6_spread 45 = .ok (.iinc 6 1, 3) := by decide +kernel
theorem dX6_spread_48 : decode cX6_spread 48 = .ok (.goto (-30), 3) := by decide +kernel
theorem dX6_spread_51 : decode cX6_spread 51 = .ok (.iload 5, 2) := by decide +kernel
theorem dX6_spread_53 : decode cX6_spread 53 = .ok (.iload_n 3, 1) := by decide +kernel
theorem dX6_spread_54 : decode cX6_spread 54 = .ok (.if_icmp .ne 5, 3) := by decide +kernel
theorem dX6_spread_57 : decode cX6_spread 57 = .ok (.iload_n 3, 1) := by decide +kernel
theorem dX6_spread_58 : decode cX6_spread 58 = .ok (.ireturn, 1) := by decide +kernel
theorem dX6_spread_59 : decode cX6_spread 59 = .ok (.iload 5, 2) := by decide +kernel
theorem dX6_spread_61 : decode cX6_spread 61 = .ok (.istore_n 3, 1) := by decide +kernel
theorem dX6_spread_62 : decode cX6_spread 62 = .ok (.iinc 4 1, 3) := by decide +kernel
theorem dX6_spread_65 : decode cX6_spread 65 = .ok (.goto (-60), 3) := by decide +kernel
theorem dX6_spread_68 : decode cX6_spread 68 = .ok (.iload_n 3, 1) := by decide +kernel
theorem dX6_spread_69 : decode cX6_spread 69 = .ok (.ireturn, 1) := by decide +kernel
theorem dX6_makesRing_0 : decode cX6_makesRing 0 = .ok (.aload_n 0, 1) := by decide +kernel
theorem dX6_makesRing_1 : decode cX6_makesRing 1 = .ok (.iload_n 1, 1) := by decide +kernel
theorem dX6_makesRing_2 : decode cX6_makesRing 2 = .ok (.invokestatic 170, 3) := by decide +kernel
theorem dX6_makesRing_5 : decode cX6_makesRing 5 = .ok (.iconst (-1), 1) := by decide +kernel
theorem dX6_makesRing_6 : decode cX6_makesRing 6 = .ok (.invokestatic 236, 3) := by decide +kernel
theorem dX6_makesRing_9 : decode cX6_makesRing 9 = .ok (.iload_n 2, 1) := by decide +kernel
theorem dX6_makesRing_10 : decode cX6_makesRing 10 = .ok (.invokestatic 163, 3) := by decide +kernel
theorem dX6_makesRing_13 : decode cX6_makesRing 13 = .ok (.ireturn, 1) := by decide +kernel
theorem dL_law_0 : decode cL_law 0 = .ok (.new 7, 3) := by decide +kernel
theorem dL_law_3 : decode cL_law 3 = .ok (.dup, 1) := by decide +kernel
theorem dL_law_4 : decode cL_law 4 = .ok (.invokespecial 9, 3) := by decide +kernel
theorem dL_law_7 : decode cL_law 7 = .ok (.astore_n 1, 1) := by decide +kernel
theorem dL_law_8 : decode cL_law 8 = .ok (.new 10, 3) := by decide +kernel
theorem dL_law_11 : decode cL_law 11 = .ok (.dup, 1) := by decide +kernel
theorem dL_law_12 : decode cL_law 12 = .ok (.invokespecial 12, 3) := by decide +kernel
theorem dL_law_15 : decode cL_law 15 = .ok (.astore_n 2, 1) := by decide +kernel
theorem dL_law_16 : decode cL_law 16 = .ok (.iconst 0, 1) := by decide +kernel
theorem dL_law_17 : decode cL_law 17 = .ok (.istore_n 3, 1) := by decide +kernel
theorem dL_law_18 : decode cL_law 18 = .ok (.iload_n 3, 1) := by decide +kernel
theorem dL_law_19 : decode cL_law 19 = .ok (.aload_n 0, 1) := by decide +kernel
theorem dL_law_20 : decode cL_law 20 = .ok (.arraylength, 1) := by decide +kernel
theorem dL_law_21 : decode cL_law 21 = .ok (.iconst 4, 1) := by decide +kernel
theorem dL_law_22 : decode cL_law 22 = .ok (.isub, 1) := by decide +kernel
theorem dL_law_23 : decode cL_law 23 = .ok (.if_icmp .gt 884, 3) := by decide +kernel
theorem dL_law_26 : decode cL_law 26 = .ok (.aload_n 0, 1) := by decide +kernel
theorem dL_law_27 : decode cL_law 27 = .ok (.iload_n 3, 1) := by decide +kernel
theorem dL_law_28 : decode cL_law 28 = .ok (.iaload, 1) := by decide +kernel
theorem dL_law_29 : decode cL_law 29 = .ok (.bipush 31, 2) := by decide +kernel
theorem dL_law_31 : decode cL_law 31 = .ok (.iand, 1) := by decide +kernel
theorem dL_law_32 : decode cL_law 32 = .ok (.tableswitch 869 0 28 #[132, 155, 168, 181, 194, 227, 260, 293, 316, 339, 372, 395, 438, 471, 494, 507, 530, 553, 576, 599, 632, 655, 678, 701, 744, 777, 800, 823, 846], 132) := by decide +kernel
theorem dL_law_164 : decode cL_law 164 = .ok (.aload_n 1, 1) := by decide +kernel
theorem dL_law_165 : decode cL_law 165 = .ok (.aload_n 0, 1) := by decide +kernel
theorem dL_law_166 : decode cL_law 166 = .ok (.iload_n 3, 1) := by decide +kernel
theorem dL_law_167 : decode cL_law 167 = .ok (.iconst 1, 1) := by decide +kernel
theorem dL_law_168 : decode cL_law 168 = .ok (.iadd, 1) := by decide +kernel
theorem dL_law_169 : decode cL_law 169 = .ok (.iaload, 1) := by decide +kernel
theorem dL_law_170 : decode cL_law 170 = .ok (.invokevirtual 13, 3) := by decide +kernel
theorem dL_law_173 : decode cL_law 173 = .ok (.aload_n 2, 1) := by decide +kernel
theorem dL_law_174 : decode cL_law 174 = .ok (.aload_n 0, 1) := by decide +kernel
theorem dL_law_175 : decode cL_law 175 = .ok (.iload_n 3, 1) := by decide +kernel
theorem dL_law_176 : decode cL_law 176 = .ok (.iconst 1, 1) := by decide +kernel
theorem dL_law_177 : decode cL_law 177 = .ok (.iadd, 1) := by decide +kernel
theorem dL_law_178 : decode cL_law 178 = .ok (.iaload, 1) := by decide +kernel
theorem dL_law_179 : decode cL_law 179 = .ok (.invokevirtual 17, 3) := by decide +kernel
theorem dL_law_182 : decode cL_law 182 = .ok (.if_icmp .eq 719, 3) := by decide +kernel
theorem dL_law_185 : decode cL_law 185 = .ok (.iconst 0, 1) := by decide +kernel
theorem dL_law_186 : decode cL_law 186 = .ok (.ireturn, 1) := by decide +kernel
theorem dL_law_187 : decode cL_law 187 = .ok (.aload_n 1, 1) := by decide +kernel
theorem dL_law_188 : decode cL_law 188 = .ok (.invokevirtual 18, 3) := by decide +kernel
theorem dL_law_191 : decode cL_law 191 = .ok (.aload_n 2, 1) := by decide +kernel
theorem dL_law_192 : decode cL_law 192 = .ok (.invokevirtual 22, 3) := by decide +kernel
theorem dL_law_195 : decode cL_law 195 = .ok (.if_icmp .eq 706, 3) := by decide +kernel
theorem dL_law_198 : decode cL_law 198 = .ok (.iconst 0, 1) := by decide +kernel
theorem dL_law_199 : decode cL_law 199 = .ok (.ireturn, 1) := by decide +kernel
theorem dL_law_200 : decode cL_law 200 = .ok (.aload_n 1, 1) := by decide +kernel
theorem dL_law_201 : decode cL_law 201 = .ok (.invokevirtual 23, 3) := by decide +kernel
theorem dL_law_204 : decode cL_law 204 = .ok (.aload_n 2, 1) := by decide +kernel
theorem dL_law_205 : decode cL_law 205 = .ok (.invokevirtual 26, 3) := by decide +kernel
theorem dL_law_208 : decode cL_law 208 = .ok (.if_icmp .eq 693, 3) := by decide +kernel
theorem dL_law_211 : decode cL_law 211 = .ok (.iconst 0, 1) := by decide +kernel
theorem dL_law_212 : decode cL_law 212 = .ok (.ireturn, 1) := by decide +kernel
theorem dL_law_213 : decode cL_law 213 = .ok (.aload_n 1, 1) := by decide +kernel
theorem dL_law_214 : decode cL_law 214 = .ok (.invokevirtual 27, 3) := by decide +kernel
theorem dL_law_217 : decode cL_law 217 = .ok (.aload_n 2, 1) := by decide +kernel
theorem dL_law_218 : decode cL_law 218 = .ok (.invokevirtual 30, 3) := by decide +kernel
theorem dL_law_221 : decode cL_law 221 = .ok (.if_icmp .eq 680, 3) := by decide +kernel
theorem dL_law_224 : decode cL_law 224 = .ok (.iconst 0, 1) := by decide +kernel
theorem dL_law_225 : decode cL_law 225 = .ok (.ireturn, 1) := by decide +kernel
theorem dL_law_226 : decode cL_law 226 = .ok (.aload_n 1, 1) := by decide +kernel
theorem dL_law_227 : decode cL_law 227 = .ok (.aload_n 0, 1) := by decide +kernel
theorem dL_law_228 : decode cL_law 228 = .ok (.iload_n 3, 1) := by decide +kernel
theorem dL_law_229 : decode cL_law 229 = .ok (.iconst 1, 1) := by decide +kernel
theorem dL_law_230 : decode cL_law 230 = .ok (.iadd, 1) := by decide +kernel
theorem dL_law_231 : decode cL_law 231 = .ok (.iaload, 1) := by decide +kernel
theorem dL_law_232 : decode cL_law 232 = .ok (.aload_n 0, 1) := by decide +kernel
theorem dL_law_233 : decode cL_law 233 = .ok (.iload_n 3, 1) := by decide +kernel
theorem dL_law_234 : decode cL_law 234 = .ok (.iconst 2, 1) := by decide +kernel
theorem dL_law_235 : decode cL_law 235 = .ok (.iadd, 1) := by decide +kernel
theorem dL_law_236 : decode cL_law 236 = .ok (.iaload, 1) := by decide +kernel
theorem dL_law_237 : decode cL_law 237 = .ok (.invokevirtual 31, 3) := by decide +kernel
theorem dL_law_240 : decode cL_law 240 = .ok (.aload_n 2, 1) := by decide +kernel
theorem dL_law_241 : decode cL_law 241 = .ok (.aload_n 0, 1) := by decide +kernel
theorem dL_law_242 : decode cL_law 242 = .ok (.iload_n 3, 1) := by decide +kernel
theorem dL_law_243 : decode cL_law 243 = .ok (.iconst 1, 1) := by decide +kernel
theorem dL_law_244 : decode cL_law 244 = .ok (.iadd, 1) := by decide +kernel
theorem dL_law_245 : decode cL_law 245 = .ok (.iaload, 1) := by decide +kernel
theorem dL_law_246 : decode cL_law 246 = .ok (.aload_n 0, 1) := by decide +kernel
theorem dL_law_247 : decode cL_law 247 = .ok (.iload_n 3, 1) := by decide +kernel
theorem dL_law_248 : decode cL_law 248 = .ok (.iconst 2, 1) := by decide +kernel
theorem dL_law_249 : decode cL_law 249 = .ok (.iadd, 1) := by decide +kernel
theorem dL_law_250 : decode cL_law 250 = .ok (.iaload, 1) := by decide +kernel
theorem dL_law_251 : decode cL_law 251 = .ok (.invokevirtual 35, 3) := by decide +kernel
theorem dL_law_254 : decode cL_law 254 = .ok (.if_icmp .eq 647, 3) := by decide +kernel
theorem dL_law_257 : decode cL_law 257 = .ok (.iconst 0, 1) := by decide +kernel
theorem dL_law_258 : decode cL_law 258 = .ok (.ireturn, 1) := by decide +kernel
theorem dL_law_259 : decode cL_law 259 = .ok (.aload_n 1, 1) := by decide +kernel
theorem dL_law_260 : decode cL_law 260 = .ok (.aload_n 0, 1) := by decide +kernel
theorem dL_law_261 : decode cL_law 261 = .ok (.iload_n 3, 1) := by decide +kernel
theorem dL_law_262 : decode cL_law 262 = .ok (.iconst 1, 1) := by decide +kernel
theorem dL_law_263 : decode cL_law 263 = .ok (.iadd, 1) := by decide +kernel
theorem dL_law_264 : decode cL_law 264 = .ok (.iaload, 1) := by decide +kernel
theorem dL_law_265 : decode cL_law 265 = .ok (.aload_n 0, 1) := by decide +kernel
theorem dL_law_266 : decode cL_law 266 = .ok (.iload_n 3, 1) := by decide +kernel
theorem dL_law_267 : decode cL_law 267 = .ok (.iconst 2, 1) := by decide +kernel
theorem dL_law_268 : decode cL_law 268 = .ok (.iadd, 1) := by decide +kernel
theorem dL_law_269 : decode cL_law 269 = .ok (.iaload, 1) := by decide +kernel
theorem dL_law_270 : decode cL_law 270 = .ok (.invokevirtual 36, 3) := by decide +kernel
theorem dL_law_273 : decode cL_law 273 = .ok (.aload_n 2, 1) := by decide +kernel
theorem dL_law_274 : decode cL_law 274 = .ok (.aload_n 0, 1) := by decide +kernel
theorem dL_law_275 : decode cL_law 275 = .ok (.iload_n 3, 1) := by decide +kernel
theorem dL_law_276 : decode cL_law 276 = .ok (.iconst 1, 1) := by decide +kernel
theorem dL_law_277 : decode cL_law 277 = .ok (.iadd, 1) := by decide +kernel
theorem dL_law_278 : decode cL_law 278 = .ok (.iaload, 1) := by decide +kernel
theorem dL_law_279 : decode cL_law 279 = .ok (.aload_n 0, 1) := by decide +kernel
theorem dL_law_280 : decode cL_law 280 = .ok (.iload_n 3, 1) := by decide +kernel
theorem dL_law_281 : decode cL_law 281 = .ok (.iconst 2, 1) := by decide +kernel
theorem dL_law_282 : decode cL_law 282 = .ok (.iadd, 1) := by decide +kernel
theorem dL_law_283 : decode cL_law 283 = .ok (.iaload, 1) := by decide +kernel
theorem dL_law_284 : decode cL_law 284 = .ok (.invokevirtual 39, 3) := by decide +kernel
theorem dL_law_287 : decode cL_law 287 = .ok (.if_icmp .eq 614, 3) := by decide +kernel
theorem dL_law_290 : decode cL_law 290 = .ok (.iconst 0, 1) := by decide +kernel
theorem dL_law_291 : decode cL_law 291 = .ok (.ireturn, 1) := by decide +kernel
theorem dL_law_292 : decode cL_law 292 = .ok (.aload_n 1, 1) := by decide +kernel
theorem dL_law_293 : decode cL_law 293 = .ok (.aload_n 0, 1) := by decide +kernel
theorem dL_law_294 : decode cL_law 294 = .ok (.iload_n 3, 1) := by decide +kernel
theorem dL_law_295 : decode cL_law 295 = .ok (.iconst 1, 1) := by decide +kernel
theorem dL_law_296 : decode cL_law 296 = .ok (.iadd, 1) := by decide +kernel
theorem dL_law_297 : decode cL_law 297 = .ok (.iaload, 1) := by decide +kernel
theorem dL_law_298 : decode cL_law 298 = .ok (.aload_n 0, 1) := by decide +kernel
theorem dL_law_299 : decode cL_law 299 = .ok (.iload_n 3, 1) := by decide +kernel
theorem dL_law_300 : decode cL_law 300 = .ok (.iconst 2, 1) := by decide +kernel
theorem dL_law_301 : decode cL_law 301 = .ok (.iadd, 1) := by decide +kernel
theorem dL_law_302 : decode cL_law 302 = .ok (.iaload, 1) := by decide +kernel
theorem dL_law_303 : decode cL_law 303 = .ok (.invokevirtual 40, 3) := by decide +kernel
theorem dL_law_306 : decode cL_law 306 = .ok (.aload_n 2, 1) := by decide +kernel
theorem dL_law_307 : decode cL_law 307 = .ok (.aload_n 0, 1) := by decide +kernel
theorem dL_law_308 : decode cL_law 308 = .ok (.iload_n 3, 1) := by decide +kernel
theorem dL_law_309 : decode cL_law 309 = .ok (.iconst 1, 1) := by decide +kernel
theorem dL_law_310 : decode cL_law 310 = .ok (.iadd, 1) := by decide +kernel
theorem dL_law_311 : decode cL_law 311 = .ok (.iaload, 1) := by decide +kernel
theorem dL_law_312 : decode cL_law 312 = .ok (.aload_n 0, 1) := by decide +kernel
theorem dL_law_313 : decode cL_law 313 = .ok (.iload_n 3, 1) := by decide +kernel
theorem dL_law_314 : decode cL_law 314 = .ok (.iconst 2, 1) := by decide +kernel
theorem dL_law_315 : decode cL_law 315 = .ok (.iadd, 1) := by decide +kernel
theorem dL_law_316 : decode cL_law 316 = .ok (.iaload, 1) := by decide +kernel
theorem dL_law_317 : decode cL_law 317 = .ok (.invokevirtual 43, 3) := by decide +kernel
theorem dL_law_320 : decode cL_law 320 = .ok (.if_icmp .eq 581, 3) := by decide +kernel
theorem dL_law_323 : decode cL_law 323 = .ok (.iconst 0, 1) := by decide +kernel
theorem dL_law_324 : decode cL_law 324 = .ok (.ireturn, 1) := by decide +kernel
theorem dL_law_325 : decode cL_law 325 = .ok (.aload_n 1, 1) := by decide +kernel
theorem dL_law_326 : decode cL_law 326 = .ok (.aload_n 0, 1) := by decide +kernel
theorem dL_law_327 : decode cL_law 327 = .ok (.iload_n 3, 1) := by decide +kernel
theorem dL_law_328 : decode cL_law 328 = .ok (.iconst 1, 1) := by decide +kernel
theorem dL_law_329 : decode cL_law 329 = .ok (.iadd, 1) := by decide +kernel
theorem dL_law_330 : decode cL_law 330 = .ok (.iaload, 1) := by decide +kernel
theorem dL_law_331 : decode cL_law 331 = .ok (.invokevirtual 44, 3) := by decide +kernel
theorem dL_law_334 : decode cL_law 334 = .ok (.aload_n 2, 1) := by decide +kernel
theorem dL_law_335 : decode cL_law 335 = .ok (.aload_n 0, 1) := by decide +kernel
theorem dL_law_336 : decode cL_law 336 = .ok (.iload_n 3, 1) := by decide +kernel
theorem dL_law_337 : decode cL_law 337 = .ok (.iconst 1, 1) := by decide +kernel
theorem dL_law_338 : decode cL_law 338 = .ok (.iadd, 1) := by decide +kernel
theorem dL_law_339 : decode cL_law 339 = .ok (.iaload, 1) := by decide +kernel
theorem dL_law_340 : decode cL_law 340 = .ok (.invokevirtual 47, 3) := by decide +kernel
theorem dL_law_343 : decode cL_law 343 = .ok (.if_icmp .eq 558, 3) := by decide +kernel
theorem dL_law_346 : decode cL_law 346 = .ok (.iconst 0, 1) := by decide +kernel
theorem dL_law_347 : decode cL_law 347 = .ok (.ireturn, 1) := by decide +kernel
theorem dL_law_348 : decode cL_law 348 = .ok (.aload_n 1, 1) := by decide +kernel
theorem dL_law_349 : decode cL_law 349 = .ok (.aload_n 0, 1) := by decide +kernel
theorem dL_law_350 : decode cL_law 350 = .ok (.iload_n 3, 1) := by decide +kernel
theorem dL_law_351 : decode cL_law 351 = .ok (.iconst 1, 1) := by decide +kernel
theorem dL_law_352 : decode cL_law 352 = .ok (.iadd, 1) := by decide +kernel
theorem dL_law_353 : decode cL_law 353 = .ok (.iaload, 1) := by decide +kernel
theorem dL_law_354 : decode cL_law 354 = .ok (.invokevirtual 48, 3) := by decide +kernel
theorem dL_law_357 : decode cL_law 357 = .ok (.aload_n 2, 1) := by decide +kernel
theorem dL_law_358 : decode cL_law 358 = .ok (.aload_n 0, 1) := by decide +kernel
theorem dL_law_359 : decode cL_law 359 = .ok (.iload_n 3, 1) := by decide +kernel
theorem dL_law_360 : decode cL_law 360 = .ok (.iconst 1, 1) := by decide +kernel
theorem dL_law_361 : decode cL_law 361 = .ok (.iadd, 1) := by decide +kernel
theorem dL_law_362 : decode cL_law 362 = .ok (.iaload, 1) := by decide +kernel
theorem dL_law_363 : decode cL_law 363 = .ok (.invokevirtual 51, 3) := by decide +kernel
theorem dL_law_366 : decode cL_law 366 = .ok (.if_icmp .eq 535, 3) := by decide +kernel
theorem dL_law_369 : decode cL_law 369 = .ok (.iconst 0, 1) := by decide +kernel
theorem dL_law_370 : decode cL_law 370 = .ok (.ireturn, 1) := by decide +kernel
theorem dL_law_371 : decode cL_law 371 = .ok (.aload_n 1, 1) := by decide +kernel
theorem dL_law_372 : decode cL_law 372 = .ok (.aload_n 0, 1) := by decide +kernel
theorem dL_law_373 : decode cL_law 373 = .ok (.iload_n 3, 1) := by decide +kernel
theorem dL_law_374 : decode cL_law 374 = .ok (.iconst 1, 1) := by decide +kernel
theorem dL_law_375 : decode cL_law 375 = .ok (.iadd, 1) := by decide +kernel
theorem dL_law_376 : decode cL_law 376 = .ok (.iaload, 1) := by decide +kernel
theorem dL_law_377 : decode cL_law 377 = .ok (.aload_n 0, 1) := by decide +kernel
theorem dL_law_378 : decode cL_law 378 = .ok (.iload_n 3, 1) := by decide +kernel
theorem dL_law_379 : decode cL_law 379 = .ok (.iconst 2, 1) := by decide +kernel
theorem dL_law_380 : decode cL_law 380 = .ok (.iadd, 1) := by decide +kernel
theorem dL_law_381 : decode cL_law 381 = .ok (.iaload, 1) := by decide +kernel
theorem dL_law_382 : decode cL_law 382 = .ok (.invokevirtual 52, 3) := by decide +kernel
theorem dL_law_385 : decode cL_law 385 = .ok (.aload_n 2, 1) := by decide +kernel
theorem dL_law_386 : decode cL_law 386 = .ok (.aload_n 0, 1) := by decide +kernel
theorem dL_law_387 : decode cL_law 387 = .ok (.iload_n 3, 1) := by decide +kernel
theorem dL_law_388 : decode cL_law 388 = .ok (.iconst 1, 1) := by decide +kernel
theorem dL_law_389 : decode cL_law 389 = .ok (.iadd, 1) := by decide +kernel
theorem dL_law_390 : decode cL_law 390 = .ok (.iaload, 1) := by decide +kernel
theorem dL_law_391 : decode cL_law 391 = .ok (.aload_n 0, 1) := by decide +kernel
theorem dL_law_392 : decode cL_law 392 = .ok (.iload_n 3, 1) := by decide +kernel
theorem dL_law_393 : decode cL_law 393 = .ok (.iconst 2, 1) := by decide +kernel
theorem dL_law_394 : decode cL_law 394 = .ok (.iadd, 1) := by decide +kernel
theorem dL_law_395 : decode cL_law 395 = .ok (.iaload, 1) := by decide +kernel
theorem dL_law_396 : decode cL_law 396 = .ok (.invokevirtual 55, 3) := by decide +kernel
theorem dL_law_399 : decode cL_law 399 = .ok (.if_icmp .eq 502, 3) := by decide +kernel
theorem dL_law_402 : decode cL_law 402 = .ok (.iconst 0, 1) := by decide +kernel
theorem dL_law_403 : decode cL_law 403 = .ok (.ireturn, 1) := by decide +kernel
theorem dL_law_404 : decode cL_law 404 = .ok (.aload_n 1, 1) := by decide +kernel
theorem dL_law_405 : decode cL_law 405 = .ok (.aload_n 0, 1) := by decide +kernel
theorem dL_law_406 : decode cL_law 406 = .ok (.iload_n 3, 1) := by decide +kernel
theorem dL_law_407 : decode cL_law 407 = .ok (.iconst 1, 1) := by decide +kernel
theorem dL_law_408 : decode cL_law 408 = .ok (.iadd, 1) := by decide +kernel
theorem dL_law_409 : decode cL_law 409 = .ok (.iaload, 1) := by decide +kernel
theorem dL_law_410 : decode cL_law 410 = .ok (.invokevirtual 56, 3) := by decide +kernel
theorem dL_law_413 : decode cL_law 413 = .ok (.aload_n 2, 1) := by decide +kernel
theorem dL_law_414 : decode cL_law 414 = .ok (.aload_n 0, 1) := by decide +kernel
theorem dL_law_415 : decode cL_law 415 = .ok (.iload_n 3, 1) := by decide +kernel
theorem dL_law_416 : decode cL_law 416 = .ok (.iconst 1, 1) := by decide +kernel
theorem dL_law_417 : decode cL_law 417 = .ok (.iadd, 1) := by decide +kernel
theorem dL_law_418 : decode cL_law 418 = .ok (.iaload, 1) := by decide +kernel
theorem dL_law_419 : decode cL_law 419 = .ok (.invokevirtual 59, 3) := by decide +kernel
theorem dL_law_422 : decode cL_law 422 = .ok (.if_icmp .eq 479, 3) := by decide +kernel
theorem dL_law_425 : decode cL_law 425 = .ok (.iconst 0, 1) := by decide +kernel
theorem dL_law_426 : decode cL_law 426 = .ok (.ireturn, 1) := by decide +kernel
theorem dL_law_427 : decode cL_law 427 = .ok (.aload_n 1, 1) := by decide +kernel
theorem dL_law_428 : decode cL_law 428 = .ok (.aload_n 0, 1) := by decide +kernel
theorem dL_law_429 : decode cL_law 429 = .ok (.iload_n 3, 1) := by decide +kernel
theorem dL_law_430 : decode cL_law 430 = .ok (.iconst 1, 1) := by decide +kernel
theorem dL_law_431 : decode cL_law 431 = .ok (.iadd, 1) := by decide +kernel
theorem dL_law_432 : decode cL_law 432 = .ok (.iaload, 1) := by decide +kernel
theorem dL_law_433 : decode cL_law 433 = .ok (.aload_n 0, 1) := by decide +kernel
theorem dL_law_434 : decode cL_law 434 = .ok (.iload_n 3, 1) := by decide +kernel
theorem dL_law_435 : decode cL_law 435 = .ok (.iconst 2, 1) := by decide +kernel
theorem dL_law_436 : decode cL_law 436 = .ok (.iadd, 1) := by decide +kernel
theorem dL_law_437 : decode cL_law 437 = .ok (.iaload, 1) := by decide +kernel
theorem dL_law_438 : decode cL_law 438 = .ok (.aload_n 0, 1) := by decide +kernel
theorem dL_law_439 : decode cL_law 439 = .ok (.iload_n 3, 1) := by decide +kernel
theorem dL_law_440 : decode cL_law 440 = .ok (.iconst 3, 1) := by decide +kernel
theorem dL_law_441 : decode cL_law 441 = .ok (.iadd, 1) := by decide +kernel
theorem dL_law_442 : decode cL_law 442 = .ok (.iaload, 1) := by decide +kernel
theorem dL_law_443 : decode cL_law 443 = .ok (.invokevirtual 60, 3) := by decide +kernel
theorem dL_law_446 : decode cL_law 446 = .ok (.aload_n 2, 1) := by decide +kernel
theorem dL_law_447 : decode cL_law 447 = .ok (.aload_n 0, 1) := by decide +kernel
theorem dL_law_448 : decode cL_law 448 = .ok (.iload_n 3, 1) := by decide +kernel
theorem dL_law_449 : decode cL_law 449 = .ok (.iconst 1, 1) := by decide +kernel
theorem dL_law_450 : decode cL_law 450 = .ok (.iadd, 1) := by decide +kernel
theorem dL_law_451 : decode cL_law 451 = .ok (.iaload, 1) := by decide +kernel
theorem dL_law_452 : decode cL_law 452 = .ok (.aload_n 0, 1) := by decide +kernel
theorem dL_law_453 : decode cL_law 453 = .ok (.iload_n 3, 1) := by decide +kernel
theorem dL_law_454 : decode cL_law 454 = .ok (.iconst 2, 1) := by decide +kernel
theorem dL_law_455 : decode cL_law 455 = .ok (.iadd, 1) := by decide +kernel
theorem dL_law_456 : decode cL_law 456 = .ok (.iaload, 1) := by decide +kernel
theorem dL_law_457 : decode cL_law 457 = .ok (.aload_n 0, 1) := by decide +kernel
theorem dL_law_458 : decode cL_law 458 = .ok (.iload_n 3, 1) := by decide +kernel
theorem dL_law_459 : decode cL_law 459 = .ok (.iconst 3, 1) := by decide +kernel
theorem dL_law_460 : decode cL_law 460 = .ok (.iadd, 1) := by decide +kernel
theorem dL_law_461 : decode cL_law 461 = .ok (.iaload, 1) := by decide +kernel
theorem dL_law_462 : decode cL_law 462 = .ok (.invokevirtual 64, 3) := by decide +kernel
theorem dL_law_465 : decode cL_law 465 = .ok (.if_icmp .eq 436, 3) := by decide +kernel
theorem dL_law_468 : decode cL_law 468 = .ok (.iconst 0, 1) := by decide +kernel
theorem dL_law_469 : decode cL_law 469 = .ok (.ireturn, 1) := by decide +kernel
theorem dL_law_470 : decode cL_law 470 = .ok (.aload_n 1, 1) := by decide +kernel
theorem dL_law_471 : decode cL_law 471 = .ok (.aload_n 0, 1) := by decide +kernel
theorem dL_law_472 : decode cL_law 472 = .ok (.iload_n 3, 1) := by decide +kernel
theorem dL_law_473 : decode cL_law 473 = .ok (.iconst 1, 1) := by decide +kernel
theorem dL_law_474 : decode cL_law 474 = .ok (.iadd, 1) := by decide +kernel
theorem dL_law_475 : decode cL_law 475 = .ok (.iaload, 1) := by decide +kernel
theorem dL_law_476 : decode cL_law 476 = .ok (.aload_n 0, 1) := by decide +kernel
theorem dL_law_477 : decode cL_law 477 = .ok (.iload_n 3, 1) := by decide +kernel
theorem dL_law_478 : decode cL_law 478 = .ok (.iconst 2, 1) := by decide +kernel
theorem dL_law_479 : decode cL_law 479 = .ok (.iadd, 1) := by decide +kernel
theorem dL_law_480 : decode cL_law 480 = .ok (.iaload, 1) := by decide +kernel
theorem dL_law_481 : decode cL_law 481 = .ok (.invokevirtual 65, 3) := by decide +kernel
theorem dL_law_484 : decode cL_law 484 = .ok (.aload_n 2, 1) := by decide +kernel
theorem dL_law_485 : decode cL_law 485 = .ok (.aload_n 0, 1) := by decide +kernel
theorem dL_law_486 : decode cL_law 486 = .ok (.iload_n 3, 1) := by decide +kernel
theorem dL_law_487 : decode cL_law 487 = .ok (.iconst 1, 1) := by decide +kernel
theorem dL_law_488 : decode cL_law 488 = .ok (.iadd, 1) := by decide +kernel
theorem dL_law_489 : decode cL_law 489 = .ok (.iaload, 1) := by decide +kernel
theorem dL_law_490 : decode cL_law 490 = .ok (.aload_n 0, 1) := by decide +kernel
theorem dL_law_491 : decode cL_law 491 = .ok (.iload_n 3, 1) := by decide +kernel
theorem dL_law_492 : decode cL_law 492 = .ok (.iconst 2, 1) := by decide +kernel
theorem dL_law_493 : decode cL_law 493 = .ok (.iadd, 1) := by decide +kernel
theorem dL_law_494 : decode cL_law 494 = .ok (.iaload, 1) := by decide +kernel
theorem dL_law_495 : decode cL_law 495 = .ok (.invokevirtual 68, 3) := by decide +kernel
theorem dL_law_498 : decode cL_law 498 = .ok (.if_icmp .eq 403, 3) := by decide +kernel
theorem dL_law_501 : decode cL_law 501 = .ok (.iconst 0, 1) := by decide +kernel
theorem dL_law_502 : decode cL_law 502 = .ok (.ireturn, 1) := by decide +kernel
theorem dL_law_503 : decode cL_law 503 = .ok (.aload_n 1, 1) := by decide +kernel
theorem dL_law_504 : decode cL_law 504 = .ok (.aload_n 0, 1) := by decide +kernel
theorem dL_law_505 : decode cL_law 505 = .ok (.iload_n 3, 1) := by decide +kernel
theorem dL_law_506 : decode cL_law 506 = .ok (.iconst 1, 1) := by decide +kernel
theorem dL_law_507 : decode cL_law 507 = .ok (.iadd, 1) := by decide +kernel
theorem dL_law_508 : decode cL_law 508 = .ok (.iaload, 1) := by decide +kernel
theorem dL_law_509 : decode cL_law 509 = .ok (.invokevirtual 69, 3) := by decide +kernel
theorem dL_law_512 : decode cL_law 512 = .ok (.aload_n 2, 1) := by decide +kernel
theorem dL_law_513 : decode cL_law 513 = .ok (.aload_n 0, 1) := by decide +kernel
theorem dL_law_514 : decode cL_law 514 = .ok (.iload_n 3, 1) := by decide +kernel
theorem dL_law_515 : decode cL_law 515 = .ok (.iconst 1, 1) := by decide +kernel
theorem dL_law_516 : decode cL_law 516 = .ok (.iadd, 1) := by decide +kernel
theorem dL_law_517 : decode cL_law 517 = .ok (.iaload, 1) := by decide +kernel
theorem dL_law_518 : decode cL_law 518 = .ok (.invokevirtual 72, 3) := by decide +kernel
theorem dL_law_521 : decode cL_law 521 = .ok (.if_icmp .eq 380, 3) := by decide +kernel
theorem dL_law_524 : decode cL_law 524 = .ok (.iconst 0, 1) := by decide +kernel
theorem dL_law_525 : decode cL_law 525 = .ok (.ireturn, 1) := by decide +kernel
theorem dL_law_526 : decode cL_law 526 = .ok (.aload_n 1, 1) := by decide +kernel
theorem dL_law_527 : decode cL_law 527 = .ok (.invokevirtual 73, 3) := by decide +kernel
theorem dL_law_530 : decode cL_law 530 = .ok (.aload_n 2, 1) := by decide +kernel
theorem dL_law_531 : decode cL_law 531 = .ok (.invokevirtual 76, 3) := by decide +kernel
theorem dL_law_534 : decode cL_law 534 = .ok (.if_icmp .eq 367, 3) := by decide +kernel
theorem dL_law_537 : decode cL_law 537 = .ok (.iconst 0, 1) := by decide +kernel
theorem dL_law_538 : decode cL_law 538 = .ok (.ireturn, 1) := by decide +kernel
theorem dL_law_539 : decode cL_law 539 = .ok (.aload_n 1, 1) := by decide +kernel
theorem dL_law_540 : decode cL_law 540 = .ok (.aload_n 0, 1) := by decide +kernel
theorem dL_law_541 : decode cL_law 541 = .ok (.iload_n 3, 1) := by decide +kernel
theorem dL_law_542 : decode cL_law 542 = .ok (.iconst 1, 1) := by decide +kernel
theorem dL_law_543 : decode cL_law 543 = .ok (.iadd, 1) := by decide +kernel
theorem dL_law_544 : decode cL_law 544 = .ok (.iaload, 1) := by decide +kernel
theorem dL_law_545 : decode cL_law 545 = .ok (.invokevirtual 77, 3) := by decide +kernel
theorem dL_law_548 : decode cL_law 548 = .ok (.aload_n 2, 1) := by decide +kernel
theorem dL_law_549 : decode cL_law 549 = .ok (.aload_n 0, 1) := by decide +kernel
theorem dL_law_550 : decode cL_law 550 = .ok (.iload_n 3, 1) := by decide +kernel
theorem dL_law_551 : decode cL_law 551 = .ok (.iconst 1, 1) := by decide +kernel
theorem dL_law_552 : decode cL_law 552 = .ok (.iadd, 1) := by decide +kernel
theorem dL_law_553 : decode cL_law 553 = .ok (.iaload, 1) := by decide +kernel
theorem dL_law_554 : decode cL_law 554 = .ok (.invokevirtual 80, 3) := by decide +kernel
theorem dL_law_557 : decode cL_law 557 = .ok (.if_icmp .eq 344, 3) := by decide +kernel
theorem dL_law_560 : decode cL_law 560 = .ok (.iconst 0, 1) := by decide +kernel
theorem dL_law_561 : decode cL_law 561 = .ok (.ireturn, 1) := by decide +kernel
theorem dL_law_562 : decode cL_law 562 = .ok (.aload_n 1, 1) := by decide +kernel
theorem dL_law_563 : decode cL_law 563 = .ok (.aload_n 0, 1) := by decide +kernel
theorem dL_law_564 : decode cL_law 564 = .ok (.iload_n 3, 1) := by decide +kernel
theorem dL_law_565 : decode cL_law 565 = .ok (.iconst 1, 1) := by decide +kernel
theorem dL_law_566 : decode cL_law 566 = .ok (.iadd, 1) := by decide +kernel
theorem dL_law_567 : decode cL_law 567 = .ok (.iaload, 1) := by decide +kernel
theorem dL_law_568 : decode cL_law 568 = .ok (.invokevirtual 81, 3) := by decide +kernel
theorem dL_law_571 : decode cL_law 571 = .ok (.aload_n 2, 1) := by decide +kernel
theorem dL_law_572 : decode cL_law 572 = .ok (.aload_n 0, 1) := by decide +kernel
theorem dL_law_573 : decode cL_law 573 = .ok (.iload_n 3, 1) := by decide +kernel
theorem dL_law_574 : decode cL_law 574 = .ok (.iconst 1, 1) := by decide +kernel
theorem dL_law_575 : decode cL_law 575 = .ok (.iadd, 1) := by decide +kernel
theorem dL_law_576 : decode cL_law 576 = .ok (.iaload, 1) := by decide +kernel
theorem dL_law_577 : decode cL_law 577 = .ok (.invokevirtual 84, 3) := by decide +kernel
theorem dL_law_580 : decode cL_law 580 = .ok (.if_icmp .eq 321, 3) := by decide +kernel
theorem dL_law_583 : decode cL_law 583 = .ok (.iconst 0, 1) := by decide +kernel
theorem dL_law_584 : decode cL_law 584 = .ok (.ireturn, 1) := by decide +kernel
theorem dL_law_585 : decode cL_law 585 = .ok (.aload_n 1, 1) := by decide +kernel
theorem dL_law_586 : decode cL_law 586 = .ok (.aload_n 0, 1) := by decide +kernel
theorem dL_law_587 : decode cL_law 587 = .ok (.iload_n 3, 1) := by decide +kernel
theorem dL_law_588 : decode cL_law 588 = .ok (.iconst 1, 1) := by decide +kernel
theorem dL_law_589 : decode cL_law 589 = .ok (.iadd, 1) := by decide +kernel
theorem dL_law_590 : decode cL_law 590 = .ok (.iaload, 1) := by decide +kernel
theorem dL_law_591 : decode cL_law 591 = .ok (.invokevirtual 85, 3) := by decide +kernel
theorem dL_law_594 : decode cL_law 594 = .ok (.aload_n 2, 1) := by decide +kernel
theorem dL_law_595 : decode cL_law 595 = .ok (.aload_n 0, 1) := by decide +kernel
theorem dL_law_596 : decode cL_law 596 = .ok (.iload_n 3, 1) := by decide +kernel
theorem dL_law_597 : decode cL_law 597 = .ok (.iconst 1, 1) := by decide +kernel
theorem dL_law_598 : decode cL_law 598 = .ok (.iadd, 1) := by decide +kernel
theorem dL_law_599 : decode cL_law 599 = .ok (.iaload, 1) := by decide +kernel
theorem dL_law_600 : decode cL_law 600 = .ok (.invokevirtual 88, 3) := by decide +kernel
theorem dL_law_603 : decode cL_law 603 = .ok (.if_icmp .eq 298, 3) := by decide +kernel
theorem dL_law_606 : decode cL_law 606 = .ok (.iconst 0, 1) := by decide +kernel
theorem dL_law_607 : decode cL_law 607 = .ok (.ireturn, 1) := by decide +kernel
theorem dL_law_608 : decode cL_law 608 = .ok (.aload_n 1, 1) := by decide +kernel
theorem dL_law_609 : decode cL_law 609 = .ok (.aload_n 0, 1) := by decide +kernel
theorem dL_law_610 : decode cL_law 610 = .ok (.iload_n 3, 1) := by decide +kernel
theorem dL_law_611 : decode cL_law 611 = .ok (.iconst 1, 1) := by decide +kernel
theorem dL_law_612 : decode cL_law 612 = .ok (.iadd, 1) := by decide +kernel
theorem dL_law_613 : decode cL_law 613 = .ok (.iaload, 1) := by decide +kernel
theorem dL_law_614 : decode cL_law 614 = .ok (.invokevirtual 89, 3) := by decide +kernel
theorem dL_law_617 : decode cL_law 617 = .ok (.aload_n 2, 1) := by decide +kernel
theorem dL_law_618 : decode cL_law 618 = .ok (.aload_n 0, 1) := by decide +kernel
theorem dL_law_619 : decode cL_law 619 = .ok (.iload_n 3, 1) := by decide +kernel
theorem dL_law_620 : decode cL_law 620 = .ok (.iconst 1, 1) := by decide +kernel
theorem dL_law_621 : decode cL_law 621 = .ok (.iadd, 1) := by decide +kernel
theorem dL_law_622 : decode cL_law 622 = .ok (.iaload, 1) := by decide +kernel
theorem dL_law_623 : decode cL_law 623 = .ok (.invokevirtual 92, 3) := by decide +kernel
theorem dL_law_626 : decode cL_law 626 = .ok (.if_icmp .eq 275, 3) := by decide +kernel
theorem dL_law_629 : decode cL_law 629 = .ok (.iconst 0, 1) := by decide +kernel
theorem dL_law_630 : decode cL_law 630 = .ok (.ireturn, 1) := by decide +kernel
theorem dL_law_631 : decode cL_law 631 = .ok (.aload_n 1, 1) := by decide +kernel
theorem dL_law_632 : decode cL_law 632 = .ok (.aload_n 0, 1) := by decide +kernel
theorem dL_law_633 : decode cL_law 633 = .ok (.iload_n 3, 1) := by decide +kernel
theorem dL_law_634 : decode cL_law 634 = .ok (.iconst 1, 1) := by decide +kernel
theorem dL_law_635 : decode cL_law 635 = .ok (.iadd, 1) := by decide +kernel
theorem dL_law_636 : decode cL_law 636 = .ok (.iaload, 1) := by decide +kernel
theorem dL_law_637 : decode cL_law 637 = .ok (.aload_n 0, 1) := by decide +kernel
theorem dL_law_638 : decode cL_law 638 = .ok (.iload_n 3, 1) := by decide +kernel
theorem dL_law_639 : decode cL_law 639 = .ok (.iconst 2, 1) := by decide +kernel
theorem dL_law_640 : decode cL_law 640 = .ok (.iadd, 1) := by decide +kernel
theorem dL_law_641 : decode cL_law 641 = .ok (.iaload, 1) := by decide +kernel
theorem dL_law_642 : decode cL_law 642 = .ok (.invokevirtual 93, 3) := by decide +kernel
theorem dL_law_645 : decode cL_law 645 = .ok (.aload_n 2, 1) := by decide +kernel
theorem dL_law_646 : decode cL_law 646 = .ok (.aload_n 0, 1) := by decide +kernel
theorem dL_law_647 : decode cL_law 647 = .ok (.iload_n 3, 1) := by decide +kernel
theorem dL_law_648 : decode cL_law 648 = .ok (.iconst 1, 1) := by decide +kernel
theorem dL_law_649 : decode cL_law 649 = .ok (.iadd, 1) := by decide +kernel
theorem dL_law_650 : decode cL_law 650 = .ok (.iaload, 1) := by decide +kernel
theorem dL_law_651 : decode cL_law 651 = .ok (.aload_n 0, 1) := by decide +kernel
theorem dL_law_652 : decode cL_law 652 = .ok (.iload_n 3, 1) := by decide +kernel
theorem dL_law_653 : decode cL_law 653 = .ok (.iconst 2, 1) := by decide +kernel
theorem dL_law_654 : decode cL_law 654 = .ok (.iadd, 1) := by decide +kernel
theorem dL_law_655 : decode cL_law 655 = .ok (.iaload, 1) := by decide +kernel
theorem dL_law_656 : decode cL_law 656 = .ok (.invokevirtual 96, 3) := by decide +kernel
theorem dL_law_659 : decode cL_law 659 = .ok (.if_icmp .eq 242, 3) := by decide +kernel
theorem dL_law_662 : decode cL_law 662 = .ok (.iconst 0, 1) := by decide +kernel
theorem dL_law_663 : decode cL_law 663 = .ok (.ireturn, 1) := by decide +kernel
theorem dL_law_664 : decode cL_law 664 = .ok (.aload_n 1, 1) := by decide +kernel
theorem dL_law_665 : decode cL_law 665 = .ok (.aload_n 0, 1) := by decide +kernel
theorem dL_law_666 : decode cL_law 666 = .ok (.iload_n 3, 1) := by decide +kernel
theorem dL_law_667 : decode cL_law 667 = .ok (.iconst 1, 1) := by decide +kernel
theorem dL_law_668 : decode cL_law 668 = .ok (.iadd, 1) := by decide +kernel
theorem dL_law_669 : decode cL_law 669 = .ok (.iaload, 1) := by decide +kernel
theorem dL_law_670 : decode cL_law 670 = .ok (.invokevirtual 97, 3) := by decide +kernel
theorem dL_law_673 : decode cL_law 673 = .ok (.aload_n 2, 1) := by decide +kernel
theorem dL_law_674 : decode cL_law 674 = .ok (.aload_n 0, 1) := by decide +kernel
theorem dL_law_675 : decode cL_law 675 = .ok (.iload_n 3, 1) := by decide +kernel
theorem dL_law_676 : decode cL_law 676 = .ok (.iconst 1, 1) := by decide +kernel
theorem dL_law_677 : decode cL_law 677 = .ok (.iadd, 1) := by decide +kernel
theorem dL_law_678 : decode cL_law 678 = .ok (.iaload, 1) := by decide +kernel
theorem dL_law_679 : decode cL_law 679 = .ok (.invokevirtual 100, 3) := by decide +kernel
theorem dL_law_682 : decode cL_law 682 = .ok (.if_icmp .eq 219, 3) := by decide +kernel
theorem dL_law_685 : decode cL_law 685 = .ok (.iconst 0, 1) := by decide +kernel
theorem dL_law_686 : decode cL_law 686 = .ok (.ireturn, 1) := by decide +kernel
theorem dL_law_687 : decode cL_law 687 = .ok (.aload_n 1, 1) := by decide +kernel
theorem dL_law_688 : decode cL_law 688 = .ok (.aload_n 0, 1) := by decide +kernel
theorem dL_law_689 : decode cL_law 689 = .ok (.iload_n 3, 1) := by decide +kernel
theorem dL_law_690 : decode cL_law 690 = .ok (.iconst 1, 1) := by decide +kernel
theorem dL_law_691 : decode cL_law 691 = .ok (.iadd, 1) := by decide +kernel
theorem dL_law_692 : decode cL_law 692 = .ok (.iaload, 1) := by decide +kernel
theorem dL_law_693 : decode cL_law 693 = .ok (.invokevirtual 101, 3) := by decide +kernel
theorem dL_law_696 : decode cL_law 696 = .ok (.aload_n 2, 1) := by decide +kernel
theorem dL_law_697 : decode cL_law 697 = .ok (.aload_n 0, 1) := by decide +kernel
theorem dL_law_698 : decode cL_law 698 = .ok (.iload_n 3, 1) := by decide +kernel
theorem dL_law_699 : decode cL_law 699 = .ok (.iconst 1, 1) := by decide +kernel
theorem dL_law_700 : decode cL_law 700 = .ok (.iadd, 1) := by decide +kernel
theorem dL_law_701 : decode cL_law 701 = .ok (.iaload, 1) := by decide +kernel
theorem dL_law_702 : decode cL_law 702 = .ok (.invokevirtual 104, 3) := by decide +kernel
theorem dL_law_705 : decode cL_law 705 = .ok (.if_icmp .eq 196, 3) := by decide +kernel
theorem dL_law_708 : decode cL_law 708 = .ok (.iconst 0, 1) := by decide +kernel
theorem dL_law_709 : decode cL_law 709 = .ok (.ireturn, 1) := by decide +kernel
theorem dL_law_710 : decode cL_law 710 = .ok (.aload_n 1, 1) := by decide +kernel
theorem dL_law_711 : decode cL_law 711 = .ok (.aload_n 0, 1) := by decide +kernel
theorem dL_law_712 : decode cL_law 712 = .ok (.iload_n 3, 1) := by decide +kernel
theorem dL_law_713 : decode cL_law 713 = .ok (.iconst 1, 1) := by decide +kernel
theorem dL_law_714 : decode cL_law 714 = .ok (.iadd, 1) := by decide +kernel
theorem dL_law_715 : decode cL_law 715 = .ok (.iaload, 1) := by decide +kernel
theorem dL_law_716 : decode cL_law 716 = .ok (.invokevirtual 105, 3) := by decide +kernel
theorem dL_law_719 : decode cL_law 719 = .ok (.aload_n 2, 1) := by decide +kernel
theorem dL_law_720 : decode cL_law 720 = .ok (.aload_n 0, 1) := by decide +kernel
theorem dL_law_721 : decode cL_law 721 = .ok (.iload_n 3, 1) := by decide +kernel
theorem dL_law_722 : decode cL_law 722 = .ok (.iconst 1, 1) := by decide +kernel
theorem dL_law_723 : decode cL_law 723 = .ok (.iadd, 1) := by decide +kernel
theorem dL_law_724 : decode cL_law 724 = .ok (.iaload, 1) := by decide +kernel
theorem dL_law_725 : decode cL_law 725 = .ok (.invokevirtual 108, 3) := by decide +kernel
theorem dL_law_728 : decode cL_law 728 = .ok (.if_icmp .eq 173, 3) := by decide +kernel
theorem dL_law_731 : decode cL_law 731 = .ok (.iconst 0, 1) := by decide +kernel
theorem dL_law_732 : decode cL_law 732 = .ok (.ireturn, 1) := by decide +kernel
theorem dL_law_733 : decode cL_law 733 = .ok (.aload_n 1, 1) := by decide +kernel
theorem dL_law_734 : decode cL_law 734 = .ok (.aload_n 0, 1) := by decide +kernel
theorem dL_law_735 : decode cL_law 735 = .ok (.iload_n 3, 1) := by decide +kernel
theorem dL_law_736 : decode cL_law 736 = .ok (.iconst 1, 1) := by decide +kernel
theorem dL_law_737 : decode cL_law 737 = .ok (.iadd, 1) := by decide +kernel
theorem dL_law_738 : decode cL_law 738 = .ok (.iaload, 1) := by decide +kernel
theorem dL_law_739 : decode cL_law 739 = .ok (.aload_n 0, 1) := by decide +kernel
theorem dL_law_740 : decode cL_law 740 = .ok (.iload_n 3, 1) := by decide +kernel
theorem dL_law_741 : decode cL_law 741 = .ok (.iconst 2, 1) := by decide +kernel
theorem dL_law_742 : decode cL_law 742 = .ok (.iadd, 1) := by decide +kernel
theorem dL_law_743 : decode cL_law 743 = .ok (.iaload, 1) := by decide +kernel
theorem dL_law_744 : decode cL_law 744 = .ok (.aload_n 0, 1) := by decide +kernel
theorem dL_law_745 : decode cL_law 745 = .ok (.iload_n 3, 1) := by decide +kernel
theorem dL_law_746 : decode cL_law 746 = .ok (.iconst 3, 1) := by decide +kernel
theorem dL_law_747 : decode cL_law 747 = .ok (.iadd, 1) := by decide +kernel
theorem dL_law_748 : decode cL_law 748 = .ok (.iaload, 1) := by decide +kernel
theorem dL_law_749 : decode cL_law 749 = .ok (.invokevirtual 109, 3) := by decide +kernel
theorem dL_law_752 : decode cL_law 752 = .ok (.aload_n 2, 1) := by decide +kernel
theorem dL_law_753 : decode cL_law 753 = .ok (.aload_n 0, 1) := by decide +kernel
theorem dL_law_754 : decode cL_law 754 = .ok (.iload_n 3, 1) := by decide +kernel
theorem dL_law_755 : decode cL_law 755 = .ok (.iconst 1, 1) := by decide +kernel
theorem dL_law_756 : decode cL_law 756 = .ok (.iadd, 1) := by decide +kernel
theorem dL_law_757 : decode cL_law 757 = .ok (.iaload, 1) := by decide +kernel
theorem dL_law_758 : decode cL_law 758 = .ok (.aload_n 0, 1) := by decide +kernel
theorem dL_law_759 : decode cL_law 759 = .ok (.iload_n 3, 1) := by decide +kernel
theorem dL_law_760 : decode cL_law 760 = .ok (.iconst 2, 1) := by decide +kernel
theorem dL_law_761 : decode cL_law 761 = .ok (.iadd, 1) := by decide +kernel
theorem dL_law_762 : decode cL_law 762 = .ok (.iaload, 1) := by decide +kernel
theorem dL_law_763 : decode cL_law 763 = .ok (.aload_n 0, 1) := by decide +kernel
theorem dL_law_764 : decode cL_law 764 = .ok (.iload_n 3, 1) := by decide +kernel
theorem dL_law_765 : decode cL_law 765 = .ok (.iconst 3, 1) := by decide +kernel
theorem dL_law_766 : decode cL_law 766 = .ok (.iadd, 1) := by decide +kernel
theorem dL_law_767 : decode cL_law 767 = .ok (.iaload, 1) := by decide +kernel
theorem dL_law_768 : decode cL_law 768 = .ok (.invokevirtual 112, 3) := by decide +kernel
theorem dL_law_771 : decode cL_law 771 = .ok (.if_icmp .eq 130, 3) := by decide +kernel
theorem dL_law_774 : decode cL_law 774 = .ok (.iconst 0, 1) := by decide +kernel
theorem dL_law_775 : decode cL_law 775 = .ok (.ireturn, 1) := by decide +kernel
theorem dL_law_776 : decode cL_law 776 = .ok (.aload_n 1, 1) := by decide +kernel
theorem dL_law_777 : decode cL_law 777 = .ok (.aload_n 0, 1) := by decide +kernel
theorem dL_law_778 : decode cL_law 778 = .ok (.iload_n 3, 1) := by decide +kernel
theorem dL_law_779 : decode cL_law 779 = .ok (.iconst 1, 1) := by decide +kernel
theorem dL_law_780 : decode cL_law 780 = .ok (.iadd, 1) := by decide +kernel
theorem dL_law_781 : decode cL_law 781 = .ok (.iaload, 1) := by decide +kernel
theorem dL_law_782 : decode cL_law 782 = .ok (.aload_n 0, 1) := by decide +kernel
theorem dL_law_783 : decode cL_law 783 = .ok (.iload_n 3, 1) := by decide +kernel
theorem dL_law_784 : decode cL_law 784 = .ok (.iconst 2, 1) := by decide +kernel
theorem dL_law_785 : decode cL_law 785 = .ok (.iadd, 1) := by decide +kernel
theorem dL_law_786 : decode cL_law 786 = .ok (.iaload, 1) := by decide +kernel
theorem dL_law_787 : decode cL_law 787 = .ok (.invokevirtual 113, 3) := by decide +kernel
theorem dL_law_790 : decode cL_law 790 = .ok (.aload_n 2, 1) := by decide +kernel
theorem dL_law_791 : decode cL_law 791 = .ok (.aload_n 0, 1) := by decide +kernel
theorem dL_law_792 : decode cL_law 792 = .ok (.iload_n 3, 1) := by decide +kernel
theorem dL_law_793 : decode cL_law 793 = .ok (.iconst 1, 1) := by decide +kernel
theorem dL_law_794 : decode cL_law 794 = .ok (.iadd, 1) := by decide +kernel
theorem dL_law_795 : decode cL_law 795 = .ok (.iaload, 1) := by decide +kernel
theorem dL_law_796 : decode cL_law 796 = .ok (.aload_n 0, 1) := by decide +kernel
theorem dL_law_797 : decode cL_law 797 = .ok (.iload_n 3, 1) := by decide +kernel
theorem dL_law_798 : decode cL_law 798 = .ok (.iconst 2, 1) := by decide +kernel
theorem dL_law_799 : decode cL_law 799 = .ok (.iadd, 1) := by decide +kernel
theorem dL_law_800 : decode cL_law 800 = .ok (.iaload, 1) := by decide +kernel
theorem dL_law_801 : decode cL_law 801 = .ok (.invokevirtual 116, 3) := by decide +kernel
theorem dL_law_804 : decode cL_law 804 = .ok (.if_icmp .eq 97, 3) := by decide +kernel
theorem dL_law_807 : decode cL_law 807 = .ok (.iconst 0, 1) := by decide +kernel
theorem dL_law_808 : decode cL_law 808 = .ok (.ireturn, 1) := by decide +kernel
theorem dL_law_809 : decode cL_law 809 = .ok (.aload_n 1, 1) := by decide +kernel
theorem dL_law_810 : decode cL_law 810 = .ok (.aload_n 0, 1) := by decide +kernel
theorem dL_law_811 : decode cL_law 811 = .ok (.iload_n 3, 1) := by decide +kernel
theorem dL_law_812 : decode cL_law 812 = .ok (.iconst 1, 1) := by decide +kernel
theorem dL_law_813 : decode cL_law 813 = .ok (.iadd, 1) := by decide +kernel
theorem dL_law_814 : decode cL_law 814 = .ok (.iaload, 1) := by decide +kernel
theorem dL_law_815 : decode cL_law 815 = .ok (.invokevirtual 117, 3) := by decide +kernel
theorem dL_law_818 : decode cL_law 818 = .ok (.aload_n 2, 1) := by decide +kernel
theorem dL_law_819 : decode cL_law 819 = .ok (.aload_n 0, 1) := by decide +kernel
theorem dL_law_820 : decode cL_law 820 = .ok (.iload_n 3, 1) := by decide +kernel
theorem dL_law_821 : decode cL_law 821 = .ok (.iconst 1, 1) := by decide +kernel
theorem dL_law_822 : decode cL_law 822 = .ok (.iadd, 1) := by decide +kernel
theorem dL_law_823 : decode cL_law 823 = .ok (.iaload, 1) := by decide +kernel
theorem dL_law_824 : decode cL_law 824 = .ok (.invokevirtual 120, 3) := by decide +kernel
theorem dL_law_827 : decode cL_law 827 = .ok (.if_icmp .eq 74, 3) := by decide +kernel
theorem dL_law_830 : decode cL_law 830 = .ok (.iconst 0, 1) := by decide +kernel
theorem dL_law_831 : decode cL_law 831 = .ok (.ireturn, 1) := by decide +kernel
theorem dL_law_832 : decode cL_law 832 = .ok (.aload_n 1, 1) := by decide +kernel
theorem dL_law_833 : decode cL_law 833 = .ok (.aload_n 0, 1) := by decide +kernel
theorem dL_law_834 : decode cL_law 834 = .ok (.iload_n 3, 1) := by decide +kernel
theorem dL_law_835 : decode cL_law 835 = .ok (.iconst 1, 1) := by decide +kernel
theorem dL_law_836 : decode cL_law 836 = .ok (.iadd, 1) := by decide +kernel
theorem dL_law_837 : decode cL_law 837 = .ok (.iaload, 1) := by decide +kernel
theorem dL_law_838 : decode cL_law 838 = .ok (.invokevirtual 121, 3) := by decide +kernel
theorem dL_law_841 : decode cL_law 841 = .ok (.aload_n 2, 1) := by decide +kernel
theorem dL_law_842 : decode cL_law 842 = .ok (.aload_n 0, 1) := by decide +kernel
theorem dL_law_843 : decode cL_law 843 = .ok (.iload_n 3, 1) := by decide +kernel
theorem dL_law_844 : decode cL_law 844 = .ok (.iconst 1, 1) := by decide +kernel
theorem dL_law_845 : decode cL_law 845 = .ok (.iadd, 1) := by decide +kernel
theorem dL_law_846 : decode cL_law 846 = .ok (.iaload, 1) := by decide +kernel
theorem dL_law_847 : decode cL_law 847 = .ok (.invokevirtual 124, 3) := by decide +kernel
theorem dL_law_850 : decode cL_law 850 = .ok (.if_icmp .eq 51, 3) := by decide +kernel
theorem dL_law_853 : decode cL_law 853 = .ok (.iconst 0, 1) := by decide +kernel
theorem dL_law_854 : decode cL_law 854 = .ok (.ireturn, 1) := by decide +kernel
theorem dL_law_855 : decode cL_law 855 = .ok (.aload_n 1, 1) := by decide +kernel
theorem dL_law_856 : decode cL_law 856 = .ok (.aload_n 0, 1) := by decide +kernel
theorem dL_law_857 : decode cL_law 857 = .ok (.iload_n 3, 1) := by decide +kernel
theorem dL_law_858 : decode cL_law 858 = .ok (.iconst 1, 1) := by decide +kernel
theorem dL_law_859 : decode cL_law 859 = .ok (.iadd, 1) := by decide +kernel
theorem dL_law_860 : decode cL_law 860 = .ok (.iaload, 1) := by decide +kernel
theorem dL_law_861 : decode cL_law 861 = .ok (.invokevirtual 125, 3) := by decide +kernel
theorem dL_law_864 : decode cL_law 864 = .ok (.aload_n 2, 1) := by decide +kernel
theorem dL_law_865 : decode cL_law 865 = .ok (.aload_n 0, 1) := by decide +kernel
theorem dL_law_866 : decode cL_law 866 = .ok (.iload_n 3, 1) := by decide +kernel
theorem dL_law_867 : decode cL_law 867 = .ok (.iconst 1, 1) := by decide +kernel
theorem dL_law_868 : decode cL_law 868 = .ok (.iadd, 1) := by decide +kernel
theorem dL_law_869 : decode cL_law 869 = .ok (.iaload, 1) := by decide +kernel
theorem dL_law_870 : decode cL_law 870 = .ok (.invokevirtual 128, 3) := by decide +kernel
theorem dL_law_873 : decode cL_law 873 = .ok (.if_icmp .eq 28, 3) := by decide +kernel
theorem dL_law_876 : decode cL_law 876 = .ok (.iconst 0, 1) := by decide +kernel
theorem dL_law_877 : decode cL_law 877 = .ok (.ireturn, 1) := by decide +kernel
theorem dL_law_878 : decode cL_law 878 = .ok (.aload_n 1, 1) := by decide +kernel
theorem dL_law_879 : decode cL_law 879 = .ok (.aload_n 0, 1) := by decide +kernel
theorem dL_law_880 : decode cL_law 880 = .ok (.iload_n 3, 1) := by decide +kernel
theorem dL_law_881 : decode cL_law 881 = .ok (.iconst 1, 1) := by decide +kernel
theorem dL_law_882 : decode cL_law 882 = .ok (.iadd, 1) := by decide +kernel
theorem dL_law_883 : decode cL_law 883 = .ok (.iaload, 1) := by decide +kernel
theorem dL_law_884 : decode cL_law 884 = .ok (.invokevirtual 129, 3) := by decide +kernel
theorem dL_law_887 : decode cL_law 887 = .ok (.aload_n 2, 1) := by decide +kernel
theorem dL_law_888 : decode cL_law 888 = .ok (.aload_n 0, 1) := by decide +kernel
theorem dL_law_889 : decode cL_law 889 = .ok (.iload_n 3, 1) := by decide +kernel
theorem dL_law_890 : decode cL_law 890 = .ok (.iconst 1, 1) := by decide +kernel
theorem dL_law_891 : decode cL_law 891 = .ok (.iadd, 1) := by decide +kernel
theorem dL_law_892 : decode cL_law 892 = .ok (.iaload, 1) := by decide +kernel
theorem dL_law_893 : decode cL_law 893 = .ok (.invokevirtual 132, 3) := by decide +kernel
theorem dL_law_896 : decode cL_law 896 = .ok (.if_icmp .eq 5, 3) := by decide +kernel
theorem dL_law_899 : decode cL_law 899 = .ok (.iconst 0, 1) := by decide +kernel
theorem dL_law_900 : decode cL_law 900 = .ok (.ireturn, 1) := by decide +kernel
theorem dL_law_901 : decode cL_law 901 = .ok (.iinc 3 4, 3) := by decide +kernel
theorem dL_law_904 : decode cL_law 904 = .ok (.goto (-886), 3) := by decide +kernel
theorem dL_law_907 : decode cL_law 907 = .ok (.iconst 1, 1) := by decide +kernel
theorem dL_law_908 : decode cL_law 908 = .ok (.ireturn, 1) := by decide +kernel
