/-! rows that decode -/
theorem dX9_init_0 : decode cX9_init 0 = .ok (.aload_n 0, 1) := by decide +kernel
theorem dX9_init_1 : decode cX9_init 1 = .ok (.invokespecial 3, 3) := by decide +kernel
theorem dX9_init_4 : decode cX9_init 4 = .ok (.aload_n 0, 1) := by decide +kernel
theorem dX9_init_5 : decode cX9_init 5 = .ok (.sipush 600, 3) := by decide +kernel
theorem dX9_init_8 : decode cX9_init 8 = .ok (.newarray .int, 2) := by decide +kernel
theorem dX9_init_10 : decode cX9_init 10 = .ok (.putfield 9, 3) := by decide +kernel
theorem dX9_init_13 : decode cX9_init 13 = .ok (.aload_n 0, 1) := by decide +kernel
theorem dX9_init_14 : decode cX9_init 14 = .ok (.new 13, 3) := by decide +kernel
theorem dX9_init_17 : decode cX9_init 17 = .ok (.dup, 1) := by decide +kernel
theorem dX9_init_18 : decode cX9_init 18 = .ok (.invokespecial 15, 3) := by decide +kernel
theorem dX9_init_21 : decode cX9_init 21 = .ok (.putfield 16, 3) := by decide +kernel
theorem dX9_init_24 : decode cX9_init 24 = .ok (.aload_n 0, 1) := by decide +kernel
theorem dX9_init_25 : decode cX9_init 25 = .ok (.new 13, 3) := by decide +kernel
theorem dX9_init_28 : decode cX9_init 28 = .ok (.dup, 1) := by decide +kernel
theorem dX9_init_29 : decode cX9_init 29 = .ok (.invokespecial 15, 3) := by decide +kernel
theorem dX9_init_32 : decode cX9_init 32 = .ok (.putfield 20, 3) := by decide +kernel
theorem dX9_init_35 : decode cX9_init 35 = .ok (.aload_n 0, 1) := by decide +kernel
theorem dX9_init_36 : decode cX9_init 36 = .ok (.new 23, 3) := by decide +kernel
theorem dX9_init_39 : decode cX9_init 39 = .ok (.dup, 1) := by decide +kernel
theorem dX9_init_40 : decode cX9_init 40 = .ok (.invokespecial 25, 3) := by decide +kernel
theorem dX9_init_43 : decode cX9_init 43 = .ok (.putfield 26, 3) := by decide +kernel
theorem dX9_init_46 : decode cX9_init 46 = .ok (.aload_n 0, 1) := by decide +kernel
theorem dX9_init_47 : decode cX9_init 47 = .ok (.new 30, 3) := by decide +kernel
theorem dX9_init_50 : decode cX9_init 50 = .ok (.dup, 1) := by decide +kernel
theorem dX9_init_51 : decode cX9_init 51 = .ok (.invokespecial 32, 3) := by decide +kernel
theorem dX9_init_54 : decode cX9_init 54 = .ok (.putfield 33, 3) := by decide +kernel
theorem dX9_init_57 : decode cX9_init 57 = .ok (.aload_n 0, 1) := by decide +kernel
theorem dX9_init_58 : decode cX9_init 58 = .ok (.iconst 2, 1) := by decide +kernel
theorem dX9_init_59 : decode cX9_init 59 = .ok (.anewarray 37, 3) := by decide +kernel
theorem dX9_init_62 : decode cX9_init 62 = .ok (.putfield 39, 3) := by decide +kernel
theorem dX9_init_65 : decode cX9_init 65 = .ok (.aload_n 0, 1) := by decide +kernel
theorem dX9_init_66 : decode cX9_init 66 = .ok (.new 43, 3) := by decide +kernel
theorem dX9_init_69 : decode cX9_init 69 = .ok (.dup, 1) := by decide +kernel
theorem dX9_init_70 : decode cX9_init 70 = .ok (.invokespecial 45, 3) := by decide +kernel
theorem dX9_init_73 : decode cX9_init 73 = .ok (.putfield 46, 3) := by decide +kernel
theorem dX9_init_76 : decode cX9_init 76 = .ok (.aload_n 0, 1) := by decide +kernel
theorem dX9_init_77 : decode cX9_init 77 = .ok (.new 50, 3) := by decide +kernel
theorem dX9_init_80 : decode cX9_init 80 = .ok (.dup, 1) := by decide +kernel
theorem dX9_init_81 : decode cX9_init 81 = .ok (.invokespecial 52, 3) := by decide +kernel
theorem dX9_init_84 : decode cX9_init 84 = .ok (.putfield 53, 3) := by decide +kernel
theorem dX9_init_87 : decode cX9_init 87 = .ok (.aload_n 0, 1) := by decide +kernel
theorem dX9_init_88 : decode cX9_init 88 = .ok (.new 57, 3) := by decide +kernel
theorem dX9_init_91 : decode cX9_init 91 = .ok (.dup, 1) := by decide +kernel
theorem dX9_init_92 : decode cX9_init 92 = .ok (.invokespecial 59, 3) := by decide +kernel
theorem dX9_init_95 : decode cX9_init 95 = .ok (.putfield 60, 3) := by decide +kernel
theorem dX9_init_98 : decode cX9_init 98 = .ok (.aload_n 0, 1) := by decide +kernel
theorem dX9_init_99 : decode cX9_init 99 = .ok (.new 64, 3) := by decide +kernel
theorem dX9_init_102 : decode cX9_init 102 = .ok (.dup, 1) := by decide +kernel
theorem dX9_init_103 : decode cX9_init 103 = .ok (.sipush 3600, 3) := by decide +kernel
theorem dX9_init_106 : decode cX9_init 106 = .ok (.invokespecial 66, 3) := by decide +kernel
theorem dX9_init_109 : decode cX9_init 109 = .ok (.putfield 69, 3) := by decide +kernel
theorem dX9_init_112 : decode cX9_init 112 = .ok (.aload_n 0, 1) := by decide +kernel
theorem dX9_init_113 : decode cX9_init 113 = .ok (.new 64, 3) := by decide +kernel
theorem dX9_init_116 : decode cX9_init 116 = .ok (.dup, 1) := by decide +kernel
theorem dX9_init_117 : decode cX9_init 117 = .ok (.sipush 355, 3) := by decide +kernel
theorem dX9_init_120 : decode cX9_init 120 = .ok (.invokespecial 66, 3) := by decide +kernel
theorem dX9_init_123 : decode cX9_init 123 = .ok (.putfield 73, 3) := by decide +kernel
theorem dX9_init_126 : decode cX9_init 126 = .ok (.aload_n 0, 1) := by decide +kernel
theorem dX9_init_127 : decode cX9_init 127 = .ok (.new 76, 3) := by decide +kernel
theorem dX9_init_130 : decode cX9_init 130 = .ok (.dup, 1) := by decide +kernel
theorem dX9_init_131 : decode cX9_init 131 = .ok (.invokespecial 78, 3) := by decide +kernel
theorem dX9_init_134 : decode cX9_init 134 = .ok (.putfield 79, 3) := by decide +kernel
theorem dX9_init_137 : decode cX9_init 137 = .ok (.iconst 0, 1) := by decide +kernel
theorem dX9_init_138 : decode cX9_init 138 = .ok (.istore_n 1, 1) := by decide +kernel
theorem dX9_init_139 : decode cX9_init 139 = .ok (.iload_n 1, 1) := by decide +kernel
theorem dX9_init_140 : decode cX9_init 140 = .ok (.iconst 2, 1) := by decide +kernel
theorem dX9_init_141 : decode cX9_init 141 = .ok (.if_icmp .ge 22, 3) := by decide +kernel
theorem dX9_init_144 : decode cX9_init 144 = .ok (.aload_n 0, 1) := by decide +kernel
theorem dX9_init_145 : decode cX9_init 145 = .ok (.getfield 39, 3) := by decide +kernel
theorem dX9_init_148 : decode cX9_init 148 = .ok (.iload_n 1, 1) := by decide +kernel
theorem dX9_init_149 : decode cX9_init 149 = .ok (.new 37, 3) := by decide +kernel
theorem dX9_init_152 : decode cX9_init 152 = .ok (.dup, 1) := by decide +kernel
theorem dX9_init_153 : decode cX9_init 153 = .ok (.invokespecial 83, 3) := by decide +kernel
theorem dX9_init_156 : decode cX9_init 156 = .ok (.aastore, 1) := by decide +kernel
theorem dX9_init_157 : decode cX9_init 157 = .ok (.iinc 1 1, 3) := by decide +kernel
theorem dX9_init_160 : decode cX9_init 160 = .ok (.goto (-21), 3) := by decide +kernel
theorem dX9_init_163 : decode cX9_init 163 = .ok (.return_, 1) := by decide +kernel
theorem dX9_append_0 : decode cX9_append 0 = .ok (.aload_n 0, 1) := by decide +kernel
theorem dX9_append_1 : decode cX9_append 1 = .ok (.getfield 84, 3) := by decide +kernel
theorem dX9_append_4 : decode cX9_append 4 = .ok (.bipush 20, 2) := by decide +kernel
theorem dX9_append_6 : decode cX9_append 6 = .ok (.iadd, 1) := by decide +kernel
theorem dX9_append_7 : decode cX9_append 7 = .ok (.sipush 600, 3) := by decide +kernel
theorem dX9_append_10 : decode cX9_append 10 = .ok (.if_icmp .le 13, 3) := by decide +kernel
theorem dX9_append_13 : decode cX9_append 13 = .ok (.new 88, 3) := by decide +kernel
theorem dX9_append_16 : decode cX9_append 16 = .ok (.dup, 1) := by decide +kernel
theorem dX9_append_17 : decode cX9_append 17 = .ok (.ldc 90, 2) := by decide +kernel
theorem dX9_append_19 : decode cX9_append 19 = .ok (.invokespecial 92, 3) := by decide +kernel
theorem dX9_append_22 : decode cX9_append 22 = .ok (.athrow, 1) := by decide +kernel
theorem dX9_append_23 : decode cX9_append 23 = .ok (.aload_n 0, 1) := by decide +kernel
theorem dX9_append_24 : decode cX9_append 24 = .ok (.iload_n 1, 1) := by decide +kernel
theorem dX9_append_25 : decode cX9_append 25 = .ok (.invokevirtual 95, 3) := by decide +kernel
theorem dX9_append_28 : decode cX9_append 28 = .ok (.aload_n 0, 1) := by decide +kernel
theorem dX9_append_29 : decode cX9_append 29 = .ok (.iload_n 2, 1) := by decide +kernel
theorem dX9_append_30 : decode cX9_append 30 = .ok (.invokevirtual 95, 3) := by decide +kernel
theorem dX9_append_33 : decode cX9_append 33 = .ok (.aload_n 0, 1) := by decide +kernel
theorem dX9_append_34 : decode cX9_append 34 = .ok (.iload_n 3, 1) := by decide +kernel
theorem dX9_append_35 : decode cX9_append 35 = .ok (.invokevirtual 95, 3) := by decide +kernel
theorem dX9_append_38 : decode cX9_append 38 = .ok (.aload_n 0, 1) := by decide +kernel
theorem dX9_append_39 : decode cX9_append 39 = .ok (.iload 4, 2) := by decide +kernel
theorem dX9_append_41 : decode cX9_append 41 = .ok (.invokevirtual 95, 3) := by decide +kernel
theorem dX9_append_44 : decode cX9_append 44 = .ok (.aload_n 0, 1) := by decide +kernel
theorem dX9_append_45 : decode cX9_append 45 = .ok (.iload 5, 2) := by decide +kernel
theorem dX9_append_47 : decode cX9_append 47 = .ok (.invokevirtual 95, 3) := by decide +kernel
theorem dX9_append_50 : decode cX9_append 50 = .ok (.aload_n 0, 1) := by decide +kernel
theorem dX9_append_51 : decode cX9_append 51 = .ok (.getfield 84, 3) := by decide +kernel
theorem dX9_append_54 : decode cX9_append 54 = .ok (.ireturn, 1) := by decide +kernel
theorem dX9_truncate_0 : decode cX9_truncate 0 = .ok (.iload_n 1, 1) := by decide +kernel
theorem dX9_truncate_1 : decode cX9_truncate 1 = .ok (.ifCond .lt 11, 3) := by decide +kernel
theorem dX9_truncate_4 : decode cX9_truncate 4 = .ok (.iload_n 1, 1) := by decide +kernel
theorem dX9_truncate_5 : decode cX9_truncate 5 = .ok (.aload_n 0, 1) := by decide +kernel
theorem dX9_truncate_6 : decode cX9_truncate 6 = .ok (.getfield 84, 3) := by decide +kernel
theorem dX9_truncate_9 : decode cX9_truncate 9 = .ok (.if_icmp .le 13, 3) := by decide +kernel
theorem dX9_truncate_12 : decode cX9_truncate 12 = .ok (.new 98, 3) := by decide +kernel
theorem dX9_truncate_15 : decode cX9_truncate 15 = .ok (.dup, 1) := by decide +kernel
theorem dX9_truncate_16 : decode cX9_truncate 16 = .ok (.ldc 100, 2) := by decide +kernel
theorem dX9_truncate_18 : decode cX9_truncate 18 = .ok (.invokespecial 102, 3) := by decide +kernel
theorem dX9_truncate_21 : decode cX9_truncate 21 = .ok (.athrow, 1) := by decide +kernel
theorem dX9_truncate_22 : decode cX9_truncate 22 = .ok (.aload_n 0, 1) := by decide +kernel
theorem dX9_truncate_23 : decode cX9_truncate 23 = .ok (.iload_n 1, 1) := by decide +kernel
theorem dX9_truncate_24 : decode cX9_truncate 24 = .ok (.putfield 84, 3) := by decide +kernel
theorem dX9_truncate_27 : decode cX9_truncate 27 = .ok (.return_, 1) := by decide +kernel
theorem dX9_load_0 : decode cX9_load 0 = .ok (.aload_n 0, 1) := by decide +kernel
theorem dX9_load_1 : decode cX9_load 1 = .ok (.getfield 33, 3) := by decide +kernel
theorem dX9_load_4 : decode cX9_load 4 = .ok (.aload_n 0, 1) := by decide +kernel
theorem dX9_load_5 : decode cX9_load 5 = .ok (.getfield 9, 3) := by decide +kernel
theorem dX9_load_8 : decode cX9_load 8 = .ok (.aload_n 0, 1) := by decide +kernel
theorem dX9_load_9 : decode cX9_load 9 = .ok (.getfield 84, 3) := by decide +kernel
theorem dX9_load_12 : decode cX9_load 12 = .ok (.invokevirtual 103, 3) := by decide +kernel
theorem dX9_load_15 : decode cX9_load 15 = .ok (.istore_n 1, 1) := by decide +kernel
theorem dX9_load_16 : decode cX9_load 16 = .ok (.aload_n 0, 1) := by decide +kernel
theorem dX9_load_17 : decode cX9_load 17 = .ok (.iconst 0, 1) := by decide +kernel
theorem dX9_load_18 : decode cX9_load 18 = .ok (.putfield 84, 3) := by decide +kernel
theorem dX9_load_21 : decode cX9_load 21 = .ok (.iload_n 1, 1) := by decide +kernel
theorem dX9_load_22 : decode cX9_load 22 = .ok (.ifCond .ne 13, 3) := by decide +kernel
theorem dX9_load_25 : decode cX9_load 25 = .ok (.new 98, 3) := by decide +kernel
theorem dX9_load_28 : decode cX9_load 28 = .ok (.dup, 1) := by decide +kernel
theorem dX9_load_29 : decode cX9_load 29 = .ok (.ldc 107, 2) := by decide +kernel
theorem dX9_load_31 : decode cX9_load 31 = .ok (.invokespecial 102, 3) := by decide +kernel
theorem dX9_load_34 : decode cX9_load 34 = .ok (.athrow, 1) := by decide +kernel
theorem dX9_load_35 : decode cX9_load 35 = .ok (.aload_n 0, 1) := by decide +kernel
theorem dX9_load_36 : decode cX9_load 36 = .ok (.getfield 16, 3) := by decide +kernel
theorem dX9_load_39 : decode cX9_load 39 = .ok (.aload_n 0, 1) := by decide +kernel
theorem dX9_load_40 : decode cX9_load 40 = .ok (.getfield 33, 3) := by decide +kernel
theorem dX9_load_43 : decode cX9_load 43 = .ok (.getfield 109, 3) := by decide +kernel
theorem dX9_load_46 : decode cX9_load 46 = .ok (.invokevirtual 112, 3) := by decide +kernel
theorem dX9_load_49 : decode cX9_load 49 = .ok (.aload_n 0, 1) := by decide +kernel
theorem dX9_load_50 : decode cX9_load 50 = .ok (.getfield 26, 3) := by decide +kernel
theorem dX9_load_53 : decode cX9_load 53 = .ok (.invokevirtual 116, 3) := by decide +kernel
theorem dX9_load_56 : decode cX9_load 56 = .ok (.aload_n 0, 1) := by decide +kernel
theorem dX9_load_57 : decode cX9_load 57 = .ok (.iconst 0, 1) := by decide +kernel
theorem dX9_load_58 : decode cX9_load 58 = .ok (.putfield 119, 3) := by decide +kernel
theorem dX9_load_61 : decode cX9_load 61 = .ok (.aload_n 0, 1) := by decide +kernel
theorem dX9_load_62 : decode cX9_load 62 = .ok (.invokevirtual 123, 3) := by decide +kernel
theorem dX9_load_65 : decode cX9_load 65 = .ok (.aload_n 0, 1) := by decide +kernel
theorem dX9_load_66 : decode cX9_load 66 = .ok (.getfield 16, 3) := by decide +kernel
theorem dX9_load_69 : decode cX9_load 69 = .ok (.getfield 126, 3) := by decide +kernel
theorem dX9_load_72 : decode cX9_load 72 = .ok (.ireturn, 1) := by decide +kernel
theorem dX9_errorKind_0 : decode cX9_errorKind 0 = .ok (.aload_n 0, 1) := by decide +kernel
theorem dX9_errorKind_1 : decode cX9_errorKind 1 = .ok (.getfield 33, 3) := by decide +kernel
theorem dX9_errorKind_4 : decode cX9_errorKind 4 = .ok (.getfield 129, 3) := by decide +kernel
theorem dX9_errorKind_7 : decode cX9_errorKind 7 = .ok (.ireturn, 1) := by decide +kernel
theorem dX9_errorPosition_0 : decode cX9_errorPosition 0 = .ok (.aload_n 0, 1) := by decide +kernel
theorem dX9_errorPosition_1 : decode cX9_errorPosition 1 = .ok (.getfield 33, 3) := by decide +kernel
theorem dX9_errorPosition_4 : decode cX9_errorPosition 4 = .ok (.getfield 132, 3) := by decide +kernel
theorem dX9_errorPosition_7 : decode cX9_errorPosition 7 = .ok (.ireturn, 1) := by decide +kernel
theorem dX9_groupRank_0 : decode cX9_groupRank 0 = .ok (.aload_n 0, 1) := by decide +kernel
theorem dX9_groupRank_1 : decode cX9_groupRank 1 = .ok (.getfield 16, 3) := by decide +kernel
theorem dX9_groupRank_4 : decode cX9_groupRank 4 = .ok (.getfield 126, 3) := by decide +kernel
theorem dX9_groupRank_7 : decode cX9_groupRank 7 = .ok (.ireturn, 1) := by decide +kernel
theorem dX9_wordLength_0 : decode cX9_wordLength 0 = .ok (.aload_n 0, 1) := by decide +kernel
theorem dX9_wordLength_1 : decode cX9_wordLength 1 = .ok (.iload_n 1, 1) := by decide +kernel
theorem dX9_wordLength_2 : decode cX9_wordLength 2 = .ok (.invokevirtual 135, 3) := by decide +kernel
theorem dX9_wordLength_5 : decode cX9_wordLength 5 = .ok (.getfield 139, 3) := by decide +kernel
theorem dX9_wordLength_8 : decode cX9_wordLength 8 = .ok (.ireturn, 1) := by decide +kernel
theorem dX9_letter_0 : decode cX9_letter 0 = .ok (.aload_n 0, 1) := by decide +kernel
theorem dX9_letter_1 : decode cX9_letter 1 = .ok (.iload_n 1, 1) := by decide +kernel
theorem dX9_letter_2 : decode cX9_letter 2 = .ok (.invokevirtual 135, 3) := by decide +kernel
theorem dX9_letter_5 : decode cX9_letter 5 = .ok (.astore_n 3, 1) := by decide +kernel
theorem dX9_letter_6 : decode cX9_letter 6 = .ok (.iload_n 2, 1) := by decide +kernel
theorem dX9_letter_7 : decode cX9_letter 7 = .ok (.aload_n 3, 1) := by decide +kernel
theorem dX9_letter_8 : decode cX9_letter 8 = .ok (.getfield 139, 3) := by decide +kernel
theorem dX9_letter_11 : decode cX9_letter 11 = .ok (.invokestatic 142, 3) := by decide +kernel
theorem dX9_letter_14 : decode cX9_letter 14 = .ok (.aload_n 3, 1) := by decide +kernel
theorem dX9_letter_15 : decode cX9_letter 15 = .ok (.getfield 146, 3) := by decide +kernel
theorem dX9_letter_18 : decode cX9_letter 18 = .ok (.iload_n 2, 1) := by decide +kernel
theorem dX9_letter_19 : decode cX9_letter 19 = .ok (.iaload, 1) := by decide +kernel
theorem dX9_letter_20 : decode cX9_letter 20 = .ok (.invokestatic 149, 3) := by decide +kernel
theorem dX9_letter_23 : decode cX9_letter 23 = .ok (.ireturn, 1) := by decide +kernel
theorem dX9_areEqual_0 : decode cX9_areEqual 0 = .ok (.aload_n 0, 1) := by decide +kernel
theorem dX9_areEqual_1 : decode cX9_areEqual 1 = .ok (.iload_n 1, 1) := by decide +kernel
theorem dX9_areEqual_2 : decode cX9_areEqual 2 = .ok (.invokevirtual 135, 3) := by decide +kernel
theorem dX9_areEqual_5 : decode cX9_areEqual 5 = .ok (.aload_n 0, 1) := by decide +kernel
theorem dX9_areEqual_6 : decode cX9_areEqual 6 = .ok (.iload_n 2, 1) := by decide +kernel
theorem dX9_areEqual_7 : decode cX9_areEqual 7 = .ok (.invokevirtual 135, 3) := by decide +kernel
theorem dX9_areEqual_10 : decode cX9_areEqual 10 = .ok (.invokestatic 153, 3) := by decide +kernel
theorem dX9_areEqual_13 : decode cX9_areEqual 13 = .ok (.ifCond .ne 7, 3) := by decide +kernel
theorem dX9_areEqual_16 : decode cX9_areEqual 16 = .ok (.iconst 1, 1) := by decide +kernel
theorem dX9_areEqual_17 : decode cX9_areEqual 17 = .ok (.goto 4, 3) := by decide +kernel
theorem dX9_areEqual_20 : decode cX9_areEqual 20 = .ok (.iconst 0, 1) := by decide +kernel
theorem dX9_areEqual_21 : decode cX9_areEqual 21 = .ok (.ireturn, 1) := by decide +kernel
theorem dX9_areInverse_0 : decode cX9_areInverse 0 = .ok (.aload_n 0, 1) := by decide +kernel
theorem dX9_areInverse_1 : decode cX9_areInverse 1 = .ok (.iload_n 1, 1) := by decide +kernel
theorem dX9_areInverse_2 : decode cX9_areInverse 2 = .ok (.invokevirtual 135, 3) := by decide +kernel
theorem dX9_areInverse_5 : decode cX9_areInverse 5 = .ok (.astore_n 3, 1) := by decide +kernel
theorem dX9_areInverse_6 : decode cX9_areInverse 6 = .ok (.aload_n 0, 1) := by decide +kernel
theorem dX9_areInverse_7 : decode cX9_areInverse 7 = .ok (.iload_n 2, 1) := by decide +kernel
theorem dX9_areInverse_8 : decode cX9_areInverse 8 = .ok (.invokevirtual 135, 3) := by decide +kernel
theorem dX9_areInverse_11 : decode cX9_areInverse 11 = .ok (.astore 4, 2) := by decide +kernel
theorem dX9_areInverse_13 : decode cX9_areInverse 13 = .ok (.aload_n 3, 1) := by decide +kernel
theorem dX9_areInverse_14 : decode cX9_areInverse 14 = .ok (.getfield 139, 3) := by decide +kernel
theorem dX9_areInverse_17 : decode cX9_areInverse 17 = .ok (.aload 4, 2) := by decide +kernel
theorem dX9_areInverse_19 : decode cX9_areInverse 19 = .ok (.getfield 139, 3) := by decide +kernel
theorem dX9_areInverse_22 : decode cX9_areInverse 22 = .ok (.if_icmp .ne 20, 3) := by decide +kernel
theorem dX9_areInverse_25 : decode cX9_areInverse 25 = .ok (.aload_n 3, 1) := by decide +kernel
theorem dX9_areInverse_26 : decode cX9_areInverse 26 = .ok (.aload 4, 2) := by decide +kernel
theorem dX9_areInverse_28 : decode cX9_areInverse 28 = .ok (.invokestatic 157, 3) := by decide +kernel
theorem dX9_areInverse_31 : decode cX9_areInverse 31 = .ok (.aload_n 3, 1) := by decide +kernel
theorem dX9_areInverse_32 : decode cX9_areInverse 32 = .ok (.getfield 139, 3) := by decide +kernel
theorem dX9_areInverse_35 : decode cX9_areInverse 35 = .ok (.if_icmp .ne 7, 3) := by decide +kernel
theorem dX9_areInverse_38 : decode cX9_areInverse 38 = .ok (.iconst 1, 1) := by decide +kernel
theorem dX9_areInverse_39 : decode cX9_areInverse 39 = .ok (.goto 4, 3) := by decide +kernel
theorem dX9_areInverse_42 : decode cX9_areInverse 42 = .ok (.iconst 0, 1) := by decide +kernel
theorem dX9_areInverse_43 : decode cX9_areInverse 43 = .ok (.ireturn, 1) := by decide +kernel
theorem dX9_compare_0 : decode cX9_compare 0 = .ok (.aload_n 0, 1) := by decide +kernel
theorem dX9_compare_1 : decode cX9_compare 1 = .ok (.iload_n 1, 1) := by decide +kernel
theorem dX9_compare_2 : decode cX9_compare 2 = .ok (.invokevirtual 135, 3) := by decide +kernel
theorem dX9_compare_5 : decode cX9_compare 5 = .ok (.aload_n 0, 1) := by decide +kernel
theorem dX9_compare_6 : decode cX9_compare 6 = .ok (.iload_n 2, 1) := by decide +kernel
theorem dX9_compare_7 : decode cX9_compare 7 = .ok (.invokevirtual 135, 3) := by decide +kernel
theorem dX9_compare_10 : decode cX9_compare 10 = .ok (.invokestatic 153, 3) := by decide +kernel
theorem dX9_compare_13 : decode cX9_compare 13 = .ok (.ireturn, 1) := by decide +kernel
theorem dX9_exponentSum_0 : decode cX9_exponentSum 0 = .ok (.aload_n 0, 1) := by decide +kernel
theorem dX9_exponentSum_1 : decode cX9_exponentSum 1 = .ok (.iload_n 1, 1) := by decide +kernel
theorem dX9_exponentSum_2 : decode cX9_exponentSum 2 = .ok (.invokevirtual 135, 3) := by decide +kernel
theorem dX9_exponentSum_5 : decode cX9_exponentSum 5 = .ok (.astore_n 3, 1) := by decide +kernel
theorem dX9_exponentSum_6 : decode cX9_exponentSum 6 = .ok (.iload_n 2, 1) := by decide +kernel
theorem dX9_exponentSum_7 : decode cX9_exponentSum 7 = .ok (.aload_n 0, 1) := by decide +kernel
theorem dX9_exponentSum_8 : decode cX9_exponentSum 8 = .ok (.getfield 16, 3) := by decide +kernel
theorem dX9_exponentSum_11 : decode cX9_exponentSum 11 = .ok (.getfield 126, 3) := by decide +kernel
theorem dX9_exponentSum_14 : decode cX9_exponentSum 14 = .ok (.invokestatic 142, 3) := by decide +kernel
theorem dX9_exponentSum_17 : decode cX9_exponentSum 17 = .ok (.iconst 0, 1) := by decide +kernel
theorem dX9_exponentSum_18 : decode cX9_exponentSum 18 = .ok (.istore 4, 2) := by decide +kernel
theorem dX9_exponentSum_20 : decode cX9_exponentSum 20 = .ok (.iconst 0, 1) := by decide +kernel
theorem dX9_exponentSum_21 : decode cX9_exponentSum 21 = .ok (.istore 5, 2) := by decide +kernel
theorem dX9_exponentSum_23 : decode cX9_exponentSum 23 = .ok (.iload 5, 2) := by decide +kernel
theorem dX9_exponentSum_25 : decode cX9_exponentSum 25 = .ok (.aload_n 3, 1) := by decide +kernel
theorem dX9_exponentSum_26 : decode cX9_exponentSum 26 = .ok (.getfield 139, 3) := by decide +kernel
theorem dX9_exponentSum_29 : decode cX9_exponentSum 29 = .ok (.if_icmp .ge 45, 3) := by decide +kernel
theorem dX9_exponentSum_32 : decode cX9_exponentSum 32 = .ok (.aload_n 3, 1) := by decide +kernel
theorem dX9_exponentSum_33 : decode cX9_exponentSum 33 = .ok (.getfield 146, 3) := by decide +kernel
theorem dX9_exponentSum_36 : decode cX9_exponentSum 36 = .ok (.iload 5, 2) := by decide +kernel
theorem dX9_exponentSum_38 : decode cX9_exponentSum 38 = .ok (.iaload, 1) := by decide +kernel
theorem dX9_exponentSum_39 : decode cX9_exponentSum 39 = .ok (.iconst 2, 1) := by decide +kernel
theorem dX9_exponentSum_40 : decode cX9_exponentSum 40 = .ok (.idiv, 1) := by decide +kernel
theorem dX9_exponentSum_41 : decode cX9_exponentSum 41 = .ok (.iload_n 2, 1) := by decide +kernel
theorem dX9_exponentSum_42 : decode cX9_exponentSum 42 = .ok (.if_icmp .ne 26, 3) := by decide +kernel
theorem dX9_exponentSum_45 : decode cX9_exponentSum 45 = .ok (.iload 4, 2) := by decide +kernel
theorem dX9_exponentSum_47 : decode cX9_exponentSum 47 = .ok (.aload_n 3, 1) := by decide +kernel
theorem dX9_exponentSum_48 : decode cX9_exponentSum 48 = .ok (.getfield 146, 3) := by decide +kernel
theorem dX9_exponentSum_51 : decode cX9_exponentSum 51 = .ok (.iload 5, 2) := by decide +kernel
theorem dX9_exponentSum_53 : decode cX9_exponentSum 53 = .ok (.iaload, 1) := by decide +kernel
theorem dX9_exponentSum_54 : decode cX9_exponentSum 54 = .ok (.invokestatic 160, 3) := by decide +kernel
theorem dX9_exponentSum_57 : decode cX9_exponentSum 57 = .ok (.ifCond .eq 7, 3) := by decide +kernel
theorem dX9_exponentSum_60 : decode cX9_exponentSum 60 = .ok (.iconst (-1), 1) := by decide +kernel
theorem dX9_exponentSum_61 : decode cX9_exponentSum 61 = .ok (.goto 4, 3) := by decide +kernel
theorem dX9_exponentSum_64 : decode cX9_exponentSum 64 = .ok (.iconst 1, 1) := by decide +kernel
theorem dX9_exponentSum_65 : decode cX9_exponentSum 65 = .ok (.iadd, 1) := by decide +kernel
theorem dX9_exponentSum_66 : decode cX9_exponentSum 66 = .ok (.istore 4, 2) := by decide +kernel
theorem dX9_exponentSum_68 : decode cX9_exponentSum 68 = .ok (.iinc 5 1, 3) := by decide +kernel
theorem dX9_exponentSum_71 : decode cX9_exponentSum 71 = .ok (.goto (-48), 3) := by decide +kernel
theorem dX9_exponentSum_74 : decode cX9_exponentSum 74 = .ok (.iload 4, 2) := by decide +kernel
theorem dX9_exponentSum_76 : decode cX9_exponentSum 76 = .ok (.ireturn, 1) := by decide +kernel
theorem dX9_commonPrefix_0 : decode cX9_commonPrefix 0 = .ok (.aload_n 0, 1) := by decide +kernel
theorem dX9_commonPrefix_1 : decode cX9_commonPrefix 1 = .ok (.iload_n 1, 1) := by decide +kernel
theorem dX9_commonPrefix_2 : decode cX9_commonPrefix 2 = .ok (.invokevirtual 135, 3) := by decide +kernel
theorem dX9_commonPrefix_5 : decode cX9_commonPrefix 5 = .ok (.aload_n 0, 1) := by decide +kernel
theorem dX9_commonPrefix_6 : decode cX9_commonPrefix 6 = .ok (.iload_n 2, 1) := by decide +kernel
theorem dX9_commonPrefix_7 : decode cX9_commonPrefix 7 = .ok (.invokevirtual 135, 3) := by decide +kernel
theorem dX9_commonPrefix_10 : decode cX9_commonPrefix 10 = .ok (.invokestatic 164, 3) := by decide +kernel
theorem dX9_commonPrefix_13 : decode cX9_commonPrefix 13 = .ok (.ireturn, 1) := by decide +kernel
theorem dX9_cancellation_0 : decode cX9_cancellation 0 = .ok (.aload_n 0, 1) := by decide +kernel
theorem dX9_cancellation_1 : decode cX9_cancellation 1 = .ok (.iload_n 1, 1) := by decide +kernel
theorem dX9_cancellation_2 : decode cX9_cancellation 2 = .ok (.invokevirtual 135, 3) := by decide +kernel
theorem dX9_cancellation_5 : decode cX9_cancellation 5 = .ok (.aload_n 0, 1) := by decide +kernel
theorem dX9_cancellation_6 : decode cX9_cancellation 6 = .ok (.iload_n 2, 1) := by decide +kernel
theorem dX9_cancellation_7 : decode cX9_cancellation 7 = .ok (.invokevirtual 135, 3) := by decide +kernel
theorem dX9_cancellation_10 : decode cX9_cancellation 10 = .ok (.invokestatic 157, 3) := by decide +kernel
theorem dX9_cancellation_13 : decode cX9_cancellation 13 = .ok (.ireturn, 1) := by decide +kernel
theorem dX9_doCommute_0 : decode cX9_doCommute 0 = .ok (.aload_n 0, 1) := by decide +kernel
theorem dX9_doCommute_1 : decode cX9_doCommute 1 = .ok (.aload_n 0, 1) := by decide +kernel
theorem dX9_doCommute_2 : decode cX9_doCommute 2 = .ok (.iload_n 1, 1) := by decide +kernel
theorem dX9_doCommute_3 : decode cX9_doCommute 3 = .ok (.invokevirtual 135, 3) := by decide +kernel
theorem dX9_doCommute_6 : decode cX9_doCommute 6 = .ok (.aload_n 0, 1) := by decide +kernel
theorem dX9_doCommute_7 : decode cX9_doCommute 7 = .ok (.iload_n 2, 1) := by decide +kernel
theorem dX9_doCommute_8 : decode cX9_doCommute 8 = .ok (.invokevirtual 135, 3) := by decide +kernel
theorem dX9_doCommute_11 : decode cX9_doCommute 11 = .ok (.invokevirtual 167, 3) := by decide +kernel
theorem dX9_doCommute_14 : decode cX9_doCommute 14 = .ok (.aload_n 0, 1) := by decide +kernel
theorem dX9_doCommute_15 : decode cX9_doCommute 15 = .ok (.getfield 69, 3) := by decide +kernel
theorem dX9_doCommute_18 : decode cX9_doCommute 18 = .ok (.getfield 139, 3) := by decide +kernel
theorem dX9_doCommute_21 : decode cX9_doCommute 21 = .ok (.ifCond .ne 7, 3) := by decide +kernel
theorem dX9_doCommute_24 : decode cX9_doCommute 24 = .ok (.iconst 1, 1) := by decide +kernel
theorem dX9_doCommute_25 : decode cX9_doCommute 25 = .ok (.goto 4, 3) := by decide +kernel
theorem dX9_doCommute_28 : decode cX9_doCommute 28 = .ok (.iconst 0, 1) := by decide +kernel
theorem dX9_doCommute_29 : decode cX9_doCommute 29 = .ok (.ireturn, 1) := by decide +kernel
theorem dX9_coreLength_0 : decode cX9_coreLength 0 = .ok (.aload_n 0, 1) := by decide +kernel
theorem dX9_coreLength_1 : decode cX9_coreLength 1 = .ok (.iload_n 1, 1) := by decide +kernel
theorem dX9_coreLength_2 : decode cX9_coreLength 2 = .ok (.invokevirtual 135, 3) := by decide +kernel
theorem dX9_coreLength_5 : decode cX9_coreLength 5 = .ok (.invokevirtual 171, 3) := by decide +kernel
theorem dX9_coreLength_8 : decode cX9_coreLength 8 = .ok (.ireturn, 1) := by decide +kernel
theorem dX9_coreLetter_0 : decode cX9_coreLetter 0 = .ok (.aload_n 0, 1) := by decide +kernel
theorem dX9_coreLetter_1 : decode cX9_coreLetter 1 = .ok (.iload_n 1, 1) := by decide +kernel
theorem dX9_coreLetter_2 : decode cX9_coreLetter 2 = .ok (.invokevirtual 135, 3) := by decide +kernel
theorem dX9_coreLetter_5 : decode cX9_coreLetter 5 = .ok (.astore_n 3, 1) := by decide +kernel
theorem dX9_coreLetter_6 : decode cX9_coreLetter 6 = .ok (.iload_n 2, 1) := by decide +kernel
theorem dX9_coreLetter_7 : decode cX9_coreLetter 7 = .ok (.aload_n 3, 1) := by decide +kernel
theorem dX9_coreLetter_8 : decode cX9_coreLetter 8 = .ok (.invokevirtual 171, 3) := by decide +kernel
theorem dX9_coreLetter_11 : decode cX9_coreLetter 11 = .ok (.invokestatic 142, 3) := by decide +kernel
theorem dX9_coreLetter_14 : decode cX9_coreLetter 14 = .ok (.aload_n 3, 1) := by decide +kernel
theorem dX9_coreLetter_15 : decode cX9_coreLetter 15 = .ok (.getfield 146, 3) := by decide +kernel
theorem dX9_coreLetter_18 : decode cX9_coreLetter 18 = .ok (.aload_n 3, 1) := by decide +kernel
theorem dX9_coreLetter_19 : decode cX9_coreLetter 19 = .ok (.invokevirtual 175, 3) := by decide +kernel
theorem dX9_coreLetter_22 : decode cX9_coreLetter 22 = .ok (.iload_n 2, 1) := by decide +kernel
theorem dX9_coreLetter_23 : decode cX9_coreLetter 23 = .ok (.iadd, 1) := by decide +kernel
theorem dX9_coreLetter_24 : decode cX9_coreLetter 24 = .ok (.iaload, 1) := by decide +kernel
theorem dX9_coreLetter_25 : decode cX9_coreLetter 25 = .ok (.invokestatic 149, 3) := by decide +kernel
theorem dX9_coreLetter_28 : decode cX9_coreLetter 28 = .ok (.ireturn, 1) := by decide +kernel
theorem dX9_areConjugate_0 : decode cX9_areConjugate 0 = .ok (.aload_n 0, 1) := by decide +kernel
theorem dX9_areConjugate_1 : decode cX9_areConjugate 1 = .ok (.iload_n 1, 1) := by decide +kernel
theorem dX9_areConjugate_2 : decode cX9_areConjugate 2 = .ok (.invokevirtual 135, 3) := by decide +kernel
theorem dX9_areConjugate_5 : decode cX9_areConjugate 5 = .ok (.aload_n 0, 1) := by decide +kernel
theorem dX9_areConjugate_6 : decode cX9_areConjugate 6 = .ok (.iload_n 2, 1) := by decide +kernel
theorem dX9_areConjugate_7 : decode cX9_areConjugate 7 = .ok (.invokevirtual 135, 3) := by decide +kernel
theorem dX9_areConjugate_10 : decode cX9_areConjugate 10 = .ok (.invokestatic 178, 3) := by decide +kernel
theorem dX9_areConjugate_13 : decode cX9_areConjugate 13 = .ok (.iconst (-1), 1) := by decide +kernel
theorem dX9_areConjugate_14 : decode cX9_areConjugate 14 = .ok (.if_icmp .eq 7, 3) := by decide +kernel
theorem dX9_areConjugate_17 : decode cX9_areConjugate 17 = .ok (.iconst 1, 1) := by decide +kernel
theorem dX9_areConjugate_18 : decode cX9_areConjugate 18 = .ok (.goto 4, 3) := by decide +kernel
theorem dX9_areConjugate_21 : decode cX9_areConjugate 21 = .ok (.iconst 0, 1) := by decide +kernel
theorem dX9_areConjugate_22 : decode cX9_areConjugate 22 = .ok (.ireturn, 1) := by decide +kernel
theorem dX9_rotation_0 : decode cX9_rotation 0 = .ok (.aload_n 0, 1) := by decide +kernel
theorem dX9_rotation_1 : decode cX9_rotation 1 = .ok (.iload_n 1, 1) := by decide +kernel
theorem dX9_rotation_2 : decode cX9_rotation 2 = .ok (.invokevirtual 135, 3) := by decide +kernel
theorem dX9_rotation_5 : decode cX9_rotation 5 = .ok (.aload_n 0, 1) := by decide +kernel
theorem dX9_rotation_6 : decode cX9_rotation 6 = .ok (.iload_n 2, 1) := by decide +kernel
theorem dX9_rotation_7 : decode cX9_rotation 7 = .ok (.invokevirtual 135, 3) := by decide +kernel
theorem dX9_rotation_10 : decode cX9_rotation 10 = .ok (.invokestatic 178, 3) := by decide +kernel
theorem dX9_rotation_13 : decode cX9_rotation 13 = .ok (.istore_n 3, 1) := by decide +kernel
theorem dX9_rotation_14 : decode cX9_rotation 14 = .ok (.iload_n 3, 1) := by decide +kernel
theorem dX9_rotation_15 : decode cX9_rotation 15 = .ok (.iconst (-1), 1) := by decide +kernel
theorem dX9_rotation_16 : decode cX9_rotation 16 = .ok (.if_icmp .ne 13, 3) := by decide +kernel
theorem dX9_rotation_19 : decode cX9_rotation 19 = .ok (.new 181, 3) := by decide +kernel
theorem dX9_rotation_22 : decode cX9_rotation 22 = .ok (.dup, 1) := by decide +kernel
theorem dX9_rotation_23 : decode cX9_rotation 23 = .ok (.ldc 183, 2) := by decide +kernel
theorem dX9_rotation_25 : decode cX9_rotation 25 = .ok (.invokespecial 185, 3) := by decide +kernel
theorem dX9_rotation_28 : decode cX9_rotation 28 = .ok (.athrow, 1) := by decide +kernel
theorem dX9_rotation_29 : decode cX9_rotation 29 = .ok (.iload_n 3, 1) := by decide +kernel
theorem dX9_rotation_30 : decode cX9_rotation 30 = .ok (.ireturn, 1) := by decide +kernel
theorem dX9_rootExponent_0 : decode cX9_rootExponent 0 = .ok (.aload_n 0, 1) := by decide +kernel
theorem dX9_rootExponent_1 : decode cX9_rootExponent 1 = .ok (.iload_n 1, 1) := by decide +kernel
theorem dX9_rootExponent_2 : decode cX9_rootExponent 2 = .ok (.invokevirtual 135, 3) := by decide +kernel
theorem dX9_rootExponent_5 : decode cX9_rootExponent 5 = .ok (.astore_n 2, 1) := by decide +kernel
theorem dX9_rootExponent_6 : decode cX9_rootExponent 6 = .ok (.aload_n 2, 1) := by decide +kernel
theorem dX9_rootExponent_7 : decode cX9_rootExponent 7 = .ok (.invokestatic 186, 3) := by decide +kernel
theorem dX9_rootExponent_10 : decode cX9_rootExponent 10 = .ok (.aload_n 2, 1) := by decide +kernel
theorem dX9_rootExponent_11 : decode cX9_rootExponent 11 = .ok (.invokevirtual 190, 3) := by decide +kernel
theorem dX9_rootExponent_14 : decode cX9_rootExponent 14 = .ok (.ireturn, 1) := by decide +kernel
theorem dX9_magnusDegree_0 : decode cX9_magnusDegree 0 = .ok (.aload_n 0, 1) := by decide +kernel
theorem dX9_magnusDegree_1 : decode cX9_magnusDegree 1 = .ok (.getfield 60, 3) := by decide +kernel
theorem dX9_magnusDegree_4 : decode cX9_magnusDegree 4 = .ok (.aload_n 0, 1) := by decide +kernel
theorem dX9_magnusDegree_5 : decode cX9_magnusDegree 5 = .ok (.iload_n 1, 1) := by decide +kernel
theorem dX9_magnusDegree_6 : decode cX9_magnusDegree 6 = .ok (.invokevirtual 135, 3) := by decide +kernel
theorem dX9_magnusDegree_9 : decode cX9_magnusDegree 9 = .ok (.invokevirtual 193, 3) := by decide +kernel
theorem dX9_magnusDegree_12 : decode cX9_magnusDegree 12 = .ok (.iconst 1, 1) := by decide +kernel
theorem dX9_magnusDegree_13 : decode cX9_magnusDegree 13 = .ok (.istore_n 2, 1) := by decide +kernel
theorem dX9_magnusDegree_14 : decode cX9_magnusDegree 14 = .ok (.iload_n 2, 1) := by decide +kernel
theorem dX9_magnusDegree_15 : decode cX9_magnusDegree 15 = .ok (.iconst 4, 1) := by decide +kernel
theorem dX9_magnusDegree_16 : decode cX9_magnusDegree 16 = .ok (.if_icmp .gt 24, 3) := by decide +kernel
theorem dX9_magnusDegree_19 : decode cX9_magnusDegree 19 = .ok (.aload_n 0, 1) := by decide +kernel
theorem dX9_magnusDegree_20 : decode cX9_magnusDegree 20 = .ok (.getfield 60, 3) := by decide +kernel
theorem dX9_magnusDegree_23 : decode cX9_magnusDegree 23 = .ok (.iload_n 2, 1) := by decide +kernel
theorem dX9_magnusDegree_24 : decode cX9_magnusDegree 24 = .ok (.invokevirtual 196, 3) := by decide +kernel
theorem dX9_magnusDegree_27 : decode cX9_magnusDegree 27 = .ok (.lconst 0, 1) := by decide +kernel
theorem dX9_magnusDegree_28 : decode cX9_magnusDegree 28 = .ok (.lcmp, 1) := by decide +kernel
theorem dX9_magnusDegree_29 : decode cX9_magnusDegree 29 = .ok (.ifCond .eq 5, 3) := by decide +kernel
theorem dX9_magnusDegree_32 : decode cX9_magnusDegree 32 = .ok (.iload_n 2, 1) := by decide +kernel
theorem dX9_magnusDegree_33 : decode cX9_magnusDegree 33 = .ok (.ireturn, 1) := by decide +kernel
theorem dX9_magnusDegree_34 : decode cX9_magnusDegree 34 = .ok (.iinc 2 1, 3) := by decide +kernel
theorem dX9_magnusDegree_37 : decode cX9_magnusDegree 37 = .ok (.goto (-23), 3) := by decide +kernel
theorem dX9_magnusDegree_40 : decode cX9_magnusDegree 40 = .ok (.iconst (-1), 1) := by decide +kernel
theorem dX9_magnusDegree_41 : decode cX9_magnusDegree 41 = .ok (.ireturn, 1) := by decide +kernel
theorem dX9_magnusCoefficient_0 : decode cX9_magnusCoefficient 0 = .ok (.aload_n 0, 1) := by decide +kernel
theorem dX9_magnusCoefficient_1 : decode cX9_magnusCoefficient 1 = .ok (.iload_n 1, 1) := by decide +kernel
theorem dX9_magnusCoefficient_2 : decode cX9_magnusCoefficient 2 = .ok (.invokevirtual 135, 3) := by decide +kernel
theorem dX9_magnusCoefficient_5 : decode cX9_magnusCoefficient 5 = .ok (.astore 4, 2) := by decide +kernel
theorem dX9_magnusCoefficient_7 : decode cX9_magnusCoefficient 7 = .ok (.iload_n 2, 1) := by decide +kernel
theorem dX9_magnusCoefficient_8 : decode cX9_magnusCoefficient 8 = .ok (.aload_n 0, 1) := by decide +kernel
theorem dX9_magnusCoefficient_9 : decode cX9_magnusCoefficient 9 = .ok (.getfield 16, 3) := by decide +kernel
theorem dX9_magnusCoefficient_12 : decode cX9_magnusCoefficient 12 = .ok (.getfield 126, 3) := by decide +kernel
theorem dX9_magnusCoefficient_15 : decode cX9_magnusCoefficient 15 = .ok (.invokestatic 142, 3) := by decide +kernel
theorem dX9_magnusCoefficient_18 : decode cX9_magnusCoefficient 18 = .ok (.iload_n 3, 1) := by decide +kernel
theorem dX9_magnusCoefficient_19 : decode cX9_magnusCoefficient 19 = .ok (.aload_n 0, 1) := by decide +kernel
theorem dX9_magnusCoefficient_20 : decode cX9_magnusCoefficient 20 = .ok (.getfield 16, 3) := by decide +kernel
theorem dX9_magnusCoefficient_23 : decode cX9_magnusCoefficient 23 = .ok (.getfield 126, 3) := by decide +kernel
theorem dX9_magnusCoefficient_26 : decode cX9_magnusCoefficient 26 = .ok (.invokestatic 142, 3) := by decide +kernel
theorem dX9_magnusCoefficient_29 : decode cX9_magnusCoefficient 29 = .ok (.aload_n 0, 1) := by decide +kernel
theorem dX9_magnusCoefficient_30 : decode cX9_magnusCoefficient 30 = .ok (.getfield 60, 3) := by decide +kernel
theorem dX9_magnusCoefficient_33 : decode cX9_magnusCoefficient 33 = .ok (.aload 4, 2) := by decide +kernel
theorem dX9_magnusCoefficient_35 : decode cX9_magnusCoefficient 35 = .ok (.invokevirtual 193, 3) := by decide +kernel
theorem dX9_magnusCoefficient_38 : decode cX9_magnusCoefficient 38 = .ok (.aload_n 0, 1) := by decide +kernel
theorem dX9_magnusCoefficient_39 : decode cX9_magnusCoefficient 39 = .ok (.getfield 60, 3) := by decide +kernel
theorem dX9_magnusCoefficient_42 : decode cX9_magnusCoefficient 42 = .ok (.iload_n 2, 1) := by decide +kernel
theorem dX9_magnusCoefficient_43 : decode cX9_magnusCoefficient 43 = .ok (.iload_n 3, 1) := by decide +kernel
theorem dX9_magnusCoefficient_44 : decode cX9_magnusCoefficient 44 = .ok (.invokevirtual 200, 3) := by decide +kernel
theorem dX9_magnusCoefficient_47 : decode cX9_magnusCoefficient 47 = .ok (.ireturn, 1) := by decide +kernel
theorem dX9_magnusNorm_0 : decode cX9_magnusNorm 0 = .ok (.aload_n 0, 1) := by decide +kernel
theorem dX9_magnusNorm_1 : decode cX9_magnusNorm 1 = .ok (.iload_n 1, 1) := by decide +kernel
theorem dX9_magnusNorm_2 : decode cX9_magnusNorm 2 = .ok (.invokevirtual 135, 3) := by decide +kernel
theorem dX9_magnusNorm_5 : decode cX9_magnusNorm 5 = .ok (.astore_n 3, 1) := by decide +kernel
theorem dX9_magnusNorm_6 : decode cX9_magnusNorm 6 = .ok (.iload_n 2, 1) := by decide +kernel
theorem dX9_magnusNorm_7 : decode cX9_magnusNorm 7 = .ok (.ifCond .lt 8, 3) := by decide +kernel
theorem dX9_magnusNorm_10 : decode cX9_magnusNorm 10 = .ok (.iload_n 2, 1) := by decide +kernel
theorem dX9_magnusNorm_11 : decode cX9_magnusNorm 11 = .ok (.iconst 4, 1) := by decide +kernel
theorem dX9_magnusNorm_12 : decode cX9_magnusNorm 12 = .ok (.if_icmp .le 13, 3) := by decide +kernel
theorem dX9_magnusNorm_15 : decode cX9_magnusNorm 15 = .ok (.new 98, 3) := by decide +kernel
theorem dX9_magnusNorm_18 : decode cX9_magnusNorm 18 = .ok (.dup, 1) := by decide +kernel
theorem dX9_magnusNorm_19 : decode cX9_magnusNorm 19 = .ok (.ldc 204, 2) := by decide +kernel
theorem dX9_magnusNorm_21 : decode cX9_magnusNorm 21 = .ok (.invokespecial 102, 3) := by decide +kernel
theorem dX9_magnusNorm_24 : decode cX9_magnusNorm 24 = .ok (.athrow, 1) := by decide +kernel
theorem dX9_magnusNorm_25 : decode cX9_magnusNorm 25 = .ok (.aload_n 0, 1) := by decide +kernel
theorem dX9_magnusNorm_26 : decode cX9_magnusNorm 26 = .ok (.getfield 60, 3) := by decide +kernel
theorem dX9_magnusNorm_29 : decode cX9_magnusNorm 29 = .ok (.aload_n 3, 1) := by decide +kernel
theorem dX9_magnusNorm_30 : decode cX9_magnusNorm 30 = .ok (.invokevirtual 193, 3) := by decide +kernel
theorem dX9_magnusNorm_33 : decode cX9_magnusNorm 33 = .ok (.aload_n 0, 1) := by decide +kernel
theorem dX9_magnusNorm_34 : decode cX9_magnusNorm 34 = .ok (.getfield 60, 3) := by decide +kernel
theorem dX9_magnusNorm_37 : decode cX9_magnusNorm 37 = .ok (.iload_n 2, 1) := by decide +kernel
theorem dX9_magnusNorm_38 : decode cX9_magnusNorm 38 = .ok (.invokevirtual 196, 3) := by decide +kernel
theorem dX9_magnusNorm_41 : decode cX9_magnusNorm 41 = .ok (.lreturn, 1) := by decide +kernel
theorem dX9_generatingWordCount_0 : decode cX9_generatingWordCount 0 = .ok (.iload_n 1, 1) := by decide +kernel
theorem dX9_generatingWordCount_1 : decode cX9_generatingWordCount 1 = .ok (.iconst 2, 1) := by decide +kernel
theorem dX9_generatingWordCount_2 : decode cX9_generatingWordCount 2 = .ok (.invokestatic 142, 3) := by decide +kernel
theorem dX9_generatingWordCount_5 : decode cX9_generatingWordCount 5 = .ok (.aload_n 0, 1) := by decide +kernel
theorem dX9_generatingWordCount_6 : decode cX9_generatingWordCount 6 = .ok (.getfield 16, 3) := by decide +kernel
theorem dX9_generatingWordCount_9 : decode cX9_generatingWordCount 9 = .ok (.getfield 206, 3) := by decide +kernel
theorem dX9_generatingWordCount_12 : decode cX9_generatingWordCount 12 = .ok (.iload_n 1, 1) := by decide +kernel
theorem dX9_generatingWordCount_13 : decode cX9_generatingWordCount 13 = .ok (.iaload, 1) := by decide +kernel
theorem dX9_generatingWordCount_14 : decode cX9_generatingWordCount 14 = .ok (.ireturn, 1) := by decide +kernel
theorem dX9_vertexCount_0 : decode cX9_vertexCount 0 = .ok (.aload_n 0, 1) := by decide +kernel
theorem dX9_vertexCount_1 : decode cX9_vertexCount 1 = .ok (.iload_n 1, 1) := by decide +kernel
theorem dX9_vertexCount_2 : decode cX9_vertexCount 2 = .ok (.invokevirtual 209, 3) := by decide +kernel
theorem dX9_vertexCount_5 : decode cX9_vertexCount 5 = .ok (.getfield 213, 3) := by decide +kernel
theorem dX9_vertexCount_8 : decode cX9_vertexCount 8 = .ok (.ireturn, 1) := by decide +kernel
theorem dX9_edgeCount_0 : decode cX9_edgeCount 0 = .ok (.aload_n 0, 1) := by decide +kernel
theorem dX9_edgeCount_1 : decode cX9_edgeCount 1 = .ok (.iload_n 1, 1) := by decide +kernel
theorem dX9_edgeCount_2 : decode cX9_edgeCount 2 = .ok (.invokevirtual 209, 3) := by decide +kernel
theorem dX9_edgeCount_5 : decode cX9_edgeCount 5 = .ok (.getfield 216, 3) := by decide +kernel
theorem dX9_edgeCount_8 : decode cX9_edgeCount 8 = .ok (.ireturn, 1) := by decide +kernel
theorem dX9_neighbour_0 : decode cX9_neighbour 0 = .ok (.aload_n 0, 1) := by decide +kernel
theorem dX9_neighbour_1 : decode cX9_neighbour 1 = .ok (.iload_n 1, 1) := by decide +kernel
theorem dX9_neighbour_2 : decode cX9_neighbour 2 = .ok (.invokevirtual 209, 3) := by decide +kernel
theorem dX9_neighbour_5 : decode cX9_neighbour 5 = .ok (.astore 4, 2) := by decide +kernel
theorem dX9_neighbour_7 : decode cX9_neighbour 7 = .ok (.iload_n 2, 1) := by decide +kernel
theorem dX9_neighbour_8 : decode cX9_neighbour 8 = .ok (.aload 4, 2) := by decide +kernel
theorem dX9_neighbour_10 : decode cX9_neighbour 10 = .ok (.getfield 213, 3) := by decide +kernel
theorem dX9_neighbour_13 : decode cX9_neighbour 13 = .ok (.invokestatic 142, 3) := by decide +kernel
theorem dX9_neighbour_16 : decode cX9_neighbour 16 = .ok (.iload_n 3, 1) := by decide +kernel
theorem dX9_neighbour_17 : decode cX9_neighbour 17 = .ok (.iconst 2, 1) := by decide +kernel
theorem dX9_neighbour_18 : decode cX9_neighbour 18 = .ok (.aload_n 0, 1) := by decide +kernel
theorem dX9_neighbour_19 : decode cX9_neighbour 19 = .ok (.getfield 16, 3) := by decide +kernel
theorem dX9_neighbour_22 : decode cX9_neighbour 22 = .ok (.getfield 126, 3) := by decide +kernel
theorem dX9_neighbour_25 : decode cX9_neighbour 25 = .ok (.imul, 1) := by decide +kernel
theorem dX9_neighbour_26 : decode cX9_neighbour 26 = .ok (.invokestatic 142, 3) := by decide +kernel
theorem dX9_neighbour_29 : decode cX9_neighbour 29 = .ok (.aload 4, 2) := by decide +kernel
theorem dX9_neighbour_31 : decode cX9_neighbour 31 = .ok (.iload_n 2, 1) := by decide +kernel
theorem dX9_neighbour_32 : decode cX9_neighbour 32 = .ok (.iload_n 3, 1) := by decide +kernel
theorem dX9_neighbour_33 : decode cX9_neighbour 33 = .ok (.invokevirtual 219, 3) := by decide +kernel
theorem dX9_neighbour_36 : decode cX9_neighbour 36 = .ok (.ireturn, 1) := by decide +kernel
theorem dX9_subgroupRank_0 : decode cX9_subgroupRank 0 = .ok (.aload_n 0, 1) := by decide +kernel
theorem dX9_subgroupRank_1 : decode cX9_subgroupRank 1 = .ok (.iload_n 1, 1) := by decide +kernel
theorem dX9_subgroupRank_2 : decode cX9_subgroupRank 2 = .ok (.invokevirtual 209, 3) := by decide +kernel
theorem dX9_subgroupRank_5 : decode cX9_subgroupRank 5 = .ok (.invokevirtual 222, 3) := by decide +kernel
theorem dX9_subgroupRank_8 : decode cX9_subgroupRank 8 = .ok (.ireturn, 1) := by decide +kernel
theorem dX9_index_0 : decode cX9_index 0 = .ok (.aload_n 0, 1) := by decide +kernel
theorem dX9_index_1 : decode cX9_index 1 = .ok (.iload_n 1, 1) := by decide +kernel
theorem dX9_index_2 : decode cX9_index 2 = .ok (.invokevirtual 209, 3) := by decide +kernel
theorem dX9_index_5 : decode cX9_index 5 = .ok (.astore_n 2, 1) := by decide +kernel
theorem dX9_index_6 : decode cX9_index 6 = .ok (.aload_n 2, 1) := by decide +kernel
theorem dX9_index_7 : decode cX9_index 7 = .ok (.aload_n 0, 1) := by decide +kernel
theorem dX9_index_8 : decode cX9_index 8 = .ok (.getfield 16, 3) := by decide +kernel
theorem dX9_index_11 : decode cX9_index 11 = .ok (.getfield 126, 3) := by decide +kernel
theorem dX9_index_14 : decode cX9_index 14 = .ok (.invokevirtual 225, 3) := by decide +kernel
theorem dX9_index_17 : decode cX9_index 17 = .ok (.ifCond .eq 10, 3) := by decide +kernel
theorem dX9_index_20 : decode cX9_index 20 = .ok (.aload_n 2, 1) := by decide +kernel
theorem dX9_index_21 : decode cX9_index 21 = .ok (.getfield 213, 3) := by decide +kernel
theorem dX9_index_24 : decode cX9_index 24 = .ok (.goto 4, 3) := by decide +kernel
theorem dX9_index_27 : decode cX9_index 27 = .ok (.iconst (-1), 1) := by decide +kernel
theorem dX9_index_28 : decode cX9_index 28 = .ok (.ireturn, 1) := by decide +kernel
theorem dX9_contains_0 : decode cX9_contains 0 = .ok (.aload_n 0, 1) := by decide +kernel
theorem dX9_contains_1 : decode cX9_contains 1 = .ok (.iload_n 1, 1) := by decide +kernel
theorem dX9_contains_2 : decode cX9_contains 2 = .ok (.invokevirtual 209, 3) := by decide +kernel
theorem dX9_contains_5 : decode cX9_contains 5 = .ok (.iconst 0, 1) := by decide +kernel
theorem dX9_contains_6 : decode cX9_contains 6 = .ok (.aload_n 0, 1) := by decide +kernel
theorem dX9_contains_7 : decode cX9_contains 7 = .ok (.iload_n 2, 1) := by decide +kernel
theorem dX9_contains_8 : decode cX9_contains 8 = .ok (.invokevirtual 135, 3) := by decide +kernel
theorem dX9_contains_11 : decode cX9_contains 11 = .ok (.invokevirtual 228, 3) := by decide +kernel
theorem dX9_contains_14 : decode cX9_contains 14 = .ok (.ireturn, 1) := by decide +kernel
theorem dX9_reachedVertex_0 : decode cX9_reachedVertex 0 = .ok (.aload_n 0, 1) := by decide +kernel
theorem dX9_reachedVertex_1 : decode cX9_reachedVertex 1 = .ok (.iload_n 1, 1) := by decide +kernel
theorem dX9_reachedVertex_2 : decode cX9_reachedVertex 2 = .ok (.invokevirtual 209, 3) := by decide +kernel
theorem dX9_reachedVertex_5 : decode cX9_reachedVertex 5 = .ok (.astore_n 3, 1) := by decide +kernel
theorem dX9_reachedVertex_6 : decode cX9_reachedVertex 6 = .ok (.aload_n 0, 1) := by decide +kernel
theorem dX9_reachedVertex_7 : decode cX9_reachedVertex 7 = .ok (.iload_n 2, 1) := by decide +kernel
theorem dX9_reachedVertex_8 : decode cX9_reachedVertex 8 = .ok (.invokevirtual 135, 3) := by decide +kernel
theorem dX9_reachedVertex_11 : decode cX9_reachedVertex 11 = .ok (.astore 4, 2) := by decide +kernel
theorem dX9_reachedVertex_13 : decode cX9_reachedVertex 13 = .ok (.aload_n 3, 1) := by decide +kernel
theorem dX9_reachedVertex_14 : decode cX9_reachedVertex 14 = .ok (.iconst 0, 1) := by decide +kernel
theorem dX9_reachedVertex_15 : decode cX9_reachedVertex 15 = .ok (.aload 4, 2) := by decide +kernel
theorem dX9_reachedVertex_17 : decode cX9_reachedVertex 17 = .ok (.iconst 0, 1) := by decide +kernel
theorem dX9_reachedVertex_18 : decode cX9_reachedVertex 18 = .ok (.aload 4, 2) := by decide +kernel
theorem dX9_reachedVertex_20 : decode cX9_reachedVertex 20 = .ok (.getfield 139, 3) := by decide +kernel
theorem dX9_reachedVertex_23 : decode cX9_reachedVertex 23 = .ok (.invokevirtual 232, 3) := by decide +kernel
theorem dX9_reachedVertex_26 : decode cX9_reachedVertex 26 = .ok (.ireturn, 1) := by decide +kernel
