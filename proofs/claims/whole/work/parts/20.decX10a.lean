/-! rows that decode -/
theorem dX10_init_0 : decode cX10_init 0 = .ok (.aload_n 0, 1) := by decide +kernel
theorem dX10_init_1 : decode cX10_init 1 = .ok (.invokespecial 1, 3) := by decide +kernel
theorem dX10_init_4 : decode cX10_init 4 = .ok (.aload_n 0, 1) := by decide +kernel
theorem dX10_init_5 : decode cX10_init 5 = .ok (.sipush 13453, 3) := by decide +kernel
theorem dX10_init_8 : decode cX10_init 8 = .ok (.newarray .int, 2) := by decide +kernel
theorem dX10_init_10 : decode cX10_init 10 = .ok (.putfield 7, 3) := by decide +kernel
theorem dX10_init_13 : decode cX10_init 13 = .ok (.aload_n 0, 1) := by decide +kernel
theorem dX10_init_14 : decode cX10_init 14 = .ok (.sipush 600, 3) := by decide +kernel
theorem dX10_init_17 : decode cX10_init 17 = .ok (.newarray .byte, 2) := by decide +kernel
theorem dX10_init_19 : decode cX10_init 19 = .ok (.putfield 13, 3) := by decide +kernel
theorem dX10_init_22 : decode cX10_init 22 = .ok (.aload_n 0, 1) := by decide +kernel
theorem dX10_init_23 : decode cX10_init 23 = .ok (.sipush 1000, 3) := by decide +kernel
theorem dX10_init_26 : decode cX10_init 26 = .ok (.newarray .char, 2) := by decide +kernel
theorem dX10_init_28 : decode cX10_init 28 = .ok (.putfield 17, 3) := by decide +kernel
theorem dX10_init_31 : decode cX10_init 31 = .ok (.aload_n 0, 1) := by decide +kernel
theorem dX10_init_32 : decode cX10_init 32 = .ok (.sipush 4000, 3) := by decide +kernel
theorem dX10_init_35 : decode cX10_init 35 = .ok (.newarray .int, 2) := by decide +kernel
theorem dX10_init_37 : decode cX10_init 37 = .ok (.putfield 21, 3) := by decide +kernel
theorem dX10_init_40 : decode cX10_init 40 = .ok (.aload_n 0, 1) := by decide +kernel
theorem dX10_init_41 : decode cX10_init 41 = .ok (.sipush 200, 3) := by decide +kernel
theorem dX10_init_44 : decode cX10_init 44 = .ok (.newarray .int, 2) := by decide +kernel
theorem dX10_init_46 : decode cX10_init 46 = .ok (.putfield 24, 3) := by decide +kernel
theorem dX10_init_49 : decode cX10_init 49 = .ok (.aload_n 0, 1) := by decide +kernel
theorem dX10_init_50 : decode cX10_init 50 = .ok (.sipush 341, 3) := by decide +kernel
theorem dX10_init_53 : decode cX10_init 53 = .ok (.newarray .long, 2) := by decide +kernel
theorem dX10_init_55 : decode cX10_init 55 = .ok (.putfield 27, 3) := by decide +kernel
theorem dX10_init_58 : decode cX10_init 58 = .ok (.aload_n 0, 1) := by decide +kernel
theorem dX10_init_59 : decode cX10_init 59 = .ok (.sipush 2888, 3) := by decide +kernel
theorem dX10_init_62 : decode cX10_init 62 = .ok (.newarray .int, 2) := by decide +kernel
theorem dX10_init_64 : decode cX10_init 64 = .ok (.putfield 31, 3) := by decide +kernel
theorem dX10_init_67 : decode cX10_init 67 = .ok (.aload_n 0, 1) := by decide +kernel
theorem dX10_init_68 : decode cX10_init 68 = .ok (.sipush 361, 3) := by decide +kernel
theorem dX10_init_71 : decode cX10_init 71 = .ok (.newarray .int, 2) := by decide +kernel
theorem dX10_init_73 : decode cX10_init 73 = .ok (.putfield 34, 3) := by decide +kernel
theorem dX10_init_76 : decode cX10_init 76 = .ok (.aload_n 0, 1) := by decide +kernel
theorem dX10_init_77 : decode cX10_init 77 = .ok (.ldc 37, 2) := by decide +kernel
theorem dX10_init_79 : decode cX10_init 79 = .ok (.newarray .int, 2) := by decide +kernel
theorem dX10_init_81 : decode cX10_init 81 = .ok (.putfield 38, 3) := by decide +kernel
theorem dX10_init_84 : decode cX10_init 84 = .ok (.aload_n 0, 1) := by decide +kernel
theorem dX10_init_85 : decode cX10_init 85 = .ok (.sipush 5776, 3) := by decide +kernel
theorem dX10_init_88 : decode cX10_init 88 = .ok (.newarray .int, 2) := by decide +kernel
theorem dX10_init_90 : decode cX10_init 90 = .ok (.putfield 41, 3) := by decide +kernel
theorem dX10_init_93 : decode cX10_init 93 = .ok (.aload_n 0, 1) := by decide +kernel
theorem dX10_init_94 : decode cX10_init 94 = .ok (.iconst 2, 1) := by decide +kernel
theorem dX10_init_95 : decode cX10_init 95 = .ok (.newarray .int, 2) := by decide +kernel
theorem dX10_init_97 : decode cX10_init 97 = .ok (.putfield 44, 3) := by decide +kernel
theorem dX10_init_100 : decode cX10_init 100 = .ok (.aload_n 0, 1) := by decide +kernel
theorem dX10_init_101 : decode cX10_init 101 = .ok (.sipush 722, 3) := by decide +kernel
theorem dX10_init_104 : decode cX10_init 104 = .ok (.newarray .int, 2) := by decide +kernel
theorem dX10_init_106 : decode cX10_init 106 = .ok (.putfield 47, 3) := by decide +kernel
theorem dX10_init_109 : decode cX10_init 109 = .ok (.aload_n 0, 1) := by decide +kernel
theorem dX10_init_110 : decode cX10_init 110 = .ok (.sipush 722, 3) := by decide +kernel
theorem dX10_init_113 : decode cX10_init 113 = .ok (.newarray .int, 2) := by decide +kernel
theorem dX10_init_115 : decode cX10_init 115 = .ok (.putfield 50, 3) := by decide +kernel
theorem dX10_init_118 : decode cX10_init 118 = .ok (.aload_n 0, 1) := by decide +kernel
theorem dX10_init_119 : decode cX10_init 119 = .ok (.sipush 361, 3) := by decide +kernel
theorem dX10_init_122 : decode cX10_init 122 = .ok (.newarray .int, 2) := by decide +kernel
theorem dX10_init_124 : decode cX10_init 124 = .ok (.putfield 53, 3) := by decide +kernel
theorem dX10_init_127 : decode cX10_init 127 = .ok (.aload_n 0, 1) := by decide +kernel
theorem dX10_init_128 : decode cX10_init 128 = .ok (.sipush 361, 3) := by decide +kernel
theorem dX10_init_131 : decode cX10_init 131 = .ok (.newarray .int, 2) := by decide +kernel
theorem dX10_init_133 : decode cX10_init 133 = .ok (.putfield 56, 3) := by decide +kernel
theorem dX10_init_136 : decode cX10_init 136 = .ok (.aload_n 0, 1) := by decide +kernel
theorem dX10_init_137 : decode cX10_init 137 = .ok (.ldc 59, 2) := by decide +kernel
theorem dX10_init_139 : decode cX10_init 139 = .ok (.newarray .int, 2) := by decide +kernel
theorem dX10_init_141 : decode cX10_init 141 = .ok (.putfield 60, 3) := by decide +kernel
theorem dX10_init_144 : decode cX10_init 144 = .ok (.aload_n 0, 1) := by decide +kernel
theorem dX10_init_145 : decode cX10_init 145 = .ok (.ldc 59, 2) := by decide +kernel
theorem dX10_init_147 : decode cX10_init 147 = .ok (.newarray .boolean, 2) := by decide +kernel
theorem dX10_init_149 : decode cX10_init 149 = .ok (.putfield 63, 3) := by decide +kernel
theorem dX10_init_152 : decode cX10_init 152 = .ok (.aload_n 0, 1) := by decide +kernel
theorem dX10_init_153 : decode cX10_init 153 = .ok (.iconst (-1), 1) := by decide +kernel
theorem dX10_init_154 : decode cX10_init 154 = .ok (.putfield 67, 3) := by decide +kernel
theorem dX10_init_157 : decode cX10_init 157 = .ok (.aload_n 0, 1) := by decide +kernel
theorem dX10_init_158 : decode cX10_init 158 = .ok (.iconst 0, 1) := by decide +kernel
theorem dX10_init_159 : decode cX10_init 159 = .ok (.iconst 2, 1) := by decide +kernel
theorem dX10_init_160 : decode cX10_init 160 = .ok (.invokevirtual 71, 3) := by decide +kernel
theorem dX10_init_163 : decode cX10_init 163 = .ok (.return_, 1) := by decide +kernel
theorem dX10_thrown_0 : decode cX10_thrown 0 = .ok (.aload_n 0, 1) := by decide +kernel
theorem dX10_thrown_1 : decode cX10_thrown 1 = .ok (.getfield 75, 3) := by decide +kernel
theorem dX10_thrown_4 : decode cX10_thrown 4 = .ok (.ireturn, 1) := by decide +kernel
theorem dX10_fails_0 : decode cX10_fails 0 = .ok (.aload_n 0, 1) := by decide +kernel
theorem dX10_fails_1 : decode cX10_fails 1 = .ok (.iload_n 1, 1) := by decide +kernel
theorem dX10_fails_2 : decode cX10_fails 2 = .ok (.putfield 75, 3) := by decide +kernel
theorem dX10_fails_5 : decode cX10_fails 5 = .ok (.iconst 0, 1) := by decide +kernel
theorem dX10_fails_6 : decode cX10_fails 6 = .ok (.ireturn, 1) := by decide +kernel
theorem dX10_get_0 : decode cX10_get 0 = .ok (.aload_n 0, 1) := by decide +kernel
theorem dX10_get_1 : decode cX10_get 1 = .ok (.getfield 7, 3) := by decide +kernel
theorem dX10_get_4 : decode cX10_get 4 = .ok (.aload_n 0, 1) := by decide +kernel
theorem dX10_get_5 : decode cX10_get 5 = .ok (.getfield 78, 3) := by decide +kernel
theorem dX10_get_8 : decode cX10_get 8 = .ok (.iload_n 1, 1) := by decide +kernel
theorem dX10_get_9 : decode cX10_get 9 = .ok (.iadd, 1) := by decide +kernel
theorem dX10_get_10 : decode cX10_get 10 = .ok (.iaload, 1) := by decide +kernel
theorem dX10_get_11 : decode cX10_get 11 = .ok (.ireturn, 1) := by decide +kernel
theorem dX10_set_0 : decode cX10_set 0 = .ok (.aload_n 0, 1) := by decide +kernel
theorem dX10_set_1 : decode cX10_set 1 = .ok (.getfield 7, 3) := by decide +kernel
theorem dX10_set_4 : decode cX10_set 4 = .ok (.aload_n 0, 1) := by decide +kernel
theorem dX10_set_5 : decode cX10_set 5 = .ok (.getfield 78, 3) := by decide +kernel
theorem dX10_set_8 : decode cX10_set 8 = .ok (.iload_n 1, 1) := by decide +kernel
theorem dX10_set_9 : decode cX10_set 9 = .ok (.iadd, 1) := by decide +kernel
theorem dX10_set_10 : decode cX10_set 10 = .ok (.iload_n 2, 1) := by decide +kernel
theorem dX10_set_11 : decode cX10_set 11 = .ok (.iastore, 1) := by decide +kernel
theorem dX10_set_12 : decode cX10_set 12 = .ok (.return_, 1) := by decide +kernel
theorem dX10_copies_0 : decode cX10_copies 0 = .ok (.iconst 0, 1) := by decide +kernel
theorem dX10_copies_1 : decode cX10_copies 1 = .ok (.istore_n 3, 1) := by decide +kernel
theorem dX10_copies_2 : decode cX10_copies 2 = .ok (.iload_n 3, 1) := by decide +kernel
theorem dX10_copies_3 : decode cX10_copies 3 = .ok (.sipush 1223, 3) := by decide +kernel
theorem dX10_copies_6 : decode cX10_copies 6 = .ok (.if_icmp .ge 33, 3) := by decide +kernel
theorem dX10_copies_9 : decode cX10_copies 9 = .ok (.aload_n 0, 1) := by decide +kernel
theorem dX10_copies_10 : decode cX10_copies 10 = .ok (.getfield 7, 3) := by decide +kernel
theorem dX10_copies_13 : decode cX10_copies 13 = .ok (.sipush 1223, 3) := by decide +kernel
theorem dX10_copies_16 : decode cX10_copies 16 = .ok (.iload_n 2, 1) := by decide +kernel
theorem dX10_copies_17 : decode cX10_copies 17 = .ok (.imul, 1) := by decide +kernel
theorem dX10_copies_18 : decode cX10_copies 18 = .ok (.iload_n 3, 1) := by decide +kernel
theorem dX10_copies_19 : decode cX10_copies 19 = .ok (.iadd, 1) := by decide +kernel
theorem dX10_copies_20 : decode cX10_copies 20 = .ok (.aload_n 0, 1) := by decide +kernel
theorem dX10_copies_21 : decode cX10_copies 21 = .ok (.getfield 7, 3) := by decide +kernel
theorem dX10_copies_24 : decode cX10_copies 24 = .ok (.sipush 1223, 3) := by decide +kernel
theorem dX10_copies_27 : decode cX10_copies 27 = .ok (.iload_n 1, 1) := by decide +kernel
theorem dX10_copies_28 : decode cX10_copies 28 = .ok (.imul, 1) := by decide +kernel
theorem dX10_copies_29 : decode cX10_copies 29 = .ok (.iload_n 3, 1) := by decide +kernel
theorem dX10_copies_30 : decode cX10_copies 30 = .ok (.iadd, 1) := by decide +kernel
theorem dX10_copies_31 : decode cX10_copies 31 = .ok (.iaload, 1) := by decide +kernel
theorem dX10_copies_32 : decode cX10_copies 32 = .ok (.iastore, 1) := by decide +kernel
theorem dX10_copies_33 : decode cX10_copies 33 = .ok (.iinc 3 1, 3) := by decide +kernel
theorem dX10_copies_36 : decode cX10_copies 36 = .ok (.goto (-34), 3) := by decide +kernel
theorem dX10_copies_39 : decode cX10_copies 39 = .ok (.return_, 1) := by decide +kernel
theorem dX10_records_0 : decode cX10_records 0 = .ok (.aload_n 0, 1) := by decide +kernel
theorem dX10_records_1 : decode cX10_records 1 = .ok (.getfield 81, 3) := by decide +kernel
theorem dX10_records_4 : decode cX10_records 4 = .ok (.aload_n 0, 1) := by decide +kernel
theorem dX10_records_5 : decode cX10_records 5 = .ok (.getfield 84, 3) := by decide +kernel
theorem dX10_records_8 : decode cX10_records 8 = .ok (.iadd, 1) := by decide +kernel
theorem dX10_records_9 : decode cX10_records 9 = .ok (.bipush 8, 2) := by decide +kernel
theorem dX10_records_11 : decode cX10_records 11 = .ok (.irem, 1) := by decide +kernel
theorem dX10_records_12 : decode cX10_records 12 = .ok (.istore_n 1, 1) := by decide +kernel
theorem dX10_records_13 : decode cX10_records 13 = .ok (.aload_n 0, 1) := by decide +kernel
theorem dX10_records_14 : decode cX10_records 14 = .ok (.getfield 84, 3) := by decide +kernel
theorem dX10_records_17 : decode cX10_records 17 = .ok (.bipush 8, 2) := by decide +kernel
theorem dX10_records_19 : decode cX10_records 19 = .ok (.if_icmp .ne 19, 3) := by decide +kernel
theorem dX10_records_22 : decode cX10_records 22 = .ok (.aload_n 0, 1) := by decide +kernel
theorem dX10_records_23 : decode cX10_records 23 = .ok (.aload_n 0, 1) := by decide +kernel
theorem dX10_records_24 : decode cX10_records 24 = .ok (.getfield 81, 3) := by decide +kernel
theorem dX10_records_27 : decode cX10_records 27 = .ok (.iconst 1, 1) := by decide +kernel
theorem dX10_records_28 : decode cX10_records 28 = .ok (.iadd, 1) := by decide +kernel
theorem dX10_records_29 : decode cX10_records 29 = .ok (.bipush 8, 2) := by decide +kernel
theorem dX10_records_31 : decode cX10_records 31 = .ok (.irem, 1) := by decide +kernel
theorem dX10_records_32 : decode cX10_records 32 = .ok (.putfield 81, 3) := by decide +kernel
theorem dX10_records_35 : decode cX10_records 35 = .ok (.goto 13, 3) := by decide +kernel
theorem dX10_records_38 : decode cX10_records 38 = .ok (.aload_n 0, 1) := by decide +kernel
theorem dX10_records_39 : decode cX10_records 39 = .ok (.dup, 1) := by decide +kernel
theorem dX10_records_40 : decode cX10_records 40 = .ok (.getfield 84, 3) := by decide +kernel
theorem dX10_records_43 : decode cX10_records 43 = .ok (.iconst 1, 1) := by decide +kernel
theorem dX10_records_44 : decode cX10_records 44 = .ok (.iadd, 1) := by decide +kernel
theorem dX10_records_45 : decode cX10_records 45 = .ok (.putfield 84, 3) := by decide +kernel
theorem dX10_records_48 : decode cX10_records 48 = .ok (.aload_n 0, 1) := by decide +kernel
theorem dX10_records_49 : decode cX10_records 49 = .ok (.iconst 0, 1) := by decide +kernel
theorem dX10_records_50 : decode cX10_records 50 = .ok (.iconst 1, 1) := by decide +kernel
theorem dX10_records_51 : decode cX10_records 51 = .ok (.iload_n 1, 1) := by decide +kernel
theorem dX10_records_52 : decode cX10_records 52 = .ok (.iadd, 1) := by decide +kernel
theorem dX10_records_53 : decode cX10_records 53 = .ok (.invokevirtual 87, 3) := by decide +kernel
theorem dX10_records_56 : decode cX10_records 56 = .ok (.return_, 1) := by decide +kernel
theorem dX10_isRegister_0 : decode cX10_isRegister 0 = .ok (.iload_n 0, 1) := by decide +kernel
theorem dX10_isRegister_1 : decode cX10_isRegister 1 = .ok (.ifCond .lt 13, 3) := by decide +kernel
theorem dX10_isRegister_4 : decode cX10_isRegister 4 = .ok (.iload_n 0, 1) := by decide +kernel
theorem dX10_isRegister_5 : decode cX10_isRegister 5 = .ok (.bipush 8, 2) := by decide +kernel
theorem dX10_isRegister_7 : decode cX10_isRegister 7 = .ok (.if_icmp .ge 7, 3) := by decide +kernel
theorem dX10_isRegister_10 : decode cX10_isRegister 10 = .ok (.iconst 1, 1) := by decide +kernel
theorem dX10_isRegister_11 : decode cX10_isRegister 11 = .ok (.goto 4, 3) := by decide +kernel
theorem dX10_isRegister_14 : decode cX10_isRegister 14 = .ok (.iconst 0, 1) := by decide +kernel
theorem dX10_isRegister_15 : decode cX10_isRegister 15 = .ok (.ireturn, 1) := by decide +kernel
theorem dX10_areRegisters_0 : decode cX10_areRegisters 0 = .ok (.iload_n 0, 1) := by decide +kernel
theorem dX10_areRegisters_1 : decode cX10_areRegisters 1 = .ok (.invokestatic 90, 3) := by decide +kernel
theorem dX10_areRegisters_4 : decode cX10_areRegisters 4 = .ok (.ifCond .eq 14, 3) := by decide +kernel
theorem dX10_areRegisters_7 : decode cX10_areRegisters 7 = .ok (.iload_n 1, 1) := by decide +kernel
theorem dX10_areRegisters_8 : decode cX10_areRegisters 8 = .ok (.invokestatic 90, 3) := by decide +kernel
theorem dX10_areRegisters_11 : decode cX10_areRegisters 11 = .ok (.ifCond .eq 7, 3) := by decide +kernel
theorem dX10_areRegisters_14 : decode cX10_areRegisters 14 = .ok (.iconst 1, 1) := by decide +kernel
theorem dX10_areRegisters_15 : decode cX10_areRegisters 15 = .ok (.goto 4, 3) := by decide +kernel
theorem dX10_areRegisters_18 : decode cX10_areRegisters 18 = .ok (.iconst 0, 1) := by decide +kernel
theorem dX10_areRegisters_19 : decode cX10_areRegisters 19 = .ok (.ireturn, 1) := by decide +kernel
theorem dX10_isSubgroup_0 : decode cX10_isSubgroup 0 = .ok (.iload_n 0, 1) := by decide +kernel
theorem dX10_isSubgroup_1 : decode cX10_isSubgroup 1 = .ok (.ifCond .lt 12, 3) := by decide +kernel
theorem dX10_isSubgroup_4 : decode cX10_isSubgroup 4 = .ok (.iload_n 0, 1) := by decide +kernel
theorem dX10_isSubgroup_5 : decode cX10_isSubgroup 5 = .ok (.iconst 2, 1) := by decide +kernel
theorem dX10_isSubgroup_6 : decode cX10_isSubgroup 6 = .ok (.if_icmp .ge 7, 3) := by decide +kernel
theorem dX10_isSubgroup_9 : decode cX10_isSubgroup 9 = .ok (.iconst 1, 1) := by decide +kernel
theorem dX10_isSubgroup_10 : decode cX10_isSubgroup 10 = .ok (.goto 4, 3) := by decide +kernel
theorem dX10_isSubgroup_13 : decode cX10_isSubgroup 13 = .ok (.iconst 0, 1) := by decide +kernel
theorem dX10_isSubgroup_14 : decode cX10_isSubgroup 14 = .ok (.ireturn, 1) := by decide +kernel
theorem dX10_isGenerator_0 : decode cX10_isGenerator 0 = .ok (.iload_n 1, 1) := by decide +kernel
theorem dX10_isGenerator_1 : decode cX10_isGenerator 1 = .ok (.ifCond .lt 16, 3) := by decide +kernel
theorem dX10_isGenerator_4 : decode cX10_isGenerator 4 = .ok (.iload_n 1, 1) := by decide +kernel
theorem dX10_isGenerator_5 : decode cX10_isGenerator 5 = .ok (.aload_n 0, 1) := by decide +kernel
theorem dX10_isGenerator_6 : decode cX10_isGenerator 6 = .ok (.iconst 0, 1) := by decide +kernel
theorem dX10_isGenerator_7 : decode cX10_isGenerator 7 = .ok (.invokevirtual 94, 3) := by decide +kernel
theorem dX10_isGenerator_10 : decode cX10_isGenerator 10 = .ok (.if_icmp .ge 7, 3) := by decide +kernel
theorem dX10_isGenerator_13 : decode cX10_isGenerator 13 = .ok (.iconst 1, 1) := by decide +kernel
theorem dX10_isGenerator_14 : decode cX10_isGenerator 14 = .ok (.goto 4, 3) := by decide +kernel
theorem dX10_isGenerator_17 : decode cX10_isGenerator 17 = .ok (.iconst 0, 1) := by decide +kernel
theorem dX10_isGenerator_18 : decode cX10_isGenerator 18 = .ok (.ireturn, 1) := by decide +kernel
theorem dX10_register_0 : decode cX10_register 0 = .ok (.iconst 1, 1) := by decide +kernel
theorem dX10_register_1 : decode cX10_register 1 = .ok (.bipush 61, 2) := by decide +kernel
theorem dX10_register_3 : decode cX10_register 3 = .ok (.iload_n 0, 1) := by decide +kernel
theorem dX10_register_4 : decode cX10_register 4 = .ok (.imul, 1) := by decide +kernel
theorem dX10_register_5 : decode cX10_register 5 = .ok (.iadd, 1) := by decide +kernel
theorem dX10_register_6 : decode cX10_register 6 = .ok (.ireturn, 1) := by decide +kernel
theorem dX10_wordsOf_0 : decode cX10_wordsOf 0 = .ok (.sipush 489, 3) := by decide +kernel
theorem dX10_wordsOf_3 : decode cX10_wordsOf 3 = .ok (.sipush 367, 3) := by decide +kernel
theorem dX10_wordsOf_6 : decode cX10_wordsOf 6 = .ok (.iload_n 0, 1) := by decide +kernel
theorem dX10_wordsOf_7 : decode cX10_wordsOf 7 = .ok (.imul, 1) := by decide +kernel
theorem dX10_wordsOf_8 : decode cX10_wordsOf 8 = .ok (.iadd, 1) := by decide +kernel
theorem dX10_wordsOf_9 : decode cX10_wordsOf 9 = .ok (.ireturn, 1) := by decide +kernel
theorem dX10_generating_0 : decode cX10_generating 0 = .ok (.iload_n 0, 1) := by decide +kernel
theorem dX10_generating_1 : decode cX10_generating 1 = .ok (.invokestatic 98, 3) := by decide +kernel
theorem dX10_generating_4 : decode cX10_generating 4 = .ok (.iconst 1, 1) := by decide +kernel
theorem dX10_generating_5 : decode cX10_generating 5 = .ok (.iadd, 1) := by decide +kernel
theorem dX10_generating_6 : decode cX10_generating 6 = .ok (.bipush 61, 2) := by decide +kernel
theorem dX10_generating_8 : decode cX10_generating 8 = .ok (.iload_n 1, 1) := by decide +kernel
theorem dX10_generating_9 : decode cX10_generating 9 = .ok (.imul, 1) := by decide +kernel
theorem dX10_generating_10 : decode cX10_generating 10 = .ok (.iadd, 1) := by decide +kernel
theorem dX10_generating_11 : decode cX10_generating 11 = .ok (.ireturn, 1) := by decide +kernel
theorem dX10_codeAt_0 : decode cX10_codeAt 0 = .ok (.aload_n 0, 1) := by decide +kernel
theorem dX10_codeAt_1 : decode cX10_codeAt 1 = .ok (.iload_n 1, 1) := by decide +kernel
theorem dX10_codeAt_2 : decode cX10_codeAt 2 = .ok (.iconst 1, 1) := by decide +kernel
theorem dX10_codeAt_3 : decode cX10_codeAt 3 = .ok (.iadd, 1) := by decide +kernel
theorem dX10_codeAt_4 : decode cX10_codeAt 4 = .ok (.iload_n 2, 1) := by decide +kernel
theorem dX10_codeAt_5 : decode cX10_codeAt 5 = .ok (.iadd, 1) := by decide +kernel
theorem dX10_codeAt_6 : decode cX10_codeAt 6 = .ok (.invokevirtual 94, 3) := by decide +kernel
theorem dX10_codeAt_9 : decode cX10_codeAt 9 = .ok (.ireturn, 1) := by decide +kernel
theorem dX10_letterOf_0 : decode cX10_letterOf 0 = .ok (.iload_n 0, 1) := by decide +kernel
theorem dX10_letterOf_1 : decode cX10_letterOf 1 = .ok (.iconst 2, 1) := by decide +kernel
theorem dX10_letterOf_2 : decode cX10_letterOf 2 = .ok (.irem, 1) := by decide +kernel
theorem dX10_letterOf_3 : decode cX10_letterOf 3 = .ok (.ifCond .ne 8, 3) := by decide +kernel
theorem dX10_letterOf_6 : decode cX10_letterOf 6 = .ok (.bipush 97, 2) := by decide +kernel
theorem dX10_letterOf_8 : decode cX10_letterOf 8 = .ok (.goto 5, 3) := by decide +kernel
theorem dX10_letterOf_11 : decode cX10_letterOf 11 = .ok (.bipush 65, 2) := by decide +kernel
theorem dX10_letterOf_13 : decode cX10_letterOf 13 = .ok (.iload_n 0, 1) := by decide +kernel
theorem dX10_letterOf_14 : decode cX10_letterOf 14 = .ok (.iconst 2, 1) := by decide +kernel
theorem dX10_letterOf_15 : decode cX10_letterOf 15 = .ok (.idiv, 1) := by decide +kernel
theorem dX10_letterOf_16 : decode cX10_letterOf 16 = .ok (.iadd, 1) := by decide +kernel
theorem dX10_letterOf_17 : decode cX10_letterOf 17 = .ok (.i2c, 1) := by decide +kernel
theorem dX10_letterOf_18 : decode cX10_letterOf 18 = .ok (.ireturn, 1) := by decide +kernel
theorem dX10_codeOf_0 : decode cX10_codeOf 0 = .ok (.iload_n 1, 1) := by decide +kernel
theorem dX10_codeOf_1 : decode cX10_codeOf 1 = .ok (.bipush 97, 2) := by decide +kernel
theorem dX10_codeOf_3 : decode cX10_codeOf 3 = .ok (.if_icmp .lt 12, 3) := by decide +kernel
theorem dX10_codeOf_6 : decode cX10_codeOf 6 = .ok (.iconst 2, 1) := by decide +kernel
theorem dX10_codeOf_7 : decode cX10_codeOf 7 = .ok (.iload_n 1, 1) := by decide +kernel
theorem dX10_codeOf_8 : decode cX10_codeOf 8 = .ok (.bipush 97, 2) := by decide +kernel
theorem dX10_codeOf_10 : decode cX10_codeOf 10 = .ok (.isub, 1) := by decide +kernel
theorem dX10_codeOf_11 : decode cX10_codeOf 11 = .ok (.imul, 1) := by decide +kernel
theorem dX10_codeOf_12 : decode cX10_codeOf 12 = .ok (.goto 11, 3) := by decide +kernel
theorem dX10_codeOf_15 : decode cX10_codeOf 15 = .ok (.iconst 2, 1) := by decide +kernel
theorem dX10_codeOf_16 : decode cX10_codeOf 16 = .ok (.iload_n 1, 1) := by decide +kernel
theorem dX10_codeOf_17 : decode cX10_codeOf 17 = .ok (.bipush 65, 2) := by decide +kernel
theorem dX10_codeOf_19 : decode cX10_codeOf 19 = .ok (.isub, 1) := by decide +kernel
theorem dX10_codeOf_20 : decode cX10_codeOf 20 = .ok (.imul, 1) := by decide +kernel
theorem dX10_codeOf_21 : decode cX10_codeOf 21 = .ok (.iconst 1, 1) := by decide +kernel
theorem dX10_codeOf_22 : decode cX10_codeOf 22 = .ok (.iadd, 1) := by decide +kernel
theorem dX10_codeOf_23 : decode cX10_codeOf 23 = .ok (.istore_n 2, 1) := by decide +kernel
theorem dX10_codeOf_24 : decode cX10_codeOf 24 = .ok (.iload_n 1, 1) := by decide +kernel
theorem dX10_codeOf_25 : decode cX10_codeOf 25 = .ok (.bipush 65, 2) := by decide +kernel
theorem dX10_codeOf_27 : decode cX10_codeOf 27 = .ok (.if_icmp .lt 26, 3) := by decide +kernel
theorem dX10_codeOf_30 : decode cX10_codeOf 30 = .ok (.iload_n 1, 1) := by decide +kernel
theorem dX10_codeOf_31 : decode cX10_codeOf 31 = .ok (.bipush 90, 2) := by decide +kernel
theorem dX10_codeOf_33 : decode cX10_codeOf 33 = .ok (.if_icmp .le 9, 3) := by decide +kernel
theorem dX10_codeOf_36 : decode cX10_codeOf 36 = .ok (.iload_n 1, 1) := by decide +kernel
theorem dX10_codeOf_37 : decode cX10_codeOf 37 = .ok (.bipush 97, 2) := by decide +kernel
theorem dX10_codeOf_39 : decode cX10_codeOf 39 = .ok (.if_icmp .lt 14, 3) := by decide +kernel
theorem dX10_codeOf_42 : decode cX10_codeOf 42 = .ok (.iload_n 2, 1) := by decide +kernel
theorem dX10_codeOf_43 : decode cX10_codeOf 43 = .ok (.iconst 2, 1) := by decide +kernel
theorem dX10_codeOf_44 : decode cX10_codeOf 44 = .ok (.aload_n 0, 1) := by decide +kernel
theorem dX10_codeOf_45 : decode cX10_codeOf 45 = .ok (.iconst 0, 1) := by decide +kernel
theorem dX10_codeOf_46 : decode cX10_codeOf 46 = .ok (.invokevirtual 94, 3) := by decide +kernel
theorem dX10_codeOf_49 : decode cX10_codeOf 49 = .ok (.imul, 1) := by decide +kernel
theorem dX10_codeOf_50 : decode cX10_codeOf 50 = .ok (.if_icmp .lt 7, 3) := by decide +kernel
theorem dX10_codeOf_53 : decode cX10_codeOf 53 = .ok (.iconst (-1), 1) := by decide +kernel
theorem dX10_codeOf_54 : decode cX10_codeOf 54 = .ok (.goto 4, 3) := by decide +kernel
theorem dX10_codeOf_57 : decode cX10_codeOf 57 = .ok (.iload_n 2, 1) := by decide +kernel
theorem dX10_codeOf_58 : decode cX10_codeOf 58 = .ok (.ireturn, 1) := by decide +kernel
theorem dX10_begins_0 : decode cX10_begins 0 = .ok (.aload_n 0, 1) := by decide +kernel
theorem dX10_begins_1 : decode cX10_begins 1 = .ok (.iconst 0, 1) := by decide +kernel
theorem dX10_begins_2 : decode cX10_begins 2 = .ok (.putfield 101, 3) := by decide +kernel
theorem dX10_begins_5 : decode cX10_begins 5 = .ok (.return_, 1) := by decide +kernel
theorem dX10_pushes_0 : decode cX10_pushes 0 = .ok (.aload_n 0, 1) := by decide +kernel
theorem dX10_pushes_1 : decode cX10_pushes 1 = .ok (.getfield 101, 3) := by decide +kernel
theorem dX10_pushes_4 : decode cX10_pushes 4 = .ok (.ifCond .le 31, 3) := by decide +kernel
theorem dX10_pushes_7 : decode cX10_pushes 7 = .ok (.aload_n 0, 1) := by decide +kernel
theorem dX10_pushes_8 : decode cX10_pushes 8 = .ok (.getfield 21, 3) := by decide +kernel
theorem dX10_pushes_11 : decode cX10_pushes 11 = .ok (.aload_n 0, 1) := by decide +kernel
theorem dX10_pushes_12 : decode cX10_pushes 12 = .ok (.getfield 101, 3) := by decide +kernel
theorem dX10_pushes_15 : decode cX10_pushes 15 = .ok (.iconst 1, 1) := by decide +kernel
theorem dX10_pushes_16 : decode cX10_pushes 16 = .ok (.isub, 1) := by decide +kernel
theorem dX10_pushes_17 : decode cX10_pushes 17 = .ok (.iaload, 1) := by decide +kernel
theorem dX10_pushes_18 : decode cX10_pushes 18 = .ok (.iload_n 1, 1) := by decide +kernel
theorem dX10_pushes_19 : decode cX10_pushes 19 = .ok (.iconst 1, 1) := by decide +kernel
theorem dX10_pushes_20 : decode cX10_pushes 20 = .ok (.ixor, 1) := by decide +kernel
theorem dX10_pushes_21 : decode cX10_pushes 21 = .ok (.if_icmp .ne 14, 3) := by decide +kernel
theorem dX10_pushes_24 : decode cX10_pushes 24 = .ok (.aload_n 0, 1) := by decide +kernel
theorem dX10_pushes_25 : decode cX10_pushes 25 = .ok (.dup, 1) := by decide +kernel
theorem dX10_pushes_26 : decode cX10_pushes 26 = .ok (.getfield 101, 3) := by decide +kernel
theorem dX10_pushes_29 : decode cX10_pushes 29 = .ok (.iconst 1, 1) := by decide +kernel
theorem dX10_pushes_30 : decode cX10_pushes 30 = .ok (.isub, 1) := by decide +kernel
theorem dX10_pushes_31 : decode cX10_pushes 31 = .ok (.putfield 101, 3) := by decide +kernel
theorem dX10_pushes_34 : decode cX10_pushes 34 = .ok (.return_, 1) := by decide +kernel
theorem dX10_pushes_35 : decode cX10_pushes 35 = .ok (.aload_n 0, 1) := by decide +kernel
theorem dX10_pushes_36 : decode cX10_pushes 36 = .ok (.getfield 21, 3) := by decide +kernel
theorem dX10_pushes_39 : decode cX10_pushes 39 = .ok (.aload_n 0, 1) := by decide +kernel
theorem dX10_pushes_40 : decode cX10_pushes 40 = .ok (.getfield 101, 3) := by decide +kernel
theorem dX10_pushes_43 : decode cX10_pushes 43 = .ok (.iload_n 1, 1) := by decide +kernel
theorem dX10_pushes_44 : decode cX10_pushes 44 = .ok (.iastore, 1) := by decide +kernel
theorem dX10_pushes_45 : decode cX10_pushes 45 = .ok (.aload_n 0, 1) := by decide +kernel
theorem dX10_pushes_46 : decode cX10_pushes 46 = .ok (.dup, 1) := by decide +kernel
theorem dX10_pushes_47 : decode cX10_pushes 47 = .ok (.getfield 101, 3) := by decide +kernel
theorem dX10_pushes_50 : decode cX10_pushes 50 = .ok (.iconst 1, 1) := by decide +kernel
theorem dX10_pushes_51 : decode cX10_pushes 51 = .ok (.iadd, 1) := by decide +kernel
theorem dX10_pushes_52 : decode cX10_pushes 52 = .ok (.putfield 101, 3) := by decide +kernel
theorem dX10_pushes_55 : decode cX10_pushes 55 = .ok (.return_, 1) := by decide +kernel
theorem dX10_pushesWord_0 : decode cX10_pushesWord 0 = .ok (.iconst 0, 1) := by decide +kernel
theorem dX10_pushesWord_1 : decode cX10_pushesWord 1 = .ok (.istore_n 2, 1) := by decide +kernel
theorem dX10_pushesWord_2 : decode cX10_pushesWord 2 = .ok (.iload_n 2, 1) := by decide +kernel
theorem dX10_pushesWord_3 : decode cX10_pushesWord 3 = .ok (.aload_n 0, 1) := by decide +kernel
theorem dX10_pushesWord_4 : decode cX10_pushesWord 4 = .ok (.iload_n 1, 1) := by decide +kernel
theorem dX10_pushesWord_5 : decode cX10_pushesWord 5 = .ok (.invokevirtual 94, 3) := by decide +kernel
theorem dX10_pushesWord_8 : decode cX10_pushesWord 8 = .ok (.if_icmp .ge 19, 3) := by decide +kernel
theorem dX10_pushesWord_11 : decode cX10_pushesWord 11 = .ok (.aload_n 0, 1) := by decide +kernel
theorem dX10_pushesWord_12 : decode cX10_pushesWord 12 = .ok (.aload_n 0, 1) := by decide +kernel
theorem dX10_pushesWord_13 : decode cX10_pushesWord 13 = .ok (.iload_n 1, 1) := by decide +kernel
theorem dX10_pushesWord_14 : decode cX10_pushesWord 14 = .ok (.iload_n 2, 1) := by decide +kernel
theorem dX10_pushesWord_15 : decode cX10_pushesWord 15 = .ok (.invokevirtual 104, 3) := by decide +kernel
theorem dX10_pushesWord_18 : decode cX10_pushesWord 18 = .ok (.invokevirtual 108, 3) := by decide +kernel
theorem dX10_pushesWord_21 : decode cX10_pushesWord 21 = .ok (.iinc 2 1, 3) := by decide +kernel
theorem dX10_pushesWord_24 : decode cX10_pushesWord 24 = .ok (.goto (-22), 3) := by decide +kernel
theorem dX10_pushesWord_27 : decode cX10_pushesWord 27 = .ok (.return_, 1) := by decide +kernel
theorem dX10_pushesInverse_0 : decode cX10_pushesInverse 0 = .ok (.aload_n 0, 1) := by decide +kernel
theorem dX10_pushesInverse_1 : decode cX10_pushesInverse 1 = .ok (.iload_n 1, 1) := by decide +kernel
theorem dX10_pushesInverse_2 : decode cX10_pushesInverse 2 = .ok (.invokevirtual 94, 3) := by decide +kernel
theorem dX10_pushesInverse_5 : decode cX10_pushesInverse 5 = .ok (.iconst 1, 1) := by decide +kernel
theorem dX10_pushesInverse_6 : decode cX10_pushesInverse 6 = .ok (.isub, 1) := by decide +kernel
theorem dX10_pushesInverse_7 : decode cX10_pushesInverse 7 = .ok (.istore_n 2, 1) := by decide +kernel
theorem dX10_pushesInverse_8 : decode cX10_pushesInverse 8 = .ok (.iload_n 2, 1) := by decide +kernel
theorem dX10_pushesInverse_9 : decode cX10_pushesInverse 9 = .ok (.ifCond .lt 21, 3) := by decide +kernel
theorem dX10_pushesInverse_12 : decode cX10_pushesInverse 12 = .ok (.aload_n 0, 1) := by decide +kernel
theorem dX10_pushesInverse_13 : decode cX10_pushesInverse 13 = .ok (.aload_n 0, 1) := by decide +kernel
theorem dX10_pushesInverse_14 : decode cX10_pushesInverse 14 = .ok (.iload_n 1, 1) := by decide +kernel
theorem dX10_pushesInverse_15 : decode cX10_pushesInverse 15 = .ok (.iload_n 2, 1) := by decide +kernel
theorem dX10_pushesInverse_16 : decode cX10_pushesInverse 16 = .ok (.invokevirtual 104, 3) := by decide +kernel
theorem dX10_pushesInverse_19 : decode cX10_pushesInverse 19 = .ok (.iconst 1, 1) := by decide +kernel
theorem dX10_pushesInverse_20 : decode cX10_pushesInverse 20 = .ok (.ixor, 1) := by decide +kernel
theorem dX10_pushesInverse_21 : decode cX10_pushesInverse 21 = .ok (.invokevirtual 108, 3) := by decide +kernel
theorem dX10_pushesInverse_24 : decode cX10_pushesInverse 24 = .ok (.iinc 2 (-1), 3) := by decide +kernel
theorem dX10_pushesInverse_27 : decode cX10_pushesInverse 27 = .ok (.goto (-19), 3) := by decide +kernel
theorem dX10_pushesInverse_30 : decode cX10_pushesInverse 30 = .ok (.return_, 1) := by decide +kernel
theorem dX10_isTooLong_0 : decode cX10_isTooLong 0 = .ok (.aload_n 0, 1) := by decide +kernel
theorem dX10_isTooLong_1 : decode cX10_isTooLong 1 = .ok (.getfield 101, 3) := by decide +kernel
theorem dX10_isTooLong_4 : decode cX10_isTooLong 4 = .ok (.bipush 60, 2) := by decide +kernel
theorem dX10_isTooLong_6 : decode cX10_isTooLong 6 = .ok (.if_icmp .le 7, 3) := by decide +kernel
theorem dX10_isTooLong_9 : decode cX10_isTooLong 9 = .ok (.iconst 1, 1) := by decide +kernel
theorem dX10_isTooLong_10 : decode cX10_isTooLong 10 = .ok (.goto 4, 3) := by decide +kernel
theorem dX10_isTooLong_13 : decode cX10_isTooLong 13 = .ok (.iconst 0, 1) := by decide +kernel
theorem dX10_isTooLong_14 : decode cX10_isTooLong 14 = .ok (.ireturn, 1) := by decide +kernel
theorem dX10_lays_0 : decode cX10_lays 0 = .ok (.aload_n 0, 1) := by decide +kernel
theorem dX10_lays_1 : decode cX10_lays 1 = .ok (.iload_n 1, 1) := by decide +kernel
theorem dX10_lays_2 : decode cX10_lays 2 = .ok (.aload_n 0, 1) := by decide +kernel
theorem dX10_lays_3 : decode cX10_lays 3 = .ok (.getfield 101, 3) := by decide +kernel
theorem dX10_lays_6 : decode cX10_lays 6 = .ok (.invokevirtual 71, 3) := by decide +kernel
theorem dX10_lays_9 : decode cX10_lays 9 = .ok (.iconst 0, 1) := by decide +kernel
theorem dX10_lays_10 : decode cX10_lays 10 = .ok (.istore_n 2, 1) := by decide +kernel
theorem dX10_lays_11 : decode cX10_lays 11 = .ok (.iload_n 2, 1) := by decide +kernel
theorem dX10_lays_12 : decode cX10_lays 12 = .ok (.aload_n 0, 1) := by decide +kernel
theorem dX10_lays_13 : decode cX10_lays 13 = .ok (.getfield 101, 3) := by decide +kernel
theorem dX10_lays_16 : decode cX10_lays 16 = .ok (.if_icmp .ge 24, 3) := by decide +kernel
theorem dX10_lays_19 : decode cX10_lays 19 = .ok (.aload_n 0, 1) := by decide +kernel
theorem dX10_lays_20 : decode cX10_lays 20 = .ok (.iload_n 1, 1) := by decide +kernel
theorem dX10_lays_21 : decode cX10_lays 21 = .ok (.iconst 1, 1) := by decide +kernel
theorem dX10_lays_22 : decode cX10_lays 22 = .ok (.iadd, 1) := by decide +kernel
theorem dX10_lays_23 : decode cX10_lays 23 = .ok (.iload_n 2, 1) := by decide +kernel
theorem dX10_lays_24 : decode cX10_lays 24 = .ok (.iadd, 1) := by decide +kernel
theorem dX10_lays_25 : decode cX10_lays 25 = .ok (.aload_n 0, 1) := by decide +kernel
theorem dX10_lays_26 : decode cX10_lays 26 = .ok (.getfield 21, 3) := by decide +kernel
theorem dX10_lays_29 : decode cX10_lays 29 = .ok (.iload_n 2, 1) := by decide +kernel
theorem dX10_lays_30 : decode cX10_lays 30 = .ok (.iaload, 1) := by decide +kernel
theorem dX10_lays_31 : decode cX10_lays 31 = .ok (.invokevirtual 71, 3) := by decide +kernel
theorem dX10_lays_34 : decode cX10_lays 34 = .ok (.iinc 2 1, 3) := by decide +kernel
theorem dX10_lays_37 : decode cX10_lays 37 = .ok (.goto (-26), 3) := by decide +kernel
theorem dX10_lays_40 : decode cX10_lays 40 = .ok (.aload_n 0, 1) := by decide +kernel
theorem dX10_lays_41 : decode cX10_lays 41 = .ok (.getfield 101, 3) := by decide +kernel
theorem dX10_lays_44 : decode cX10_lays 44 = .ok (.ireturn, 1) := by decide +kernel
theorem dX10_products_0 : decode cX10_products 0 = .ok (.aload_n 0, 1) := by decide +kernel
theorem dX10_products_1 : decode cX10_products 1 = .ok (.invokevirtual 112, 3) := by decide +kernel
theorem dX10_products_4 : decode cX10_products 4 = .ok (.aload_n 0, 1) := by decide +kernel
theorem dX10_products_5 : decode cX10_products 5 = .ok (.iload_n 1, 1) := by decide +kernel
theorem dX10_products_6 : decode cX10_products 6 = .ok (.invokevirtual 115, 3) := by decide +kernel
theorem dX10_products_9 : decode cX10_products 9 = .ok (.aload_n 0, 1) := by decide +kernel
theorem dX10_products_10 : decode cX10_products 10 = .ok (.iload_n 2, 1) := by decide +kernel
theorem dX10_products_11 : decode cX10_products 11 = .ok (.invokevirtual 115, 3) := by decide +kernel
theorem dX10_products_14 : decode cX10_products 14 = .ok (.return_, 1) := by decide +kernel
theorem dX10_strips_0 : decode cX10_strips 0 = .ok (.iconst 0, 1) := by decide +kernel
theorem dX10_strips_1 : decode cX10_strips 1 = .ok (.istore_n 2, 1) := by decide +kernel
theorem dX10_strips_2 : decode cX10_strips 2 = .ok (.aload_n 0, 1) := by decide +kernel
theorem dX10_strips_3 : decode cX10_strips 3 = .ok (.iload_n 1, 1) := by decide +kernel
theorem dX10_strips_4 : decode cX10_strips 4 = .ok (.invokevirtual 94, 3) := by decide +kernel
theorem dX10_strips_7 : decode cX10_strips 7 = .ok (.iconst 2, 1) := by decide +kernel
theorem dX10_strips_8 : decode cX10_strips 8 = .ok (.iload_n 2, 1) := by decide +kernel
theorem dX10_strips_9 : decode cX10_strips 9 = .ok (.imul, 1) := by decide +kernel
theorem dX10_strips_10 : decode cX10_strips 10 = .ok (.isub, 1) := by decide +kernel
theorem dX10_strips_11 : decode cX10_strips 11 = .ok (.iconst 2, 1) := by decide +kernel
theorem dX10_strips_12 : decode cX10_strips 12 = .ok (.if_icmp .lt 34, 3) := by decide +kernel
theorem dX10_strips_15 : decode cX10_strips 15 = .ok (.aload_n 0, 1) := by decide +kernel
theorem dX10_strips_16 : decode cX10_strips 16 = .ok (.iload_n 1, 1) := by decide +kernel
theorem dX10_strips_17 : decode cX10_strips 17 = .ok (.iload_n 2, 1) := by decide +kernel
theorem dX10_strips_18 : decode cX10_strips 18 = .ok (.invokevirtual 104, 3) := by decide +kernel
theorem dX10_strips_21 : decode cX10_strips 21 = .ok (.aload_n 0, 1) := by decide +kernel
theorem dX10_strips_22 : decode cX10_strips 22 = .ok (.iload_n 1, 1) := by decide +kernel
theorem dX10_strips_23 : decode cX10_strips 23 = .ok (.aload_n 0, 1) := by decide +kernel
theorem dX10_strips_24 : decode cX10_strips 24 = .ok (.iload_n 1, 1) := by decide +kernel
theorem dX10_strips_25 : decode cX10_strips 25 = .ok (.invokevirtual 94, 3) := by decide +kernel
theorem dX10_strips_28 : decode cX10_strips 28 = .ok (.iconst 1, 1) := by decide +kernel
theorem dX10_strips_29 : decode cX10_strips 29 = .ok (.isub, 1) := by decide +kernel
theorem dX10_strips_30 : decode cX10_strips 30 = .ok (.iload_n 2, 1) := by decide +kernel
theorem dX10_strips_31 : decode cX10_strips 31 = .ok (.isub, 1) := by decide +kernel
theorem dX10_strips_32 : decode cX10_strips 32 = .ok (.invokevirtual 104, 3) := by decide +kernel
theorem dX10_strips_35 : decode cX10_strips 35 = .ok (.iconst 1, 1) := by decide +kernel
theorem dX10_strips_36 : decode cX10_strips 36 = .ok (.ixor, 1) := by decide +kernel
theorem dX10_strips_37 : decode cX10_strips 37 = .ok (.if_icmp .ne 9, 3) := by decide +kernel
theorem dX10_strips_40 : decode cX10_strips 40 = .ok (.iinc 2 1, 3) := by decide +kernel
theorem dX10_strips_43 : decode cX10_strips 43 = .ok (.goto (-41), 3) := by decide +kernel
theorem dX10_strips_46 : decode cX10_strips 46 = .ok (.iload_n 2, 1) := by decide +kernel
theorem dX10_strips_47 : decode cX10_strips 47 = .ok (.ireturn, 1) := by decide +kernel
theorem dX10_coreOf_0 : decode cX10_coreOf 0 = .ok (.aload_n 0, 1) := by decide +kernel
theorem dX10_coreOf_1 : decode cX10_coreOf 1 = .ok (.iload_n 1, 1) := by decide +kernel
theorem dX10_coreOf_2 : decode cX10_coreOf 2 = .ok (.invokevirtual 94, 3) := by decide +kernel
theorem dX10_coreOf_5 : decode cX10_coreOf 5 = .ok (.iconst 2, 1) := by decide +kernel
theorem dX10_coreOf_6 : decode cX10_coreOf 6 = .ok (.aload_n 0, 1) := by decide +kernel
theorem dX10_coreOf_7 : decode cX10_coreOf 7 = .ok (.iload_n 1, 1) := by decide +kernel
theorem dX10_coreOf_8 : decode cX10_coreOf 8 = .ok (.invokevirtual 118, 3) := by decide +kernel
theorem dX10_coreOf_11 : decode cX10_coreOf 11 = .ok (.imul, 1) := by decide +kernel
theorem dX10_coreOf_12 : decode cX10_coreOf 12 = .ok (.isub, 1) := by decide +kernel
theorem dX10_coreOf_13 : decode cX10_coreOf 13 = .ok (.ireturn, 1) := by decide +kernel
theorem dX10_coreCode_0 : decode cX10_coreCode 0 = .ok (.aload_n 0, 1) := by decide +kernel
theorem dX10_coreCode_1 : decode cX10_coreCode 1 = .ok (.iload_n 1, 1) := by decide +kernel
theorem dX10_coreCode_2 : decode cX10_coreCode 2 = .ok (.aload_n 0, 1) := by decide +kernel
theorem dX10_coreCode_3 : decode cX10_coreCode 3 = .ok (.iload_n 1, 1) := by decide +kernel
theorem dX10_coreCode_4 : decode cX10_coreCode 4 = .ok (.invokevirtual 118, 3) := by decide +kernel
theorem dX10_coreCode_7 : decode cX10_coreCode 7 = .ok (.iload_n 2, 1) := by decide +kernel
theorem dX10_coreCode_8 : decode cX10_coreCode 8 = .ok (.iadd, 1) := by decide +kernel
theorem dX10_coreCode_9 : decode cX10_coreCode 9 = .ok (.invokevirtual 104, 3) := by decide +kernel
theorem dX10_coreCode_12 : decode cX10_coreCode 12 = .ok (.ireturn, 1) := by decide +kernel
theorem dX10_isRotation_0 : decode cX10_isRotation 0 = .ok (.aload_n 0, 1) := by decide +kernel
theorem dX10_isRotation_1 : decode cX10_isRotation 1 = .ok (.iload_n 1, 1) := by decide +kernel
theorem dX10_isRotation_2 : decode cX10_isRotation 2 = .ok (.invokevirtual 121, 3) := by decide +kernel
theorem dX10_isRotation_5 : decode cX10_isRotation 5 = .ok (.istore 4, 2) := by decide +kernel
theorem dX10_isRotation_7 : decode cX10_isRotation 7 = .ok (.aload_n 0, 1) := by decide +kernel
theorem dX10_isRotation_8 : decode cX10_isRotation 8 = .ok (.iload_n 1, 1) := by decide +kernel
theorem dX10_isRotation_9 : decode cX10_isRotation 9 = .ok (.invokevirtual 118, 3) := by decide +kernel
theorem dX10_isRotation_12 : decode cX10_isRotation 12 = .ok (.istore 5, 2) := by decide +kernel
theorem dX10_isRotation_14 : decode cX10_isRotation 14 = .ok (.aload_n 0, 1) := by decide +kernel
theorem dX10_isRotation_15 : decode cX10_isRotation 15 = .ok (.iload_n 2, 1) := by decide +kernel
theorem dX10_isRotation_16 : decode cX10_isRotation 16 = .ok (.invokevirtual 118, 3) := by decide +kernel
theorem dX10_isRotation_19 : decode cX10_isRotation 19 = .ok (.istore 6, 2) := by decide +kernel
theorem dX10_isRotation_21 : decode cX10_isRotation 21 = .ok (.iconst 0, 1) := by decide +kernel
theorem dX10_isRotation_22 : decode cX10_isRotation 22 = .ok (.istore 7, 2) := by decide +kernel
theorem dX10_isRotation_24 : decode cX10_isRotation 24 = .ok (.iload 7, 2) := by decide +kernel
theorem dX10_isRotation_26 : decode cX10_isRotation 26 = .ok (.iload 4, 2) := by decide +kernel
theorem dX10_isRotation_28 : decode cX10_isRotation 28 = .ok (.if_icmp .ge 39, 3) := by decide +kernel
theorem dX10_isRotation_31 : decode cX10_isRotation 31 = .ok (.aload_n 0, 1) := by decide +kernel
theorem dX10_isRotation_32 : decode cX10_isRotation 32 = .ok (.iload_n 1, 1) := by decide +kernel
theorem dX10_isRotation_33 : decode cX10_isRotation 33 = .ok (.iload 5, 2) := by decide +kernel
theorem dX10_isRotation_35 : decode cX10_isRotation 35 = .ok (.iload 7, 2) := by decide +kernel
theorem dX10_isRotation_37 : decode cX10_isRotation 37 = .ok (.iload_n 3, 1) := by decide +kernel
theorem dX10_isRotation_38 : decode cX10_isRotation 38 = .ok (.iadd, 1) := by decide +kernel
theorem dX10_isRotation_39 : decode cX10_isRotation 39 = .ok (.iload 4, 2) := by decide +kernel
theorem dX10_isRotation_41 : decode cX10_isRotation 41 = .ok (.irem, 1) := by decide +kernel
theorem dX10_isRotation_42 : decode cX10_isRotation 42 = .ok (.iadd, 1) := by decide +kernel
theorem dX10_isRotation_43 : decode cX10_isRotation 43 = .ok (.invokevirtual 104, 3) := by decide +kernel
theorem dX10_isRotation_46 : decode cX10_isRotation 46 = .ok (.aload_n 0, 1) := by decide +kernel
theorem dX10_isRotation_47 : decode cX10_isRotation 47 = .ok (.iload_n 2, 1) := by decide +kernel
theorem dX10_isRotation_48 : decode cX10_isRotation 48 = .ok (.iload 6, 2) := by decide +kernel
theorem dX10_isRotation_50 : decode cX10_isRotation 50 = .ok (.iload 7, 2) := by decide +kernel
theorem dX10_isRotation_52 : decode cX10_isRotation 52 = .ok (.iadd, 1) := by decide +kernel
theorem dX10_isRotation_53 : decode cX10_isRotation 53 = .ok (.invokevirtual 104, 3) := by decide +kernel
theorem dX10_isRotation_56 : decode cX10_isRotation 56 = .ok (.if_icmp .eq 5, 3) := by decide +kernel
theorem dX10_isRotation_59 : decode cX10_isRotation 59 = .ok (.iconst 0, 1) := by decide +kernel
theorem dX10_isRotation_60 : decode cX10_isRotation 60 = .ok (.ireturn, 1) := by decide +kernel
theorem dX10_isRotation_61 : decode cX10_isRotation 61 = .ok (.iinc 7 1, 3) := by decide +kernel
theorem dX10_isRotation_64 : decode cX10_isRotation 64 = .ok (.goto (-40), 3) := by decide +kernel
theorem dX10_isRotation_67 : decode cX10_isRotation 67 = .ok (.iconst 1, 1) := by decide +kernel
theorem dX10_isRotation_68 : decode cX10_isRotation 68 = .ok (.ireturn, 1) := by decide +kernel
theorem dX10_rotationOf_0 : decode cX10_rotationOf 0 = .ok (.aload_n 0, 1) := by decide +kernel
theorem dX10_rotationOf_1 : decode cX10_rotationOf 1 = .ok (.iload_n 1, 1) := by decide +kernel
theorem dX10_rotationOf_2 : decode cX10_rotationOf 2 = .ok (.invokevirtual 121, 3) := by decide +kernel
theorem dX10_rotationOf_5 : decode cX10_rotationOf 5 = .ok (.istore_n 3, 1) := by decide +kernel
theorem dX10_rotationOf_6 : decode cX10_rotationOf 6 = .ok (.iload_n 3, 1) := by decide +kernel
theorem dX10_rotationOf_7 : decode cX10_rotationOf 7 = .ok (.aload_n 0, 1) := by decide +kernel
theorem dX10_rotationOf_8 : decode cX10_rotationOf 8 = .ok (.iload_n 2, 1) := by decide +kernel
theorem dX10_rotationOf_9 : decode cX10_rotationOf 9 = .ok (.invokevirtual 121, 3) := by decide +kernel
theorem dX10_rotationOf_12 : decode cX10_rotationOf 12 = .ok (.if_icmp .eq 5, 3) := by decide +kernel
theorem dX10_rotationOf_15 : decode cX10_rotationOf 15 = .ok (.iconst (-1), 1) := by decide +kernel
theorem dX10_rotationOf_16 : decode cX10_rotationOf 16 = .ok (.ireturn, 1) := by decide +kernel
theorem dX10_rotationOf_17 : decode cX10_rotationOf 17 = .ok (.iload_n 3, 1) := by decide +kernel
theorem dX10_rotationOf_18 : decode cX10_rotationOf 18 = .ok (.ifCond .ne 5, 3) := by decide +kernel
theorem dX10_rotationOf_21 : decode cX10_rotationOf 21 = .ok (.iconst 0, 1) := by decide +kernel
theorem dX10_rotationOf_22 : decode cX10_rotationOf 22 = .ok (.ireturn, 1) := by decide +kernel
theorem dX10_rotationOf_23 : decode cX10_rotationOf 23 = .ok (.iconst 0, 1) := by decide +kernel
theorem dX10_rotationOf_24 : decode cX10_rotationOf 24 = .ok (.istore 4, 2) := by decide +kernel
theorem dX10_rotationOf_26 : decode cX10_rotationOf 26 = .ok (.iload 4, 2) := by decide +kernel
theorem dX10_rotationOf_28 : decode cX10_rotationOf 28 = .ok (.iload_n 3, 1) := by decide +kernel
theorem dX10_rotationOf_29 : decode cX10_rotationOf 29 = .ok (.if_icmp .ge 23, 3) := by decide +kernel
theorem dX10_rotationOf_32 : decode cX10_rotationOf 32 = .ok (.aload_n 0, 1) := by decide +kernel
theorem dX10_rotationOf_33 : decode cX10_rotationOf 33 = .ok (.iload_n 1, 1) := by decide +kernel
theorem dX10_rotationOf_34 : decode cX10_rotationOf 34 = .ok (.iload_n 2, 1) := by decide +kernel
theorem dX10_rotationOf_35 : decode cX10_rotationOf 35 = .ok (.iload 4, 2) := by decide +kernel
theorem dX10_rotationOf_37 : decode cX10_rotationOf 37 = .ok (.invokevirtual 124, 3) := by decide +kernel
theorem dX10_rotationOf_40 : decode cX10_rotationOf 40 = .ok (.ifCond .eq 6, 3) := by decide +kernel
theorem dX10_rotationOf_43 : decode cX10_rotationOf 43 = .ok (.iload 4, 2) := by decide +kernel
theorem dX10_rotationOf_45 : decode cX10_rotationOf 45 = .ok (.ireturn, 1) := by decide +kernel
theorem dX10_rotationOf_46 : decode cX10_rotationOf 46 = .ok (.iinc 4 1, 3) := by decide +kernel
theorem dX10_rotationOf_49 : decode cX10_rotationOf 49 = .ok (.goto (-23), 3) := by decide +kernel
theorem dX10_rotationOf_52 : decode cX10_rotationOf 52 = .ok (.iconst (-1), 1) := by decide +kernel
theorem dX10_rotationOf_53 : decode cX10_rotationOf 53 = .ok (.ireturn, 1) := by decide +kernel
theorem dX10_period_0 : decode cX10_period 0 = .ok (.aload_n 0, 1) := by decide +kernel
theorem dX10_period_1 : decode cX10_period 1 = .ok (.iload_n 1, 1) := by decide +kernel
theorem dX10_period_2 : decode cX10_period 2 = .ok (.invokevirtual 121, 3) := by decide +kernel
theorem dX10_period_5 : decode cX10_period 5 = .ok (.istore_n 2, 1) := by decide +kernel
theorem dX10_period_6 : decode cX10_period 6 = .ok (.iconst 1, 1) := by decide +kernel
theorem dX10_period_7 : decode cX10_period 7 = .ok (.istore_n 3, 1) := by decide +kernel
theorem dX10_period_8 : decode cX10_period 8 = .ok (.iload_n 2, 1) := by decide +kernel
theorem dX10_period_9 : decode cX10_period 9 = .ok (.iload_n 3, 1) := by decide +kernel
theorem dX10_period_10 : decode cX10_period 10 = .ok (.irem, 1) := by decide +kernel
theorem dX10_period_11 : decode cX10_period 11 = .ok (.ifCond .ne 15, 3) := by decide +kernel
theorem dX10_period_14 : decode cX10_period 14 = .ok (.aload_n 0, 1) := by decide +kernel
theorem dX10_period_15 : decode cX10_period 15 = .ok (.iload_n 1, 1) := by decide +kernel
theorem dX10_period_16 : decode cX10_period 16 = .ok (.iload_n 1, 1) := by decide +kernel
theorem dX10_period_17 : decode cX10_period 17 = .ok (.iload_n 3, 1) := by decide +kernel
theorem dX10_period_18 : decode cX10_period 18 = .ok (.iload_n 2, 1) := by decide +kernel
theorem dX10_period_19 : decode cX10_period 19 = .ok (.irem, 1) := by decide +kernel
theorem dX10_period_20 : decode cX10_period 20 = .ok (.invokevirtual 124, 3) := by decide +kernel
theorem dX10_period_23 : decode cX10_period 23 = .ok (.ifCond .ne 9, 3) := by decide +kernel
theorem dX10_period_26 : decode cX10_period 26 = .ok (.iinc 3 1, 3) := by decide +kernel
theorem dX10_period_29 : decode cX10_period 29 = .ok (.goto (-21), 3) := by decide +kernel
theorem dX10_period_32 : decode cX10_period 32 = .ok (.iload_n 3, 1) := by decide +kernel
theorem dX10_period_33 : decode cX10_period 33 = .ok (.ireturn, 1) := by decide +kernel
theorem dX10_offset_0 : decode cX10_offset 0 = .ok (.iconst 0, 1) := by decide +kernel
theorem dX10_offset_1 : decode cX10_offset 1 = .ok (.istore_n 1, 1) := by decide +kernel
theorem dX10_offset_2 : decode cX10_offset 2 = .ok (.iconst 1, 1) := by decide +kernel
theorem dX10_offset_3 : decode cX10_offset 3 = .ok (.istore_n 2, 1) := by decide +kernel
theorem dX10_offset_4 : decode cX10_offset 4 = .ok (.iconst 0, 1) := by decide +kernel
theorem dX10_offset_5 : decode cX10_offset 5 = .ok (.istore_n 3, 1) := by decide +kernel
theorem dX10_offset_6 : decode cX10_offset 6 = .ok (.iload_n 3, 1) := by decide +kernel
theorem dX10_offset_7 : decode cX10_offset 7 = .ok (.iload_n 0, 1) := by decide +kernel
theorem dX10_offset_8 : decode cX10_offset 8 = .ok (.if_icmp .ge 17, 3) := by decide +kernel
theorem dX10_offset_11 : decode cX10_offset 11 = .ok (.iload_n 1, 1) := by decide +kernel
theorem dX10_offset_12 : decode cX10_offset 12 = .ok (.iload_n 2, 1) := by decide +kernel
theorem dX10_offset_13 : decode cX10_offset 13 = .ok (.iadd, 1) := by decide +kernel
theorem dX10_offset_14 : decode cX10_offset 14 = .ok (.istore_n 1, 1) := by decide +kernel
theorem dX10_offset_15 : decode cX10_offset 15 = .ok (.iload_n 2, 1) := by decide +kernel
theorem dX10_offset_16 : decode cX10_offset 16 = .ok (.iconst 4, 1) := by decide +kernel
theorem dX10_offset_17 : decode cX10_offset 17 = .ok (.imul, 1) := by decide +kernel
theorem dX10_offset_18 : decode cX10_offset 18 = .ok (.istore_n 2, 1) := by decide +kernel
theorem dX10_offset_19 : decode cX10_offset 19 = .ok (.iinc 3 1, 3) := by decide +kernel
theorem dX10_offset_22 : decode cX10_offset 22 = .ok (.goto (-16), 3) := by decide +kernel
theorem dX10_offset_25 : decode cX10_offset 25 = .ok (.iload_n 1, 1) := by decide +kernel
theorem dX10_offset_26 : decode cX10_offset 26 = .ok (.ireturn, 1) := by decide +kernel
theorem dX10_many_0 : decode cX10_many 0 = .ok (.iload_n 0, 1) := by decide +kernel
theorem dX10_many_1 : decode cX10_many 1 = .ok (.iconst 1, 1) := by decide +kernel
theorem dX10_many_2 : decode cX10_many 2 = .ok (.iadd, 1) := by decide +kernel
theorem dX10_many_3 : decode cX10_many 3 = .ok (.invokestatic 128, 3) := by decide +kernel
theorem dX10_many_6 : decode cX10_many 6 = .ok (.iload_n 0, 1) := by decide +kernel
theorem dX10_many_7 : decode cX10_many 7 = .ok (.invokestatic 128, 3) := by decide +kernel
theorem dX10_many_10 : decode cX10_many 10 = .ok (.isub, 1) := by decide +kernel
theorem dX10_many_11 : decode cX10_many 11 = .ok (.ireturn, 1) := by decide +kernel
theorem dX10_expands_0 : decode cX10_expands 0 = .ok (.iconst 0, 1) := by decide +kernel
theorem dX10_expands_1 : decode cX10_expands 1 = .ok (.istore_n 2, 1) := by decide +kernel
theorem dX10_expands_2 : decode cX10_expands 2 = .ok (.iload_n 2, 1) := by decide +kernel
theorem dX10_expands_3 : decode cX10_expands 3 = .ok (.aload_n 0, 1) := by decide +kernel
theorem dX10_expands_4 : decode cX10_expands 4 = .ok (.getfield 27, 3) := by decide +kernel
theorem dX10_expands_7 : decode cX10_expands 7 = .ok (.arraylength, 1) := by decide +kernel
theorem dX10_expands_8 : decode cX10_expands 8 = .ok (.if_icmp .ge 24, 3) := by decide +kernel
theorem dX10_expands_11 : decode cX10_expands 11 = .ok (.aload_n 0, 1) := by decide +kernel
theorem dX10_expands_12 : decode cX10_expands 12 = .ok (.getfield 27, 3) := by decide +kernel
theorem dX10_expands_15 : decode cX10_expands 15 = .ok (.iload_n 2, 1) := by decide +kernel
theorem dX10_expands_16 : decode cX10_expands 16 = .ok (.iload_n 2, 1) := by decide +kernel
theorem dX10_expands_17 : decode cX10_expands 17 = .ok (.ifCond .ne 7, 3) := by decide +kernel
theorem dX10_expands_20 : decode cX10_expands 20 = .ok (.lconst 1, 1) := by decide +kernel
theorem dX10_expands_21 : decode cX10_expands 21 = .ok (.goto 4, 3) := by decide +kernel
theorem dX10_expands_24 : decode cX10_expands 24 = .ok (.lconst 0, 1) := by decide +kernel
theorem dX10_expands_25 : decode cX10_expands 25 = .ok (.lastore, 1) := by decide +kernel
theorem dX10_expands_26 : decode cX10_expands 26 = .ok (.iinc 2 1, 3) := by decide +kernel
theorem dX10_expands_29 : decode cX10_expands 29 = .ok (.goto (-27), 3) := by decide +kernel
theorem dX10_expands_32 : decode cX10_expands 32 = .ok (.iconst 0, 1) := by decide +kernel
theorem dX10_expands_33 : decode cX10_expands 33 = .ok (.istore_n 2, 1) := by decide +kernel
theorem dX10_expands_34 : decode cX10_expands 34 = .ok (.iload_n 2, 1) := by decide +kernel
theorem dX10_expands_35 : decode cX10_expands 35 = .ok (.aload_n 0, 1) := by decide +kernel
theorem dX10_expands_36 : decode cX10_expands 36 = .ok (.iload_n 1, 1) := by decide +kernel
theorem dX10_expands_37 : decode cX10_expands 37 = .ok (.invokevirtual 94, 3) := by decide +kernel
theorem dX10_expands_40 : decode cX10_expands 40 = .ok (.if_icmp .ge 39, 3) := by decide +kernel
theorem dX10_expands_43 : decode cX10_expands 43 = .ok (.aload_n 0, 1) := by decide +kernel
theorem dX10_expands_44 : decode cX10_expands 44 = .ok (.iload_n 1, 1) := by decide +kernel
theorem dX10_expands_45 : decode cX10_expands 45 = .ok (.iload_n 2, 1) := by decide +kernel
theorem dX10_expands_46 : decode cX10_expands 46 = .ok (.invokevirtual 104, 3) := by decide +kernel
theorem dX10_expands_49 : decode cX10_expands 49 = .ok (.istore_n 3, 1) := by decide +kernel
theorem dX10_expands_50 : decode cX10_expands 50 = .ok (.iload_n 3, 1) := by decide +kernel
theorem dX10_expands_51 : decode cX10_expands 51 = .ok (.iconst 2, 1) := by decide +kernel
theorem dX10_expands_52 : decode cX10_expands 52 = .ok (.irem, 1) := by decide +kernel
theorem dX10_expands_53 : decode cX10_expands 53 = .ok (.ifCond .ne 13, 3) := by decide +kernel
theorem dX10_expands_56 : decode cX10_expands 56 = .ok (.aload_n 0, 1) := by decide +kernel
theorem dX10_expands_57 : decode cX10_expands 57 = .ok (.iload_n 3, 1) := by decide +kernel
theorem dX10_expands_58 : decode cX10_expands 58 = .ok (.iconst 2, 1) := by decide +kernel
theorem dX10_expands_59 : decode cX10_expands 59 = .ok (.idiv, 1) := by decide +kernel
theorem dX10_expands_60 : decode cX10_expands 60 = .ok (.invokevirtual 131, 3) := by decide +kernel
theorem dX10_expands_63 : decode cX10_expands 63 = .ok (.goto 10, 3) := by decide +kernel
theorem dX10_expands_66 : decode cX10_expands 66 = .ok (.aload_n 0, 1) := by decide +kernel
theorem dX10_expands_67 : decode cX10_expands 67 = .ok (.iload_n 3, 1) := by decide +kernel
theorem dX10_expands_68 : decode cX10_expands 68 = .ok (.iconst 2, 1) := by decide +kernel
theorem dX10_expands_69 : decode cX10_expands 69 = .ok (.idiv, 1) := by decide +kernel
theorem dX10_expands_70 : decode cX10_expands 70 = .ok (.invokevirtual 134, 3) := by decide +kernel
theorem dX10_expands_73 : decode cX10_expands 73 = .ok (.iinc 2 1, 3) := by decide +kernel
theorem dX10_expands_76 : decode cX10_expands 76 = .ok (.goto (-42), 3) := by decide +kernel
theorem dX10_expands_79 : decode cX10_expands 79 = .ok (.return_, 1) := by decide +kernel
theorem dX10_timesGenerator_0 : decode cX10_timesGenerator 0 = .ok (.iconst 3, 1) := by decide +kernel
theorem dX10_timesGenerator_1 : decode cX10_timesGenerator 1 = .ok (.istore_n 2, 1) := by decide +kernel
theorem dX10_timesGenerator_2 : decode cX10_timesGenerator 2 = .ok (.iload_n 2, 1) := by decide +kernel
theorem dX10_timesGenerator_3 : decode cX10_timesGenerator 3 = .ok (.ifCond .lt 56, 3) := by decide +kernel
theorem dX10_timesGenerator_6 : decode cX10_timesGenerator 6 = .ok (.iconst 0, 1) := by decide +kernel
theorem dX10_timesGenerator_7 : decode cX10_timesGenerator 7 = .ok (.istore_n 3, 1) := by decide +kernel
theorem dX10_timesGenerator_8 : decode cX10_timesGenerator 8 = .ok (.iload_n 3, 1) := by decide +kernel
theorem dX10_timesGenerator_9 : decode cX10_timesGenerator 9 = .ok (.iload_n 2, 1) := by decide +kernel
theorem dX10_timesGenerator_10 : decode cX10_timesGenerator 10 = .ok (.invokestatic 137, 3) := by decide +kernel
theorem dX10_timesGenerator_13 : decode cX10_timesGenerator 13 = .ok (.if_icmp .ge 40, 3) := by decide +kernel
theorem dX10_timesGenerator_16 : decode cX10_timesGenerator 16 = .ok (.aload_n 0, 1) := by decide +kernel
theorem dX10_timesGenerator_17 : decode cX10_timesGenerator 17 = .ok (.getfield 27, 3) := by decide +kernel
theorem dX10_timesGenerator_20 : decode cX10_timesGenerator 20 = .ok (.iload_n 2, 1) := by decide +kernel
theorem dX10_timesGenerator_21 : decode cX10_timesGenerator 21 = .ok (.iconst 1, 1) := by decide +kernel
theorem dX10_timesGenerator_22 : decode cX10_timesGenerator 22 = .ok (.iadd, 1) := by decide +kernel
theorem dX10_timesGenerator_23 : decode cX10_timesGenerator 23 = .ok (.invokestatic 128, 3) := by decide +kernel
theorem dX10_timesGenerator_26 : decode cX10_timesGenerator 26 = .ok (.iconst 4, 1) := by decide +kernel
theorem dX10_timesGenerator_27 : decode cX10_timesGenerator 27 = .ok (.iload_n 3, 1) := by decide +kernel
theorem dX10_timesGenerator_28 : decode cX10_timesGenerator 28 = .ok (.imul, 1) := by decide +kernel
theorem dX10_timesGenerator_29 : decode cX10_timesGenerator 29 = .ok (.iadd, 1) := by decide +kernel
theorem dX10_timesGenerator_30 : decode cX10_timesGenerator 30 = .ok (.iload_n 1, 1) := by decide +kernel
theorem dX10_timesGenerator_31 : decode cX10_timesGenerator 31 = .ok (.iadd, 1) := by decide +kernel
theorem dX10_timesGenerator_32 : decode cX10_timesGenerator 32 = .ok (.dup2, 1) := by decide +kernel
theorem dX10_timesGenerator_33 : decode cX10_timesGenerator 33 = .ok (.laload, 1) := by decide +kernel
theorem dX10_timesGenerator_34 : decode cX10_timesGenerator 34 = .ok (.aload_n 0, 1) := by decide +kernel
theorem dX10_timesGenerator_35 : decode cX10_timesGenerator 35 = .ok (.getfield 27, 3) := by decide +kernel
theorem dX10_timesGenerator_38 : decode cX10_timesGenerator 38 = .ok (.iload_n 2, 1) := by decide +kernel
theorem dX10_timesGenerator_39 : decode cX10_timesGenerator 39 = .ok (.invokestatic 128, 3) := by decide +kernel
theorem dX10_timesGenerator_42 : decode cX10_timesGenerator 42 = .ok (.iload_n 3, 1) := by decide +kernel
theorem dX10_timesGenerator_43 : decode cX10_timesGenerator 43 = .ok (.iadd, 1) := by decide +kernel
theorem dX10_timesGenerator_44 : decode cX10_timesGenerator 44 = .ok (.laload, 1) := by decide +kernel
theorem dX10_timesGenerator_45 : decode cX10_timesGenerator 45 = .ok (.ladd, 1) := by decide +kernel
theorem dX10_timesGenerator_46 : decode cX10_timesGenerator 46 = .ok (.lastore, 1) := by decide +kernel
theorem dX10_timesGenerator_47 : decode cX10_timesGenerator 47 = .ok (.iinc 3 1, 3) := by decide +kernel
theorem dX10_timesGenerator_50 : decode cX10_timesGenerator 50 = .ok (.goto (-42), 3) := by decide +kernel
theorem dX10_timesGenerator_53 : decode cX10_timesGenerator 53 = .ok (.iinc 2 (-1), 3) := by decide +kernel
theorem dX10_timesGenerator_56 : decode cX10_timesGenerator 56 = .ok (.goto (-54), 3) := by decide +kernel
theorem dX10_timesGenerator_59 : decode cX10_timesGenerator 59 = .ok (.return_, 1) := by decide +kernel
theorem dX10_timesInverse_0 : decode cX10_timesInverse 0 = .ok (.iconst 0, 1) := by decide +kernel
theorem dX10_timesInverse_1 : decode cX10_timesInverse 1 = .ok (.istore_n 2, 1) := by decide +kernel
theorem dX10_timesInverse_2 : decode cX10_timesInverse 2 = .ok (.iload_n 2, 1) := by decide +kernel
theorem dX10_timesInverse_3 : decode cX10_timesInverse 3 = .ok (.iconst 4, 1) := by decide +kernel
theorem dX10_timesInverse_4 : decode cX10_timesInverse 4 = .ok (.if_icmp .ge 56, 3) := by decide +kernel
theorem dX10_timesInverse_7 : decode cX10_timesInverse 7 = .ok (.iconst 0, 1) := by decide +kernel
theorem dX10_timesInverse_8 : decode cX10_timesInverse 8 = .ok (.istore_n 3, 1) := by decide +kernel
theorem dX10_timesInverse_9 : decode cX10_timesInverse 9 = .ok (.iload_n 3, 1) := by decide +kernel
theorem dX10_timesInverse_10 : decode cX10_timesInverse 10 = .ok (.iload_n 2, 1) := by decide +kernel
theorem dX10_timesInverse_11 : decode cX10_timesInverse 11 = .ok (.invokestatic 137, 3) := by decide +kernel
theorem dX10_timesInverse_14 : decode cX10_timesInverse 14 = .ok (.if_icmp .ge 40, 3) := by decide +kernel
theorem dX10_timesInverse_17 : decode cX10_timesInverse 17 = .ok (.aload_n 0, 1) := by decide +kernel
theorem dX10_timesInverse_18 : decode cX10_timesInverse 18 = .ok (.getfield 27, 3) := by decide +kernel
theorem dX10_timesInverse_21 : decode cX10_timesInverse 21 = .ok (.iload_n 2, 1) := by decide +kernel
theorem dX10_timesInverse_22 : decode cX10_timesInverse 22 = .ok (.iconst 1, 1) := by decide +kernel
theorem dX10_timesInverse_23 : decode cX10_timesInverse 23 = .ok (.iadd, 1) := by decide +kernel
theorem dX10_timesInverse_24 : decode cX10_timesInverse 24 = .ok (.invokestatic 128, 3) := by decide +kernel
theorem dX10_timesInverse_27 : decode cX10_timesInverse 27 = .ok (.iconst 4, 1) := by decide +kernel
theorem dX10_timesInverse_28 : decode cX10_timesInverse 28 = .ok (.iload_n 3, 1) := by decide +kernel
theorem dX10_timesInverse_29 : decode cX10_timesInverse 29 = .ok (.imul, 1) := by decide +kernel
theorem dX10_timesInverse_30 : decode cX10_timesInverse 30 = .ok (.iadd, 1) := by decide +kernel
theorem dX10_timesInverse_31 : decode cX10_timesInverse 31 = .ok (.iload_n 1, 1) := by decide +kernel
theorem dX10_timesInverse_32 : decode cX10_timesInverse 32 = .ok (.iadd, 1) := by decide +kernel
theorem dX10_timesInverse_33 : decode cX10_timesInverse 33 = .ok (.dup2, 1) := by decide +kernel
theorem dX10_timesInverse_34 : decode cX10_timesInverse 34 = .ok (.laload, 1) := by decide +kernel
theorem dX10_timesInverse_35 : decode cX10_timesInverse 35 = .ok (.aload_n 0, 1) := by decide +kernel
theorem dX10_timesInverse_36 : decode cX10_timesInverse 36 = .ok (.getfield 27, 3) := by decide +kernel
theorem dX10_timesInverse_39 : decode cX10_timesInverse 39 = .ok (.iload_n 2, 1) := by decide +kernel
theorem dX10_timesInverse_40 : decode cX10_timesInverse 40 = .ok (.invokestatic 128, 3) := by decide +kernel
theorem dX10_timesInverse_43 : decode cX10_timesInverse 43 = .ok (.iload_n 3, 1) := by decide +kernel
theorem dX10_timesInverse_44 : decode cX10_timesInverse 44 = .ok (.iadd, 1) := by decide +kernel
theorem dX10_timesInverse_45 : decode cX10_timesInverse 45 = .ok (.laload, 1) := by decide +kernel
theorem dX10_timesInverse_46 : decode cX10_timesInverse 46 = .ok (.lsub, 1) := by decide +kernel
theorem dX10_timesInverse_47 : decode cX10_timesInverse 47 = .ok (.lastore, 1) := by decide +kernel
theorem dX10_timesInverse_48 : decode cX10_timesInverse 48 = .ok (.iinc 3 1, 3) := by decide +kernel
theorem dX10_timesInverse_51 : decode cX10_timesInverse 51 = .ok (.goto (-42), 3) := by decide +kernel
theorem dX10_timesInverse_54 : decode cX10_timesInverse 54 = .ok (.iinc 2 1, 3) := by decide +kernel
theorem dX10_timesInverse_57 : decode cX10_timesInverse 57 = .ok (.goto (-55), 3) := by decide +kernel
theorem dX10_timesInverse_60 : decode cX10_timesInverse 60 = .ok (.return_, 1) := by decide +kernel
theorem dX10_rootOf_0 : decode cX10_rootOf 0 = .ok (.iload_n 1, 1) := by decide +kernel
theorem dX10_rootOf_1 : decode cX10_rootOf 1 = .ok (.istore_n 2, 1) := by decide +kernel
theorem dX10_rootOf_2 : decode cX10_rootOf 2 = .ok (.aload_n 0, 1) := by decide +kernel
theorem dX10_rootOf_3 : decode cX10_rootOf 3 = .ok (.getfield 34, 3) := by decide +kernel
theorem dX10_rootOf_6 : decode cX10_rootOf 6 = .ok (.iload_n 2, 1) := by decide +kernel
theorem dX10_rootOf_7 : decode cX10_rootOf 7 = .ok (.iaload, 1) := by decide +kernel
theorem dX10_rootOf_8 : decode cX10_rootOf 8 = .ok (.iload_n 2, 1) := by decide +kernel
theorem dX10_rootOf_9 : decode cX10_rootOf 9 = .ok (.if_icmp .eq 13, 3) := by decide +kernel
theorem dX10_rootOf_12 : decode cX10_rootOf 12 = .ok (.aload_n 0, 1) := by decide +kernel
theorem dX10_rootOf_13 : decode cX10_rootOf 13 = .ok (.getfield 34, 3) := by decide +kernel
theorem dX10_rootOf_16 : decode cX10_rootOf 16 = .ok (.iload_n 2, 1) := by decide +kernel
theorem dX10_rootOf_17 : decode cX10_rootOf 17 = .ok (.iaload, 1) := by decide +kernel
theorem dX10_rootOf_18 : decode cX10_rootOf 18 = .ok (.istore_n 2, 1) := by decide +kernel
theorem dX10_rootOf_19 : decode cX10_rootOf 19 = .ok (.goto (-17), 3) := by decide +kernel
theorem dX10_rootOf_22 : decode cX10_rootOf 22 = .ok (.iload_n 2, 1) := by decide +kernel
theorem dX10_rootOf_23 : decode cX10_rootOf 23 = .ok (.ireturn, 1) := by decide +kernel
theorem dX10_newVertex_0 : decode cX10_newVertex 0 = .ok (.iconst 0, 1) := by decide +kernel
theorem dX10_newVertex_1 : decode cX10_newVertex 1 = .ok (.istore_n 1, 1) := by decide +kernel
theorem dX10_newVertex_2 : decode cX10_newVertex 2 = .ok (.iload_n 1, 1) := by decide +kernel
theorem dX10_newVertex_3 : decode cX10_newVertex 3 = .ok (.bipush 8, 2) := by decide +kernel
theorem dX10_newVertex_5 : decode cX10_newVertex 5 = .ok (.if_icmp .ge 24, 3) := by decide +kernel
theorem dX10_newVertex_8 : decode cX10_newVertex 8 = .ok (.aload_n 0, 1) := by decide +kernel
theorem dX10_newVertex_9 : decode cX10_newVertex 9 = .ok (.getfield 31, 3) := by decide +kernel
theorem dX10_newVertex_12 : decode cX10_newVertex 12 = .ok (.bipush 8, 2) := by decide +kernel
theorem dX10_newVertex_14 : decode cX10_newVertex 14 = .ok (.aload_n 0, 1) := by decide +kernel
theorem dX10_newVertex_15 : decode cX10_newVertex 15 = .ok (.getfield 140, 3) := by decide +kernel
theorem dX10_newVertex_18 : decode cX10_newVertex 18 = .ok (.imul, 1) := by decide +kernel
theorem dX10_newVertex_19 : decode cX10_newVertex 19 = .ok (.iload_n 1, 1) := by decide +kernel
theorem dX10_newVertex_20 : decode cX10_newVertex 20 = .ok (.iadd, 1) := by decide +kernel
theorem dX10_newVertex_21 : decode cX10_newVertex 21 = .ok (.iconst (-1), 1) := by decide +kernel
theorem dX10_newVertex_22 : decode cX10_newVertex 22 = .ok (.iastore, 1) := by decide +kernel
theorem dX10_newVertex_23 : decode cX10_newVertex 23 = .ok (.iinc 1 1, 3) := by decide +kernel
theorem dX10_newVertex_26 : decode cX10_newVertex 26 = .ok (.goto (-24), 3) := by decide +kernel
theorem dX10_newVertex_29 : decode cX10_newVertex 29 = .ok (.aload_n 0, 1) := by decide +kernel
theorem dX10_newVertex_30 : decode cX10_newVertex 30 = .ok (.getfield 34, 3) := by decide +kernel
theorem dX10_newVertex_33 : decode cX10_newVertex 33 = .ok (.aload_n 0, 1) := by decide +kernel
theorem dX10_newVertex_34 : decode cX10_newVertex 34 = .ok (.getfield 140, 3) := by decide +kernel
theorem dX10_newVertex_37 : decode cX10_newVertex 37 = .ok (.aload_n 0, 1) := by decide +kernel
theorem dX10_newVertex_38 : decode cX10_newVertex 38 = .ok (.getfield 140, 3) := by decide +kernel
theorem dX10_newVertex_41 : decode cX10_newVertex 41 = .ok (.iastore, 1) := by decide +kernel
theorem dX10_newVertex_42 : decode cX10_newVertex 42 = .ok (.aload_n 0, 1) := by decide +kernel
theorem dX10_newVertex_43 : decode cX10_newVertex 43 = .ok (.dup, 1) := by decide +kernel
theorem dX10_newVertex_44 : decode cX10_newVertex 44 = .ok (.getfield 140, 3) := by decide +kernel
theorem dX10_newVertex_47 : decode cX10_newVertex 47 = .ok (.iconst 1, 1) := by decide +kernel
theorem dX10_newVertex_48 : decode cX10_newVertex 48 = .ok (.iadd, 1) := by decide +kernel
theorem dX10_newVertex_49 : decode cX10_newVertex 49 = .ok (.putfield 140, 3) := by decide +kernel
theorem dX10_newVertex_52 : decode cX10_newVertex 52 = .ok (.aload_n 0, 1) := by decide +kernel
theorem dX10_newVertex_53 : decode cX10_newVertex 53 = .ok (.getfield 140, 3) := by decide +kernel
theorem dX10_newVertex_56 : decode cX10_newVertex 56 = .ok (.iconst 1, 1) := by decide +kernel
theorem dX10_newVertex_57 : decode cX10_newVertex 57 = .ok (.isub, 1) := by decide +kernel
theorem dX10_newVertex_58 : decode cX10_newVertex 58 = .ok (.ireturn, 1) := by decide +kernel
theorem dX10_waitsFor_0 : decode cX10_waitsFor 0 = .ok (.aload_n 0, 1) := by decide +kernel
theorem dX10_waitsFor_1 : decode cX10_waitsFor 1 = .ok (.getfield 38, 3) := by decide +kernel
theorem dX10_waitsFor_4 : decode cX10_waitsFor 4 = .ok (.iconst 2, 1) := by decide +kernel
theorem dX10_waitsFor_5 : decode cX10_waitsFor 5 = .ok (.aload_n 0, 1) := by decide +kernel
theorem dX10_waitsFor_6 : decode cX10_waitsFor 6 = .ok (.getfield 143, 3) := by decide +kernel
theorem dX10_waitsFor_9 : decode cX10_waitsFor 9 = .ok (.imul, 1) := by decide +kernel
theorem dX10_waitsFor_10 : decode cX10_waitsFor 10 = .ok (.iload_n 1, 1) := by decide +kernel
theorem dX10_waitsFor_11 : decode cX10_waitsFor 11 = .ok (.iastore, 1) := by decide +kernel
theorem dX10_waitsFor_12 : decode cX10_waitsFor 12 = .ok (.aload_n 0, 1) := by decide +kernel
theorem dX10_waitsFor_13 : decode cX10_waitsFor 13 = .ok (.getfield 38, 3) := by decide +kernel
theorem dX10_waitsFor_16 : decode cX10_waitsFor 16 = .ok (.iconst 2, 1) := by decide +kernel
theorem dX10_waitsFor_17 : decode cX10_waitsFor 17 = .ok (.aload_n 0, 1) := by decide +kernel
theorem dX10_waitsFor_18 : decode cX10_waitsFor 18 = .ok (.getfield 143, 3) := by decide +kernel
theorem dX10_waitsFor_21 : decode cX10_waitsFor 21 = .ok (.imul, 1) := by decide +kernel
theorem dX10_waitsFor_22 : decode cX10_waitsFor 22 = .ok (.iconst 1, 1) := by decide +kernel
theorem dX10_waitsFor_23 : decode cX10_waitsFor 23 = .ok (.iadd, 1) := by decide +kernel
theorem dX10_waitsFor_24 : decode cX10_waitsFor 24 = .ok (.iload_n 2, 1) := by decide +kernel
theorem dX10_waitsFor_25 : decode cX10_waitsFor 25 = .ok (.iastore, 1) := by decide +kernel
theorem dX10_waitsFor_26 : decode cX10_waitsFor 26 = .ok (.aload_n 0, 1) := by decide +kernel
theorem dX10_waitsFor_27 : decode cX10_waitsFor 27 = .ok (.dup, 1) := by decide +kernel
theorem dX10_waitsFor_28 : decode cX10_waitsFor 28 = .ok (.getfield 143, 3) := by decide +kernel
theorem dX10_waitsFor_31 : decode cX10_waitsFor 31 = .ok (.iconst 1, 1) := by decide +kernel
theorem dX10_waitsFor_32 : decode cX10_waitsFor 32 = .ok (.iadd, 1) := by decide +kernel
theorem dX10_waitsFor_33 : decode cX10_waitsFor 33 = .ok (.putfield 143, 3) := by decide +kernel
theorem dX10_waitsFor_36 : decode cX10_waitsFor 36 = .ok (.return_, 1) := by decide +kernel
