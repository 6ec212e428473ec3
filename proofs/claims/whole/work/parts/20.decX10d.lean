/-! rows that decode -/
theorem dX10_doCommute_0 : decode cX10_doCommute 0 = .ok (.aload_n 0, 1) := by decide +kernel
theorem dX10_doCommute_1 : decode cX10_doCommute 1 = .ok (.iconst 0, 1) := by decide +kernel
theorem dX10_doCommute_2 : decode cX10_doCommute 2 = .ok (.putfield 75, 3) := by decide +kernel
theorem dX10_doCommute_5 : decode cX10_doCommute 5 = .ok (.iload_n 1, 1) := by decide +kernel
theorem dX10_doCommute_6 : decode cX10_doCommute 6 = .ok (.iload_n 2, 1) := by decide +kernel
theorem dX10_doCommute_7 : decode cX10_doCommute 7 = .ok (.invokestatic 295, 3) := by decide +kernel
theorem dX10_doCommute_10 : decode cX10_doCommute 10 = .ok (.ifCond .ne 18, 3) := by decide +kernel
theorem dX10_doCommute_13 : decode cX10_doCommute 13 = .ok (.aload_n 0, 1) := by decide +kernel
theorem dX10_doCommute_14 : decode cX10_doCommute 14 = .ok (.iconst 1, 1) := by decide +kernel
theorem dX10_doCommute_15 : decode cX10_doCommute 15 = .ok (.invokevirtual 275, 3) := by decide +kernel
theorem dX10_doCommute_18 : decode cX10_doCommute 18 = .ok (.iconst 1, 1) := by decide +kernel
theorem dX10_doCommute_19 : decode cX10_doCommute 19 = .ok (.if_icmp .ne 7, 3) := by decide +kernel
theorem dX10_doCommute_22 : decode cX10_doCommute 22 = .ok (.iconst 1, 1) := by decide +kernel
theorem dX10_doCommute_23 : decode cX10_doCommute 23 = .ok (.goto 4, 3) := by decide +kernel
theorem dX10_doCommute_26 : decode cX10_doCommute 26 = .ok (.iconst 0, 1) := by decide +kernel
theorem dX10_doCommute_27 : decode cX10_doCommute 27 = .ok (.ireturn, 1) := by decide +kernel
theorem dX10_doCommute_28 : decode cX10_doCommute 28 = .ok (.aload_n 0, 1) := by decide +kernel
theorem dX10_doCommute_29 : decode cX10_doCommute 29 = .ok (.iload_n 1, 1) := by decide +kernel
theorem dX10_doCommute_30 : decode cX10_doCommute 30 = .ok (.invokestatic 263, 3) := by decide +kernel
theorem dX10_doCommute_33 : decode cX10_doCommute 33 = .ok (.iload_n 2, 1) := by decide +kernel
theorem dX10_doCommute_34 : decode cX10_doCommute 34 = .ok (.invokestatic 263, 3) := by decide +kernel
theorem dX10_doCommute_37 : decode cX10_doCommute 37 = .ok (.invokevirtual 301, 3) := by decide +kernel
theorem dX10_doCommute_40 : decode cX10_doCommute 40 = .ok (.aload_n 0, 1) := by decide +kernel
theorem dX10_doCommute_41 : decode cX10_doCommute 41 = .ok (.aload_n 0, 1) := by decide +kernel
theorem dX10_doCommute_42 : decode cX10_doCommute 42 = .ok (.getfield 101, 3) := by decide +kernel
theorem dX10_doCommute_45 : decode cX10_doCommute 45 = .ok (.putfield 307, 3) := by decide +kernel
theorem dX10_doCommute_48 : decode cX10_doCommute 48 = .ok (.iconst 0, 1) := by decide +kernel
theorem dX10_doCommute_49 : decode cX10_doCommute 49 = .ok (.istore_n 3, 1) := by decide +kernel
theorem dX10_doCommute_50 : decode cX10_doCommute 50 = .ok (.iload_n 3, 1) := by decide +kernel
theorem dX10_doCommute_51 : decode cX10_doCommute 51 = .ok (.aload_n 0, 1) := by decide +kernel
theorem dX10_doCommute_52 : decode cX10_doCommute 52 = .ok (.getfield 101, 3) := by decide +kernel
theorem dX10_doCommute_55 : decode cX10_doCommute 55 = .ok (.if_icmp .ge 21, 3) := by decide +kernel
theorem dX10_doCommute_58 : decode cX10_doCommute 58 = .ok (.aload_n 0, 1) := by decide +kernel
theorem dX10_doCommute_59 : decode cX10_doCommute 59 = .ok (.getfield 24, 3) := by decide +kernel
theorem dX10_doCommute_62 : decode cX10_doCommute 62 = .ok (.iload_n 3, 1) := by decide +kernel
theorem dX10_doCommute_63 : decode cX10_doCommute 63 = .ok (.aload_n 0, 1) := by decide +kernel
theorem dX10_doCommute_64 : decode cX10_doCommute 64 = .ok (.getfield 21, 3) := by decide +kernel
theorem dX10_doCommute_67 : decode cX10_doCommute 67 = .ok (.iload_n 3, 1) := by decide +kernel
theorem dX10_doCommute_68 : decode cX10_doCommute 68 = .ok (.iaload, 1) := by decide +kernel
theorem dX10_doCommute_69 : decode cX10_doCommute 69 = .ok (.iastore, 1) := by decide +kernel
theorem dX10_doCommute_70 : decode cX10_doCommute 70 = .ok (.iinc 3 1, 3) := by decide +kernel
theorem dX10_doCommute_73 : decode cX10_doCommute 73 = .ok (.goto (-23), 3) := by decide +kernel
theorem dX10_doCommute_76 : decode cX10_doCommute 76 = .ok (.aload_n 0, 1) := by decide +kernel
theorem dX10_doCommute_77 : decode cX10_doCommute 77 = .ok (.iload_n 2, 1) := by decide +kernel
theorem dX10_doCommute_78 : decode cX10_doCommute 78 = .ok (.invokestatic 263, 3) := by decide +kernel
theorem dX10_doCommute_81 : decode cX10_doCommute 81 = .ok (.iload_n 1, 1) := by decide +kernel
theorem dX10_doCommute_82 : decode cX10_doCommute 82 = .ok (.invokestatic 263, 3) := by decide +kernel
theorem dX10_doCommute_85 : decode cX10_doCommute 85 = .ok (.invokevirtual 301, 3) := by decide +kernel
theorem dX10_doCommute_88 : decode cX10_doCommute 88 = .ok (.aload_n 0, 1) := by decide +kernel
theorem dX10_doCommute_89 : decode cX10_doCommute 89 = .ok (.getfield 101, 3) := by decide +kernel
theorem dX10_doCommute_92 : decode cX10_doCommute 92 = .ok (.aload_n 0, 1) := by decide +kernel
theorem dX10_doCommute_93 : decode cX10_doCommute 93 = .ok (.getfield 307, 3) := by decide +kernel
theorem dX10_doCommute_96 : decode cX10_doCommute 96 = .ok (.if_icmp .ne 7, 3) := by decide +kernel
theorem dX10_doCommute_99 : decode cX10_doCommute 99 = .ok (.iconst 1, 1) := by decide +kernel
theorem dX10_doCommute_100 : decode cX10_doCommute 100 = .ok (.goto 4, 3) := by decide +kernel
theorem dX10_doCommute_103 : decode cX10_doCommute 103 = .ok (.iconst 0, 1) := by decide +kernel
theorem dX10_doCommute_104 : decode cX10_doCommute 104 = .ok (.istore_n 3, 1) := by decide +kernel
theorem dX10_doCommute_105 : decode cX10_doCommute 105 = .ok (.iconst 0, 1) := by decide +kernel
theorem dX10_doCommute_106 : decode cX10_doCommute 106 = .ok (.istore 4, 2) := by decide +kernel
theorem dX10_doCommute_108 : decode cX10_doCommute 108 = .ok (.iload 4, 2) := by decide +kernel
theorem dX10_doCommute_110 : decode cX10_doCommute 110 = .ok (.aload_n 0, 1) := by decide +kernel
theorem dX10_doCommute_111 : decode cX10_doCommute 111 = .ok (.getfield 101, 3) := by decide +kernel
theorem dX10_doCommute_114 : decode cX10_doCommute 114 = .ok (.if_icmp .ge 36, 3) := by decide +kernel
theorem dX10_doCommute_117 : decode cX10_doCommute 117 = .ok (.iload_n 3, 1) := by decide +kernel
theorem dX10_doCommute_118 : decode cX10_doCommute 118 = .ok (.ifCond .eq 32, 3) := by decide +kernel
theorem dX10_doCommute_121 : decode cX10_doCommute 121 = .ok (.aload_n 0, 1) := by decide +kernel
theorem dX10_doCommute_122 : decode cX10_doCommute 122 = .ok (.getfield 24, 3) := by decide +kernel
theorem dX10_doCommute_125 : decode cX10_doCommute 125 = .ok (.iload 4, 2) := by decide +kernel
theorem dX10_doCommute_127 : decode cX10_doCommute 127 = .ok (.iaload, 1) := by decide +kernel
theorem dX10_doCommute_128 : decode cX10_doCommute 128 = .ok (.aload_n 0, 1) := by decide +kernel
theorem dX10_doCommute_129 : decode cX10_doCommute 129 = .ok (.getfield 21, 3) := by decide +kernel
theorem dX10_doCommute_132 : decode cX10_doCommute 132 = .ok (.iload 4, 2) := by decide +kernel
theorem dX10_doCommute_134 : decode cX10_doCommute 134 = .ok (.iaload, 1) := by decide +kernel
theorem dX10_doCommute_135 : decode cX10_doCommute 135 = .ok (.if_icmp .ne 7, 3) := by decide +kernel
theorem dX10_doCommute_138 : decode cX10_doCommute 138 = .ok (.iconst 1, 1) := by decide +kernel
theorem dX10_doCommute_139 : decode cX10_doCommute 139 = .ok (.goto 4, 3) := by decide +kernel
theorem dX10_doCommute_142 : decode cX10_doCommute 142 = .ok (.iconst 0, 1) := by decide +kernel
theorem dX10_doCommute_143 : decode cX10_doCommute 143 = .ok (.istore_n 3, 1) := by decide +kernel
theorem dX10_doCommute_144 : decode cX10_doCommute 144 = .ok (.iinc 4 1, 3) := by decide +kernel
theorem dX10_doCommute_147 : decode cX10_doCommute 147 = .ok (.goto (-39), 3) := by decide +kernel
theorem dX10_doCommute_150 : decode cX10_doCommute 150 = .ok (.iload_n 3, 1) := by decide +kernel
theorem dX10_doCommute_151 : decode cX10_doCommute 151 = .ok (.ireturn, 1) := by decide +kernel
theorem dX10_coreLength_0 : decode cX10_coreLength 0 = .ok (.aload_n 0, 1) := by decide +kernel
theorem dX10_coreLength_1 : decode cX10_coreLength 1 = .ok (.iconst 0, 1) := by decide +kernel
theorem dX10_coreLength_2 : decode cX10_coreLength 2 = .ok (.putfield 75, 3) := by decide +kernel
theorem dX10_coreLength_5 : decode cX10_coreLength 5 = .ok (.iload_n 1, 1) := by decide +kernel
theorem dX10_coreLength_6 : decode cX10_coreLength 6 = .ok (.invokestatic 90, 3) := by decide +kernel
theorem dX10_coreLength_9 : decode cX10_coreLength 9 = .ok (.ifCond .eq 14, 3) := by decide +kernel
theorem dX10_coreLength_12 : decode cX10_coreLength 12 = .ok (.aload_n 0, 1) := by decide +kernel
theorem dX10_coreLength_13 : decode cX10_coreLength 13 = .ok (.iload_n 1, 1) := by decide +kernel
theorem dX10_coreLength_14 : decode cX10_coreLength 14 = .ok (.invokestatic 263, 3) := by decide +kernel
theorem dX10_coreLength_17 : decode cX10_coreLength 17 = .ok (.invokevirtual 121, 3) := by decide +kernel
theorem dX10_coreLength_20 : decode cX10_coreLength 20 = .ok (.goto 8, 3) := by decide +kernel
theorem dX10_coreLength_23 : decode cX10_coreLength 23 = .ok (.aload_n 0, 1) := by decide +kernel
theorem dX10_coreLength_24 : decode cX10_coreLength 24 = .ok (.iconst 1, 1) := by decide +kernel
theorem dX10_coreLength_25 : decode cX10_coreLength 25 = .ok (.invokevirtual 275, 3) := by decide +kernel
theorem dX10_coreLength_28 : decode cX10_coreLength 28 = .ok (.ireturn, 1) := by decide +kernel
theorem dX10_coreLetter_0 : decode cX10_coreLetter 0 = .ok (.aload_n 0, 1) := by decide +kernel
theorem dX10_coreLetter_1 : decode cX10_coreLetter 1 = .ok (.iconst 0, 1) := by decide +kernel
theorem dX10_coreLetter_2 : decode cX10_coreLetter 2 = .ok (.putfield 75, 3) := by decide +kernel
theorem dX10_coreLetter_5 : decode cX10_coreLetter 5 = .ok (.iload_n 1, 1) := by decide +kernel
theorem dX10_coreLetter_6 : decode cX10_coreLetter 6 = .ok (.invokestatic 90, 3) := by decide +kernel
theorem dX10_coreLetter_9 : decode cX10_coreLetter 9 = .ok (.ifCond .eq 19, 3) := by decide +kernel
theorem dX10_coreLetter_12 : decode cX10_coreLetter 12 = .ok (.iload_n 2, 1) := by decide +kernel
theorem dX10_coreLetter_13 : decode cX10_coreLetter 13 = .ok (.ifCond .lt 15, 3) := by decide +kernel
theorem dX10_coreLetter_16 : decode cX10_coreLetter 16 = .ok (.iload_n 2, 1) := by decide +kernel
theorem dX10_coreLetter_17 : decode cX10_coreLetter 17 = .ok (.aload_n 0, 1) := by decide +kernel
theorem dX10_coreLetter_18 : decode cX10_coreLetter 18 = .ok (.iload_n 1, 1) := by decide +kernel
theorem dX10_coreLetter_19 : decode cX10_coreLetter 19 = .ok (.invokestatic 263, 3) := by decide +kernel
theorem dX10_coreLetter_22 : decode cX10_coreLetter 22 = .ok (.invokevirtual 121, 3) := by decide +kernel
theorem dX10_coreLetter_25 : decode cX10_coreLetter 25 = .ok (.if_icmp .lt 10, 3) := by decide +kernel
theorem dX10_coreLetter_28 : decode cX10_coreLetter 28 = .ok (.aload_n 0, 1) := by decide +kernel
theorem dX10_coreLetter_29 : decode cX10_coreLetter 29 = .ok (.iconst 1, 1) := by decide +kernel
theorem dX10_coreLetter_30 : decode cX10_coreLetter 30 = .ok (.invokevirtual 275, 3) := by decide +kernel
theorem dX10_coreLetter_33 : decode cX10_coreLetter 33 = .ok (.i2c, 1) := by decide +kernel
theorem dX10_coreLetter_34 : decode cX10_coreLetter 34 = .ok (.ireturn, 1) := by decide +kernel
theorem dX10_coreLetter_35 : decode cX10_coreLetter 35 = .ok (.aload_n 0, 1) := by decide +kernel
theorem dX10_coreLetter_36 : decode cX10_coreLetter 36 = .ok (.iload_n 1, 1) := by decide +kernel
theorem dX10_coreLetter_37 : decode cX10_coreLetter 37 = .ok (.invokestatic 263, 3) := by decide +kernel
theorem dX10_coreLetter_40 : decode cX10_coreLetter 40 = .ok (.iload_n 2, 1) := by decide +kernel
theorem dX10_coreLetter_41 : decode cX10_coreLetter 41 = .ok (.invokevirtual 310, 3) := by decide +kernel
theorem dX10_coreLetter_44 : decode cX10_coreLetter 44 = .ok (.invokestatic 291, 3) := by decide +kernel
theorem dX10_coreLetter_47 : decode cX10_coreLetter 47 = .ok (.ireturn, 1) := by decide +kernel
theorem dX10_areConjugate_0 : decode cX10_areConjugate 0 = .ok (.aload_n 0, 1) := by decide +kernel
theorem dX10_areConjugate_1 : decode cX10_areConjugate 1 = .ok (.iconst 0, 1) := by decide +kernel
theorem dX10_areConjugate_2 : decode cX10_areConjugate 2 = .ok (.putfield 75, 3) := by decide +kernel
theorem dX10_areConjugate_5 : decode cX10_areConjugate 5 = .ok (.iload_n 1, 1) := by decide +kernel
theorem dX10_areConjugate_6 : decode cX10_areConjugate 6 = .ok (.iload_n 2, 1) := by decide +kernel
theorem dX10_areConjugate_7 : decode cX10_areConjugate 7 = .ok (.invokestatic 295, 3) := by decide +kernel
theorem dX10_areConjugate_10 : decode cX10_areConjugate 10 = .ok (.ifCond .eq 27, 3) := by decide +kernel
theorem dX10_areConjugate_13 : decode cX10_areConjugate 13 = .ok (.aload_n 0, 1) := by decide +kernel
theorem dX10_areConjugate_14 : decode cX10_areConjugate 14 = .ok (.iload_n 1, 1) := by decide +kernel
theorem dX10_areConjugate_15 : decode cX10_areConjugate 15 = .ok (.invokestatic 263, 3) := by decide +kernel
theorem dX10_areConjugate_18 : decode cX10_areConjugate 18 = .ok (.iload_n 2, 1) := by decide +kernel
theorem dX10_areConjugate_19 : decode cX10_areConjugate 19 = .ok (.invokestatic 263, 3) := by decide +kernel
theorem dX10_areConjugate_22 : decode cX10_areConjugate 22 = .ok (.invokevirtual 313, 3) := by decide +kernel
theorem dX10_areConjugate_25 : decode cX10_areConjugate 25 = .ok (.iconst (-1), 1) := by decide +kernel
theorem dX10_areConjugate_26 : decode cX10_areConjugate 26 = .ok (.if_icmp .eq 7, 3) := by decide +kernel
theorem dX10_areConjugate_29 : decode cX10_areConjugate 29 = .ok (.iconst 1, 1) := by decide +kernel
theorem dX10_areConjugate_30 : decode cX10_areConjugate 30 = .ok (.goto 21, 3) := by decide +kernel
theorem dX10_areConjugate_33 : decode cX10_areConjugate 33 = .ok (.iconst 0, 1) := by decide +kernel
theorem dX10_areConjugate_34 : decode cX10_areConjugate 34 = .ok (.goto 17, 3) := by decide +kernel
theorem dX10_areConjugate_37 : decode cX10_areConjugate 37 = .ok (.aload_n 0, 1) := by decide +kernel
theorem dX10_areConjugate_38 : decode cX10_areConjugate 38 = .ok (.iconst 1, 1) := by decide +kernel
theorem dX10_areConjugate_39 : decode cX10_areConjugate 39 = .ok (.invokevirtual 275, 3) := by decide +kernel
theorem dX10_areConjugate_42 : decode cX10_areConjugate 42 = .ok (.iconst 1, 1) := by decide +kernel
theorem dX10_areConjugate_43 : decode cX10_areConjugate 43 = .ok (.if_icmp .ne 7, 3) := by decide +kernel
theorem dX10_areConjugate_46 : decode cX10_areConjugate 46 = .ok (.iconst 1, 1) := by decide +kernel
theorem dX10_areConjugate_47 : decode cX10_areConjugate 47 = .ok (.goto 4, 3) := by decide +kernel
theorem dX10_areConjugate_50 : decode cX10_areConjugate 50 = .ok (.iconst 0, 1) := by decide +kernel
theorem dX10_areConjugate_51 : decode cX10_areConjugate 51 = .ok (.ireturn, 1) := by decide +kernel
theorem dX10_rotation_0 : decode cX10_rotation 0 = .ok (.aload_n 0, 1) := by decide +kernel
theorem dX10_rotation_1 : decode cX10_rotation 1 = .ok (.iconst 0, 1) := by decide +kernel
theorem dX10_rotation_2 : decode cX10_rotation 2 = .ok (.putfield 75, 3) := by decide +kernel
theorem dX10_rotation_5 : decode cX10_rotation 5 = .ok (.iload_n 1, 1) := by decide +kernel
theorem dX10_rotation_6 : decode cX10_rotation 6 = .ok (.iload_n 2, 1) := by decide +kernel
theorem dX10_rotation_7 : decode cX10_rotation 7 = .ok (.invokestatic 295, 3) := by decide +kernel
theorem dX10_rotation_10 : decode cX10_rotation 10 = .ok (.ifCond .ne 9, 3) := by decide +kernel
theorem dX10_rotation_13 : decode cX10_rotation 13 = .ok (.aload_n 0, 1) := by decide +kernel
theorem dX10_rotation_14 : decode cX10_rotation 14 = .ok (.iconst 1, 1) := by decide +kernel
theorem dX10_rotation_15 : decode cX10_rotation 15 = .ok (.invokevirtual 275, 3) := by decide +kernel
theorem dX10_rotation_18 : decode cX10_rotation 18 = .ok (.ireturn, 1) := by decide +kernel
theorem dX10_rotation_19 : decode cX10_rotation 19 = .ok (.aload_n 0, 1) := by decide +kernel
theorem dX10_rotation_20 : decode cX10_rotation 20 = .ok (.iload_n 1, 1) := by decide +kernel
theorem dX10_rotation_21 : decode cX10_rotation 21 = .ok (.invokestatic 263, 3) := by decide +kernel
theorem dX10_rotation_24 : decode cX10_rotation 24 = .ok (.iload_n 2, 1) := by decide +kernel
theorem dX10_rotation_25 : decode cX10_rotation 25 = .ok (.invokestatic 263, 3) := by decide +kernel
theorem dX10_rotation_28 : decode cX10_rotation 28 = .ok (.invokevirtual 313, 3) := by decide +kernel
theorem dX10_rotation_31 : decode cX10_rotation 31 = .ok (.istore_n 3, 1) := by decide +kernel
theorem dX10_rotation_32 : decode cX10_rotation 32 = .ok (.iload_n 3, 1) := by decide +kernel
theorem dX10_rotation_33 : decode cX10_rotation 33 = .ok (.iconst (-1), 1) := by decide +kernel
theorem dX10_rotation_34 : decode cX10_rotation 34 = .ok (.if_icmp .ne 11, 3) := by decide +kernel
theorem dX10_rotation_37 : decode cX10_rotation 37 = .ok (.aload_n 0, 1) := by decide +kernel
theorem dX10_rotation_38 : decode cX10_rotation 38 = .ok (.iconst 2, 1) := by decide +kernel
theorem dX10_rotation_39 : decode cX10_rotation 39 = .ok (.invokevirtual 275, 3) := by decide +kernel
theorem dX10_rotation_42 : decode cX10_rotation 42 = .ok (.goto 4, 3) := by decide +kernel
theorem dX10_rotation_45 : decode cX10_rotation 45 = .ok (.iload_n 3, 1) := by decide +kernel
theorem dX10_rotation_46 : decode cX10_rotation 46 = .ok (.ireturn, 1) := by decide +kernel
theorem dX10_rootExponent_0 : decode cX10_rootExponent 0 = .ok (.aload_n 0, 1) := by decide +kernel
theorem dX10_rootExponent_1 : decode cX10_rootExponent 1 = .ok (.iconst 0, 1) := by decide +kernel
theorem dX10_rootExponent_2 : decode cX10_rootExponent 2 = .ok (.putfield 75, 3) := by decide +kernel
theorem dX10_rootExponent_5 : decode cX10_rootExponent 5 = .ok (.iload_n 1, 1) := by decide +kernel
theorem dX10_rootExponent_6 : decode cX10_rootExponent 6 = .ok (.invokestatic 90, 3) := by decide +kernel
theorem dX10_rootExponent_9 : decode cX10_rootExponent 9 = .ok (.ifCond .ne 9, 3) := by decide +kernel
theorem dX10_rootExponent_12 : decode cX10_rootExponent 12 = .ok (.aload_n 0, 1) := by decide +kernel
theorem dX10_rootExponent_13 : decode cX10_rootExponent 13 = .ok (.iconst 1, 1) := by decide +kernel
theorem dX10_rootExponent_14 : decode cX10_rootExponent 14 = .ok (.invokevirtual 275, 3) := by decide +kernel
theorem dX10_rootExponent_17 : decode cX10_rootExponent 17 = .ok (.ireturn, 1) := by decide +kernel
theorem dX10_rootExponent_18 : decode cX10_rootExponent 18 = .ok (.aload_n 0, 1) := by decide +kernel
theorem dX10_rootExponent_19 : decode cX10_rootExponent 19 = .ok (.iload_n 1, 1) := by decide +kernel
theorem dX10_rootExponent_20 : decode cX10_rootExponent 20 = .ok (.invokestatic 263, 3) := by decide +kernel
theorem dX10_rootExponent_23 : decode cX10_rootExponent 23 = .ok (.invokevirtual 94, 3) := by decide +kernel
theorem dX10_rootExponent_26 : decode cX10_rootExponent 26 = .ok (.ifCond .ne 9, 3) := by decide +kernel
theorem dX10_rootExponent_29 : decode cX10_rootExponent 29 = .ok (.aload_n 0, 1) := by decide +kernel
theorem dX10_rootExponent_30 : decode cX10_rootExponent 30 = .ok (.iconst 2, 1) := by decide +kernel
theorem dX10_rootExponent_31 : decode cX10_rootExponent 31 = .ok (.invokevirtual 275, 3) := by decide +kernel
theorem dX10_rootExponent_34 : decode cX10_rootExponent 34 = .ok (.ireturn, 1) := by decide +kernel
theorem dX10_rootExponent_35 : decode cX10_rootExponent 35 = .ok (.aload_n 0, 1) := by decide +kernel
theorem dX10_rootExponent_36 : decode cX10_rootExponent 36 = .ok (.iload_n 1, 1) := by decide +kernel
theorem dX10_rootExponent_37 : decode cX10_rootExponent 37 = .ok (.invokestatic 263, 3) := by decide +kernel
theorem dX10_rootExponent_40 : decode cX10_rootExponent 40 = .ok (.invokevirtual 121, 3) := by decide +kernel
theorem dX10_rootExponent_43 : decode cX10_rootExponent 43 = .ok (.aload_n 0, 1) := by decide +kernel
theorem dX10_rootExponent_44 : decode cX10_rootExponent 44 = .ok (.iload_n 1, 1) := by decide +kernel
theorem dX10_rootExponent_45 : decode cX10_rootExponent 45 = .ok (.invokestatic 263, 3) := by decide +kernel
theorem dX10_rootExponent_48 : decode cX10_rootExponent 48 = .ok (.invokevirtual 316, 3) := by decide +kernel
theorem dX10_rootExponent_51 : decode cX10_rootExponent 51 = .ok (.idiv, 1) := by decide +kernel
theorem dX10_rootExponent_52 : decode cX10_rootExponent 52 = .ok (.ireturn, 1) := by decide +kernel
theorem dX10_normOf_0 : decode cX10_normOf 0 = .ok (.lconst 0, 1) := by decide +kernel
theorem dX10_normOf_1 : decode cX10_normOf 1 = .ok (.lstore_n 2, 1) := by decide +kernel
theorem dX10_normOf_2 : decode cX10_normOf 2 = .ok (.iconst 0, 1) := by decide +kernel
theorem dX10_normOf_3 : decode cX10_normOf 3 = .ok (.istore 4, 2) := by decide +kernel
theorem dX10_normOf_5 : decode cX10_normOf 5 = .ok (.iload 4, 2) := by decide +kernel
theorem dX10_normOf_7 : decode cX10_normOf 7 = .ok (.iload_n 1, 1) := by decide +kernel
theorem dX10_normOf_8 : decode cX10_normOf 8 = .ok (.invokestatic 137, 3) := by decide +kernel
theorem dX10_normOf_11 : decode cX10_normOf 11 = .ok (.if_icmp .ge 27, 3) := by decide +kernel
theorem dX10_normOf_14 : decode cX10_normOf 14 = .ok (.lload_n 2, 1) := by decide +kernel
theorem dX10_normOf_15 : decode cX10_normOf 15 = .ok (.aload_n 0, 1) := by decide +kernel
theorem dX10_normOf_16 : decode cX10_normOf 16 = .ok (.getfield 27, 3) := by decide +kernel
theorem dX10_normOf_19 : decode cX10_normOf 19 = .ok (.iload_n 1, 1) := by decide +kernel
theorem dX10_normOf_20 : decode cX10_normOf 20 = .ok (.invokestatic 128, 3) := by decide +kernel
theorem dX10_normOf_23 : decode cX10_normOf 23 = .ok (.iload 4, 2) := by decide +kernel
theorem dX10_normOf_25 : decode cX10_normOf 25 = .ok (.iadd, 1) := by decide +kernel
theorem dX10_normOf_26 : decode cX10_normOf 26 = .ok (.laload, 1) := by decide +kernel
theorem dX10_normOf_27 : decode cX10_normOf 27 = .ok (.invokestatic 319, 3) := by decide +kernel
theorem dX10_normOf_30 : decode cX10_normOf 30 = .ok (.ladd, 1) := by decide +kernel
theorem dX10_normOf_31 : decode cX10_normOf 31 = .ok (.lstore_n 2, 1) := by decide +kernel
theorem dX10_normOf_32 : decode cX10_normOf 32 = .ok (.iinc 4 1, 3) := by decide +kernel
theorem dX10_normOf_35 : decode cX10_normOf 35 = .ok (.goto (-30), 3) := by decide +kernel
theorem dX10_normOf_38 : decode cX10_normOf 38 = .ok (.lload_n 2, 1) := by decide +kernel
theorem dX10_normOf_39 : decode cX10_normOf 39 = .ok (.lreturn, 1) := by decide +kernel
theorem dX10_magnusDegree_0 : decode cX10_magnusDegree 0 = .ok (.aload_n 0, 1) := by decide +kernel
theorem dX10_magnusDegree_1 : decode cX10_magnusDegree 1 = .ok (.iconst 0, 1) := by decide +kernel
theorem dX10_magnusDegree_2 : decode cX10_magnusDegree 2 = .ok (.putfield 75, 3) := by decide +kernel
theorem dX10_magnusDegree_5 : decode cX10_magnusDegree 5 = .ok (.iload_n 1, 1) := by decide +kernel
theorem dX10_magnusDegree_6 : decode cX10_magnusDegree 6 = .ok (.invokestatic 90, 3) := by decide +kernel
theorem dX10_magnusDegree_9 : decode cX10_magnusDegree 9 = .ok (.ifCond .ne 9, 3) := by decide +kernel
theorem dX10_magnusDegree_12 : decode cX10_magnusDegree 12 = .ok (.aload_n 0, 1) := by decide +kernel
theorem dX10_magnusDegree_13 : decode cX10_magnusDegree 13 = .ok (.iconst 1, 1) := by decide +kernel
theorem dX10_magnusDegree_14 : decode cX10_magnusDegree 14 = .ok (.invokevirtual 275, 3) := by decide +kernel
theorem dX10_magnusDegree_17 : decode cX10_magnusDegree 17 = .ok (.ireturn, 1) := by decide +kernel
theorem dX10_magnusDegree_18 : decode cX10_magnusDegree 18 = .ok (.aload_n 0, 1) := by decide +kernel
theorem dX10_magnusDegree_19 : decode cX10_magnusDegree 19 = .ok (.iload_n 1, 1) := by decide +kernel
theorem dX10_magnusDegree_20 : decode cX10_magnusDegree 20 = .ok (.invokestatic 263, 3) := by decide +kernel
theorem dX10_magnusDegree_23 : decode cX10_magnusDegree 23 = .ok (.invokevirtual 323, 3) := by decide +kernel
theorem dX10_magnusDegree_26 : decode cX10_magnusDegree 26 = .ok (.iconst 1, 1) := by decide +kernel
theorem dX10_magnusDegree_27 : decode cX10_magnusDegree 27 = .ok (.istore_n 2, 1) := by decide +kernel
theorem dX10_magnusDegree_28 : decode cX10_magnusDegree 28 = .ok (.iload_n 2, 1) := by decide +kernel
theorem dX10_magnusDegree_29 : decode cX10_magnusDegree 29 = .ok (.iconst 4, 1) := by decide +kernel
theorem dX10_magnusDegree_30 : decode cX10_magnusDegree 30 = .ok (.if_icmp .gt 21, 3) := by decide +kernel
theorem dX10_magnusDegree_33 : decode cX10_magnusDegree 33 = .ok (.aload_n 0, 1) := by decide +kernel
theorem dX10_magnusDegree_34 : decode cX10_magnusDegree 34 = .ok (.iload_n 2, 1) := by decide +kernel
theorem dX10_magnusDegree_35 : decode cX10_magnusDegree 35 = .ok (.invokevirtual 326, 3) := by decide +kernel
theorem dX10_magnusDegree_38 : decode cX10_magnusDegree 38 = .ok (.lconst 0, 1) := by decide +kernel
theorem dX10_magnusDegree_39 : decode cX10_magnusDegree 39 = .ok (.lcmp, 1) := by decide +kernel
theorem dX10_magnusDegree_40 : decode cX10_magnusDegree 40 = .ok (.ifCond .le 5, 3) := by decide +kernel
theorem dX10_magnusDegree_43 : decode cX10_magnusDegree 43 = .ok (.iload_n 2, 1) := by decide +kernel
theorem dX10_magnusDegree_44 : decode cX10_magnusDegree 44 = .ok (.ireturn, 1) := by decide +kernel
theorem dX10_magnusDegree_45 : decode cX10_magnusDegree 45 = .ok (.iinc 2 1, 3) := by decide +kernel
theorem dX10_magnusDegree_48 : decode cX10_magnusDegree 48 = .ok (.goto (-20), 3) := by decide +kernel
theorem dX10_magnusDegree_51 : decode cX10_magnusDegree 51 = .ok (.iconst (-1), 1) := by decide +kernel
theorem dX10_magnusDegree_52 : decode cX10_magnusDegree 52 = .ok (.ireturn, 1) := by decide +kernel
theorem dX10_magnusCoefficient_0 : decode cX10_magnusCoefficient 0 = .ok (.aload_n 0, 1) := by decide +kernel
theorem dX10_magnusCoefficient_1 : decode cX10_magnusCoefficient 1 = .ok (.iconst 0, 1) := by decide +kernel
theorem dX10_magnusCoefficient_2 : decode cX10_magnusCoefficient 2 = .ok (.putfield 75, 3) := by decide +kernel
theorem dX10_magnusCoefficient_5 : decode cX10_magnusCoefficient 5 = .ok (.iload_n 1, 1) := by decide +kernel
theorem dX10_magnusCoefficient_6 : decode cX10_magnusCoefficient 6 = .ok (.invokestatic 90, 3) := by decide +kernel
theorem dX10_magnusCoefficient_9 : decode cX10_magnusCoefficient 9 = .ok (.ifCond .eq 19, 3) := by decide +kernel
theorem dX10_magnusCoefficient_12 : decode cX10_magnusCoefficient 12 = .ok (.aload_n 0, 1) := by decide +kernel
theorem dX10_magnusCoefficient_13 : decode cX10_magnusCoefficient 13 = .ok (.iload_n 2, 1) := by decide +kernel
theorem dX10_magnusCoefficient_14 : decode cX10_magnusCoefficient 14 = .ok (.invokevirtual 304, 3) := by decide +kernel
theorem dX10_magnusCoefficient_17 : decode cX10_magnusCoefficient 17 = .ok (.ifCond .eq 11, 3) := by decide +kernel
theorem dX10_magnusCoefficient_20 : decode cX10_magnusCoefficient 20 = .ok (.aload_n 0, 1) := by decide +kernel
theorem dX10_magnusCoefficient_21 : decode cX10_magnusCoefficient 21 = .ok (.iload_n 3, 1) := by decide +kernel
theorem dX10_magnusCoefficient_22 : decode cX10_magnusCoefficient 22 = .ok (.invokevirtual 304, 3) := by decide +kernel
theorem dX10_magnusCoefficient_25 : decode cX10_magnusCoefficient 25 = .ok (.ifCond .ne 9, 3) := by decide +kernel
theorem dX10_magnusCoefficient_28 : decode cX10_magnusCoefficient 28 = .ok (.aload_n 0, 1) := by decide +kernel
theorem dX10_magnusCoefficient_29 : decode cX10_magnusCoefficient 29 = .ok (.iconst 1, 1) := by decide +kernel
theorem dX10_magnusCoefficient_30 : decode cX10_magnusCoefficient 30 = .ok (.invokevirtual 275, 3) := by decide +kernel
theorem dX10_magnusCoefficient_33 : decode cX10_magnusCoefficient 33 = .ok (.ireturn, 1) := by decide +kernel
theorem dX10_magnusCoefficient_34 : decode cX10_magnusCoefficient 34 = .ok (.aload_n 0, 1) := by decide +kernel
theorem dX10_magnusCoefficient_35 : decode cX10_magnusCoefficient 35 = .ok (.iload_n 1, 1) := by decide +kernel
theorem dX10_magnusCoefficient_36 : decode cX10_magnusCoefficient 36 = .ok (.invokestatic 263, 3) := by decide +kernel
theorem dX10_magnusCoefficient_39 : decode cX10_magnusCoefficient 39 = .ok (.invokevirtual 323, 3) := by decide +kernel
theorem dX10_magnusCoefficient_42 : decode cX10_magnusCoefficient 42 = .ok (.aload_n 0, 1) := by decide +kernel
theorem dX10_magnusCoefficient_43 : decode cX10_magnusCoefficient 43 = .ok (.getfield 27, 3) := by decide +kernel
theorem dX10_magnusCoefficient_46 : decode cX10_magnusCoefficient 46 = .ok (.iconst 2, 1) := by decide +kernel
theorem dX10_magnusCoefficient_47 : decode cX10_magnusCoefficient 47 = .ok (.invokestatic 128, 3) := by decide +kernel
theorem dX10_magnusCoefficient_50 : decode cX10_magnusCoefficient 50 = .ok (.iconst 4, 1) := by decide +kernel
theorem dX10_magnusCoefficient_51 : decode cX10_magnusCoefficient 51 = .ok (.iload_n 2, 1) := by decide +kernel
theorem dX10_magnusCoefficient_52 : decode cX10_magnusCoefficient 52 = .ok (.imul, 1) := by decide +kernel
theorem dX10_magnusCoefficient_53 : decode cX10_magnusCoefficient 53 = .ok (.iadd, 1) := by decide +kernel
theorem dX10_magnusCoefficient_54 : decode cX10_magnusCoefficient 54 = .ok (.iload_n 3, 1) := by decide +kernel
theorem dX10_magnusCoefficient_55 : decode cX10_magnusCoefficient 55 = .ok (.iadd, 1) := by decide +kernel
theorem dX10_magnusCoefficient_56 : decode cX10_magnusCoefficient 56 = .ok (.laload, 1) := by decide +kernel
theorem dX10_magnusCoefficient_57 : decode cX10_magnusCoefficient 57 = .ok (.l2i, 1) := by decide +kernel
theorem dX10_magnusCoefficient_58 : decode cX10_magnusCoefficient 58 = .ok (.ireturn, 1) := by decide +kernel
theorem dX10_magnusNorm_0 : decode cX10_magnusNorm 0 = .ok (.aload_n 0, 1) := by decide +kernel
theorem dX10_magnusNorm_1 : decode cX10_magnusNorm 1 = .ok (.iconst 0, 1) := by decide +kernel
theorem dX10_magnusNorm_2 : decode cX10_magnusNorm 2 = .ok (.putfield 75, 3) := by decide +kernel
theorem dX10_magnusNorm_5 : decode cX10_magnusNorm 5 = .ok (.iload_n 1, 1) := by decide +kernel
theorem dX10_magnusNorm_6 : decode cX10_magnusNorm 6 = .ok (.invokestatic 90, 3) := by decide +kernel
theorem dX10_magnusNorm_9 : decode cX10_magnusNorm 9 = .ok (.ifCond .ne 10, 3) := by decide +kernel
theorem dX10_magnusNorm_12 : decode cX10_magnusNorm 12 = .ok (.aload_n 0, 1) := by decide +kernel
theorem dX10_magnusNorm_13 : decode cX10_magnusNorm 13 = .ok (.iconst 1, 1) := by decide +kernel
theorem dX10_magnusNorm_14 : decode cX10_magnusNorm 14 = .ok (.invokevirtual 275, 3) := by decide +kernel
theorem dX10_magnusNorm_17 : decode cX10_magnusNorm 17 = .ok (.i2l, 1) := by decide +kernel
theorem dX10_magnusNorm_18 : decode cX10_magnusNorm 18 = .ok (.lreturn, 1) := by decide +kernel
theorem dX10_magnusNorm_19 : decode cX10_magnusNorm 19 = .ok (.iload_n 2, 1) := by decide +kernel
theorem dX10_magnusNorm_20 : decode cX10_magnusNorm 20 = .ok (.ifCond .lt 8, 3) := by decide +kernel
theorem dX10_magnusNorm_23 : decode cX10_magnusNorm 23 = .ok (.iload_n 2, 1) := by decide +kernel
theorem dX10_magnusNorm_24 : decode cX10_magnusNorm 24 = .ok (.iconst 4, 1) := by decide +kernel
theorem dX10_magnusNorm_25 : decode cX10_magnusNorm 25 = .ok (.if_icmp .le 10, 3) := by decide +kernel
theorem dX10_magnusNorm_28 : decode cX10_magnusNorm 28 = .ok (.aload_n 0, 1) := by decide +kernel
theorem dX10_magnusNorm_29 : decode cX10_magnusNorm 29 = .ok (.iconst 2, 1) := by decide +kernel
theorem dX10_magnusNorm_30 : decode cX10_magnusNorm 30 = .ok (.invokevirtual 275, 3) := by decide +kernel
theorem dX10_magnusNorm_33 : decode cX10_magnusNorm 33 = .ok (.i2l, 1) := by decide +kernel
theorem dX10_magnusNorm_34 : decode cX10_magnusNorm 34 = .ok (.lreturn, 1) := by decide +kernel
theorem dX10_magnusNorm_35 : decode cX10_magnusNorm 35 = .ok (.aload_n 0, 1) := by decide +kernel
theorem dX10_magnusNorm_36 : decode cX10_magnusNorm 36 = .ok (.iload_n 1, 1) := by decide +kernel
theorem dX10_magnusNorm_37 : decode cX10_magnusNorm 37 = .ok (.invokestatic 263, 3) := by decide +kernel
theorem dX10_magnusNorm_40 : decode cX10_magnusNorm 40 = .ok (.invokevirtual 323, 3) := by decide +kernel
theorem dX10_magnusNorm_43 : decode cX10_magnusNorm 43 = .ok (.aload_n 0, 1) := by decide +kernel
theorem dX10_magnusNorm_44 : decode cX10_magnusNorm 44 = .ok (.iload_n 2, 1) := by decide +kernel
theorem dX10_magnusNorm_45 : decode cX10_magnusNorm 45 = .ok (.invokevirtual 326, 3) := by decide +kernel
theorem dX10_magnusNorm_48 : decode cX10_magnusNorm 48 = .ok (.lreturn, 1) := by decide +kernel
theorem dX10_generatingWordCount_0 : decode cX10_generatingWordCount 0 = .ok (.aload_n 0, 1) := by decide +kernel
theorem dX10_generatingWordCount_1 : decode cX10_generatingWordCount 1 = .ok (.iconst 0, 1) := by decide +kernel
theorem dX10_generatingWordCount_2 : decode cX10_generatingWordCount 2 = .ok (.putfield 75, 3) := by decide +kernel
theorem dX10_generatingWordCount_5 : decode cX10_generatingWordCount 5 = .ok (.iload_n 1, 1) := by decide +kernel
theorem dX10_generatingWordCount_6 : decode cX10_generatingWordCount 6 = .ok (.invokestatic 330, 3) := by decide +kernel
theorem dX10_generatingWordCount_9 : decode cX10_generatingWordCount 9 = .ok (.ifCond .eq 14, 3) := by decide +kernel
theorem dX10_generatingWordCount_12 : decode cX10_generatingWordCount 12 = .ok (.aload_n 0, 1) := by decide +kernel
theorem dX10_generatingWordCount_13 : decode cX10_generatingWordCount 13 = .ok (.iload_n 1, 1) := by decide +kernel
theorem dX10_generatingWordCount_14 : decode cX10_generatingWordCount 14 = .ok (.invokestatic 98, 3) := by decide +kernel
theorem dX10_generatingWordCount_17 : decode cX10_generatingWordCount 17 = .ok (.invokevirtual 94, 3) := by decide +kernel
theorem dX10_generatingWordCount_20 : decode cX10_generatingWordCount 20 = .ok (.goto 8, 3) := by decide +kernel
theorem dX10_generatingWordCount_23 : decode cX10_generatingWordCount 23 = .ok (.aload_n 0, 1) := by decide +kernel
theorem dX10_generatingWordCount_24 : decode cX10_generatingWordCount 24 = .ok (.iconst 1, 1) := by decide +kernel
theorem dX10_generatingWordCount_25 : decode cX10_generatingWordCount 25 = .ok (.invokevirtual 275, 3) := by decide +kernel
theorem dX10_generatingWordCount_28 : decode cX10_generatingWordCount 28 = .ok (.ireturn, 1) := by decide +kernel
theorem dX10_vertexCount_0 : decode cX10_vertexCount 0 = .ok (.aload_n 0, 1) := by decide +kernel
theorem dX10_vertexCount_1 : decode cX10_vertexCount 1 = .ok (.iconst 0, 1) := by decide +kernel
theorem dX10_vertexCount_2 : decode cX10_vertexCount 2 = .ok (.putfield 75, 3) := by decide +kernel
theorem dX10_vertexCount_5 : decode cX10_vertexCount 5 = .ok (.iload_n 1, 1) := by decide +kernel
theorem dX10_vertexCount_6 : decode cX10_vertexCount 6 = .ok (.invokestatic 330, 3) := by decide +kernel
theorem dX10_vertexCount_9 : decode cX10_vertexCount 9 = .ok (.ifCond .ne 9, 3) := by decide +kernel
theorem dX10_vertexCount_12 : decode cX10_vertexCount 12 = .ok (.aload_n 0, 1) := by decide +kernel
theorem dX10_vertexCount_13 : decode cX10_vertexCount 13 = .ok (.iconst 1, 1) := by decide +kernel
theorem dX10_vertexCount_14 : decode cX10_vertexCount 14 = .ok (.invokevirtual 275, 3) := by decide +kernel
theorem dX10_vertexCount_17 : decode cX10_vertexCount 17 = .ok (.ireturn, 1) := by decide +kernel
theorem dX10_vertexCount_18 : decode cX10_vertexCount 18 = .ok (.aload_n 0, 1) := by decide +kernel
theorem dX10_vertexCount_19 : decode cX10_vertexCount 19 = .ok (.iload_n 1, 1) := by decide +kernel
theorem dX10_vertexCount_20 : decode cX10_vertexCount 20 = .ok (.invokevirtual 197, 3) := by decide +kernel
theorem dX10_vertexCount_23 : decode cX10_vertexCount 23 = .ok (.aload_n 0, 1) := by decide +kernel
theorem dX10_vertexCount_24 : decode cX10_vertexCount 24 = .ok (.getfield 44, 3) := by decide +kernel
theorem dX10_vertexCount_27 : decode cX10_vertexCount 27 = .ok (.iload_n 1, 1) := by decide +kernel
theorem dX10_vertexCount_28 : decode cX10_vertexCount 28 = .ok (.iaload, 1) := by decide +kernel
theorem dX10_vertexCount_29 : decode cX10_vertexCount 29 = .ok (.ireturn, 1) := by decide +kernel
theorem dX10_edgeCount_0 : decode cX10_edgeCount 0 = .ok (.aload_n 0, 1) := by decide +kernel
theorem dX10_edgeCount_1 : decode cX10_edgeCount 1 = .ok (.iconst 0, 1) := by decide +kernel
theorem dX10_edgeCount_2 : decode cX10_edgeCount 2 = .ok (.putfield 75, 3) := by decide +kernel
theorem dX10_edgeCount_5 : decode cX10_edgeCount 5 = .ok (.iload_n 1, 1) := by decide +kernel
theorem dX10_edgeCount_6 : decode cX10_edgeCount 6 = .ok (.invokestatic 330, 3) := by decide +kernel
theorem dX10_edgeCount_9 : decode cX10_edgeCount 9 = .ok (.ifCond .ne 9, 3) := by decide +kernel
theorem dX10_edgeCount_12 : decode cX10_edgeCount 12 = .ok (.aload_n 0, 1) := by decide +kernel
theorem dX10_edgeCount_13 : decode cX10_edgeCount 13 = .ok (.iconst 1, 1) := by decide +kernel
theorem dX10_edgeCount_14 : decode cX10_edgeCount 14 = .ok (.invokevirtual 275, 3) := by decide +kernel
theorem dX10_edgeCount_17 : decode cX10_edgeCount 17 = .ok (.ireturn, 1) := by decide +kernel
theorem dX10_edgeCount_18 : decode cX10_edgeCount 18 = .ok (.aload_n 0, 1) := by decide +kernel
theorem dX10_edgeCount_19 : decode cX10_edgeCount 19 = .ok (.iload_n 1, 1) := by decide +kernel
theorem dX10_edgeCount_20 : decode cX10_edgeCount 20 = .ok (.invokevirtual 197, 3) := by decide +kernel
theorem dX10_edgeCount_23 : decode cX10_edgeCount 23 = .ok (.aload_n 0, 1) := by decide +kernel
theorem dX10_edgeCount_24 : decode cX10_edgeCount 24 = .ok (.iload_n 1, 1) := by decide +kernel
theorem dX10_edgeCount_25 : decode cX10_edgeCount 25 = .ok (.invokevirtual 187, 3) := by decide +kernel
theorem dX10_edgeCount_28 : decode cX10_edgeCount 28 = .ok (.ireturn, 1) := by decide +kernel
theorem dX10_isVertex_0 : decode cX10_isVertex 0 = .ok (.iload_n 1, 1) := by decide +kernel
theorem dX10_isVertex_1 : decode cX10_isVertex 1 = .ok (.invokestatic 330, 3) := by decide +kernel
theorem dX10_isVertex_4 : decode cX10_isVertex 4 = .ok (.ifCond .ne 5, 3) := by decide +kernel
theorem dX10_isVertex_7 : decode cX10_isVertex 7 = .ok (.iconst 0, 1) := by decide +kernel
theorem dX10_isVertex_8 : decode cX10_isVertex 8 = .ok (.ireturn, 1) := by decide +kernel
theorem dX10_isVertex_9 : decode cX10_isVertex 9 = .ok (.aload_n 0, 1) := by decide +kernel
theorem dX10_isVertex_10 : decode cX10_isVertex 10 = .ok (.iload_n 1, 1) := by decide +kernel
theorem dX10_isVertex_11 : decode cX10_isVertex 11 = .ok (.invokevirtual 197, 3) := by decide +kernel
theorem dX10_isVertex_14 : decode cX10_isVertex 14 = .ok (.iload_n 2, 1) := by decide +kernel
theorem dX10_isVertex_15 : decode cX10_isVertex 15 = .ok (.ifCond .lt 17, 3) := by decide +kernel
theorem dX10_isVertex_18 : decode cX10_isVertex 18 = .ok (.iload_n 2, 1) := by decide +kernel
theorem dX10_isVertex_19 : decode cX10_isVertex 19 = .ok (.aload_n 0, 1) := by decide +kernel
theorem dX10_isVertex_20 : decode cX10_isVertex 20 = .ok (.getfield 44, 3) := by decide +kernel
theorem dX10_isVertex_23 : decode cX10_isVertex 23 = .ok (.iload_n 1, 1) := by decide +kernel
theorem dX10_isVertex_24 : decode cX10_isVertex 24 = .ok (.iaload, 1) := by decide +kernel
theorem dX10_isVertex_25 : decode cX10_isVertex 25 = .ok (.if_icmp .ge 7, 3) := by decide +kernel
theorem dX10_isVertex_28 : decode cX10_isVertex 28 = .ok (.iconst 1, 1) := by decide +kernel
theorem dX10_isVertex_29 : decode cX10_isVertex 29 = .ok (.goto 4, 3) := by decide +kernel
theorem dX10_isVertex_32 : decode cX10_isVertex 32 = .ok (.iconst 0, 1) := by decide +kernel
theorem dX10_isVertex_33 : decode cX10_isVertex 33 = .ok (.ireturn, 1) := by decide +kernel
theorem dX10_neighbour_0 : decode cX10_neighbour 0 = .ok (.aload_n 0, 1) := by decide +kernel
theorem dX10_neighbour_1 : decode cX10_neighbour 1 = .ok (.iconst 0, 1) := by decide +kernel
theorem dX10_neighbour_2 : decode cX10_neighbour 2 = .ok (.putfield 75, 3) := by decide +kernel
theorem dX10_neighbour_5 : decode cX10_neighbour 5 = .ok (.aload_n 0, 1) := by decide +kernel
theorem dX10_neighbour_6 : decode cX10_neighbour 6 = .ok (.iload_n 1, 1) := by decide +kernel
theorem dX10_neighbour_7 : decode cX10_neighbour 7 = .ok (.iload_n 2, 1) := by decide +kernel
theorem dX10_neighbour_8 : decode cX10_neighbour 8 = .ok (.invokevirtual 333, 3) := by decide +kernel
theorem dX10_neighbour_11 : decode cX10_neighbour 11 = .ok (.ifCond .eq 22, 3) := by decide +kernel
theorem dX10_neighbour_14 : decode cX10_neighbour 14 = .ok (.iload_n 3, 1) := by decide +kernel
theorem dX10_neighbour_15 : decode cX10_neighbour 15 = .ok (.ifCond .lt 18, 3) := by decide +kernel
theorem dX10_neighbour_18 : decode cX10_neighbour 18 = .ok (.iload_n 3, 1) := by decide +kernel
theorem dX10_neighbour_19 : decode cX10_neighbour 19 = .ok (.iconst 2, 1) := by decide +kernel
theorem dX10_neighbour_20 : decode cX10_neighbour 20 = .ok (.aload_n 0, 1) := by decide +kernel
theorem dX10_neighbour_21 : decode cX10_neighbour 21 = .ok (.iconst 0, 1) := by decide +kernel
theorem dX10_neighbour_22 : decode cX10_neighbour 22 = .ok (.invokevirtual 94, 3) := by decide +kernel
theorem dX10_neighbour_25 : decode cX10_neighbour 25 = .ok (.imul, 1) := by decide +kernel
theorem dX10_neighbour_26 : decode cX10_neighbour 26 = .ok (.if_icmp .ge 7, 3) := by decide +kernel
theorem dX10_neighbour_29 : decode cX10_neighbour 29 = .ok (.iconst 1, 1) := by decide +kernel
theorem dX10_neighbour_30 : decode cX10_neighbour 30 = .ok (.goto 4, 3) := by decide +kernel
theorem dX10_neighbour_33 : decode cX10_neighbour 33 = .ok (.iconst 0, 1) := by decide +kernel
theorem dX10_neighbour_34 : decode cX10_neighbour 34 = .ok (.istore 4, 2) := by decide +kernel
theorem dX10_neighbour_36 : decode cX10_neighbour 36 = .ok (.iload 4, 2) := by decide +kernel
theorem dX10_neighbour_38 : decode cX10_neighbour 38 = .ok (.ifCond .eq 13, 3) := by decide +kernel
theorem dX10_neighbour_41 : decode cX10_neighbour 41 = .ok (.aload_n 0, 1) := by decide +kernel
theorem dX10_neighbour_42 : decode cX10_neighbour 42 = .ok (.iload_n 1, 1) := by decide +kernel
theorem dX10_neighbour_43 : decode cX10_neighbour 43 = .ok (.iload_n 2, 1) := by decide +kernel
theorem dX10_neighbour_44 : decode cX10_neighbour 44 = .ok (.iload_n 3, 1) := by decide +kernel
theorem dX10_neighbour_45 : decode cX10_neighbour 45 = .ok (.invokevirtual 184, 3) := by decide +kernel
theorem dX10_neighbour_48 : decode cX10_neighbour 48 = .ok (.goto 8, 3) := by decide +kernel
theorem dX10_neighbour_51 : decode cX10_neighbour 51 = .ok (.aload_n 0, 1) := by decide +kernel
theorem dX10_neighbour_52 : decode cX10_neighbour 52 = .ok (.iconst 1, 1) := by decide +kernel
theorem dX10_neighbour_53 : decode cX10_neighbour 53 = .ok (.invokevirtual 275, 3) := by decide +kernel
theorem dX10_neighbour_56 : decode cX10_neighbour 56 = .ok (.ireturn, 1) := by decide +kernel
theorem dX10_subgroupRank_0 : decode cX10_subgroupRank 0 = .ok (.aload_n 0, 1) := by decide +kernel
theorem dX10_subgroupRank_1 : decode cX10_subgroupRank 1 = .ok (.iconst 0, 1) := by decide +kernel
theorem dX10_subgroupRank_2 : decode cX10_subgroupRank 2 = .ok (.putfield 75, 3) := by decide +kernel
theorem dX10_subgroupRank_5 : decode cX10_subgroupRank 5 = .ok (.iload_n 1, 1) := by decide +kernel
theorem dX10_subgroupRank_6 : decode cX10_subgroupRank 6 = .ok (.invokestatic 330, 3) := by decide +kernel
theorem dX10_subgroupRank_9 : decode cX10_subgroupRank 9 = .ok (.ifCond .ne 9, 3) := by decide +kernel
theorem dX10_subgroupRank_12 : decode cX10_subgroupRank 12 = .ok (.aload_n 0, 1) := by decide +kernel
theorem dX10_subgroupRank_13 : decode cX10_subgroupRank 13 = .ok (.iconst 1, 1) := by decide +kernel
theorem dX10_subgroupRank_14 : decode cX10_subgroupRank 14 = .ok (.invokevirtual 275, 3) := by decide +kernel
theorem dX10_subgroupRank_17 : decode cX10_subgroupRank 17 = .ok (.ireturn, 1) := by decide +kernel
theorem dX10_subgroupRank_18 : decode cX10_subgroupRank 18 = .ok (.aload_n 0, 1) := by decide +kernel
theorem dX10_subgroupRank_19 : decode cX10_subgroupRank 19 = .ok (.iload_n 1, 1) := by decide +kernel
theorem dX10_subgroupRank_20 : decode cX10_subgroupRank 20 = .ok (.invokevirtual 197, 3) := by decide +kernel
theorem dX10_subgroupRank_23 : decode cX10_subgroupRank 23 = .ok (.aload_n 0, 1) := by decide +kernel
theorem dX10_subgroupRank_24 : decode cX10_subgroupRank 24 = .ok (.iload_n 1, 1) := by decide +kernel
theorem dX10_subgroupRank_25 : decode cX10_subgroupRank 25 = .ok (.invokevirtual 336, 3) := by decide +kernel
theorem dX10_subgroupRank_28 : decode cX10_subgroupRank 28 = .ok (.ireturn, 1) := by decide +kernel
theorem dX10_index_0 : decode cX10_index 0 = .ok (.aload_n 0, 1) := by decide +kernel
theorem dX10_index_1 : decode cX10_index 1 = .ok (.iconst 0, 1) := by decide +kernel
theorem dX10_index_2 : decode cX10_index 2 = .ok (.putfield 75, 3) := by decide +kernel
theorem dX10_index_5 : decode cX10_index 5 = .ok (.iload_n 1, 1) := by decide +kernel
theorem dX10_index_6 : decode cX10_index 6 = .ok (.invokestatic 330, 3) := by decide +kernel
theorem dX10_index_9 : decode cX10_index 9 = .ok (.ifCond .ne 9, 3) := by decide +kernel
theorem dX10_index_12 : decode cX10_index 12 = .ok (.aload_n 0, 1) := by decide +kernel
theorem dX10_index_13 : decode cX10_index 13 = .ok (.iconst 1, 1) := by decide +kernel
theorem dX10_index_14 : decode cX10_index 14 = .ok (.invokevirtual 275, 3) := by decide +kernel
theorem dX10_index_17 : decode cX10_index 17 = .ok (.ireturn, 1) := by decide +kernel
theorem dX10_index_18 : decode cX10_index 18 = .ok (.aload_n 0, 1) := by decide +kernel
theorem dX10_index_19 : decode cX10_index 19 = .ok (.iload_n 1, 1) := by decide +kernel
theorem dX10_index_20 : decode cX10_index 20 = .ok (.invokevirtual 197, 3) := by decide +kernel
theorem dX10_index_23 : decode cX10_index 23 = .ok (.aload_n 0, 1) := by decide +kernel
theorem dX10_index_24 : decode cX10_index 24 = .ok (.iload_n 1, 1) := by decide +kernel
theorem dX10_index_25 : decode cX10_index 25 = .ok (.invokevirtual 339, 3) := by decide +kernel
theorem dX10_index_28 : decode cX10_index 28 = .ok (.ireturn, 1) := by decide +kernel
theorem dX10_contains_0 : decode cX10_contains 0 = .ok (.aload_n 0, 1) := by decide +kernel
theorem dX10_contains_1 : decode cX10_contains 1 = .ok (.iconst 0, 1) := by decide +kernel
theorem dX10_contains_2 : decode cX10_contains 2 = .ok (.putfield 75, 3) := by decide +kernel
theorem dX10_contains_5 : decode cX10_contains 5 = .ok (.iload_n 1, 1) := by decide +kernel
theorem dX10_contains_6 : decode cX10_contains 6 = .ok (.invokestatic 330, 3) := by decide +kernel
theorem dX10_contains_9 : decode cX10_contains 9 = .ok (.ifCond .eq 10, 3) := by decide +kernel
theorem dX10_contains_12 : decode cX10_contains 12 = .ok (.iload_n 2, 1) := by decide +kernel
theorem dX10_contains_13 : decode cX10_contains 13 = .ok (.invokestatic 90, 3) := by decide +kernel
theorem dX10_contains_16 : decode cX10_contains 16 = .ok (.ifCond .ne 18, 3) := by decide +kernel
theorem dX10_contains_19 : decode cX10_contains 19 = .ok (.aload_n 0, 1) := by decide +kernel
theorem dX10_contains_20 : decode cX10_contains 20 = .ok (.iconst 1, 1) := by decide +kernel
theorem dX10_contains_21 : decode cX10_contains 21 = .ok (.invokevirtual 275, 3) := by decide +kernel
theorem dX10_contains_24 : decode cX10_contains 24 = .ok (.iconst 1, 1) := by decide +kernel
theorem dX10_contains_25 : decode cX10_contains 25 = .ok (.if_icmp .ne 7, 3) := by decide +kernel
theorem dX10_contains_28 : decode cX10_contains 28 = .ok (.iconst 1, 1) := by decide +kernel
theorem dX10_contains_29 : decode cX10_contains 29 = .ok (.goto 4, 3) := by decide +kernel
theorem dX10_contains_32 : decode cX10_contains 32 = .ok (.iconst 0, 1) := by decide +kernel
theorem dX10_contains_33 : decode cX10_contains 33 = .ok (.ireturn, 1) := by decide +kernel
theorem dX10_contains_34 : decode cX10_contains 34 = .ok (.aload_n 0, 1) := by decide +kernel
theorem dX10_contains_35 : decode cX10_contains 35 = .ok (.iload_n 1, 1) := by decide +kernel
theorem dX10_contains_36 : decode cX10_contains 36 = .ok (.invokevirtual 197, 3) := by decide +kernel
theorem dX10_contains_39 : decode cX10_contains 39 = .ok (.aload_n 0, 1) := by decide +kernel
theorem dX10_contains_40 : decode cX10_contains 40 = .ok (.iload_n 1, 1) := by decide +kernel
theorem dX10_contains_41 : decode cX10_contains 41 = .ok (.iload_n 2, 1) := by decide +kernel
theorem dX10_contains_42 : decode cX10_contains 42 = .ok (.invokestatic 263, 3) := by decide +kernel
theorem dX10_contains_45 : decode cX10_contains 45 = .ok (.invokevirtual 342, 3) := by decide +kernel
theorem dX10_contains_48 : decode cX10_contains 48 = .ok (.ireturn, 1) := by decide +kernel
theorem dX10_reachedVertex_0 : decode cX10_reachedVertex 0 = .ok (.aload_n 0, 1) := by decide +kernel
theorem dX10_reachedVertex_1 : decode cX10_reachedVertex 1 = .ok (.iconst 0, 1) := by decide +kernel
theorem dX10_reachedVertex_2 : decode cX10_reachedVertex 2 = .ok (.putfield 75, 3) := by decide +kernel
theorem dX10_reachedVertex_5 : decode cX10_reachedVertex 5 = .ok (.iload_n 1, 1) := by decide +kernel
theorem dX10_reachedVertex_6 : decode cX10_reachedVertex 6 = .ok (.invokestatic 330, 3) := by decide +kernel
theorem dX10_reachedVertex_9 : decode cX10_reachedVertex 9 = .ok (.ifCond .eq 10, 3) := by decide +kernel
theorem dX10_reachedVertex_12 : decode cX10_reachedVertex 12 = .ok (.iload_n 2, 1) := by decide +kernel
theorem dX10_reachedVertex_13 : decode cX10_reachedVertex 13 = .ok (.invokestatic 90, 3) := by decide +kernel
theorem dX10_reachedVertex_16 : decode cX10_reachedVertex 16 = .ok (.ifCond .ne 9, 3) := by decide +kernel
theorem dX10_reachedVertex_19 : decode cX10_reachedVertex 19 = .ok (.aload_n 0, 1) := by decide +kernel
theorem dX10_reachedVertex_20 : decode cX10_reachedVertex 20 = .ok (.iconst 1, 1) := by decide +kernel
theorem dX10_reachedVertex_21 : decode cX10_reachedVertex 21 = .ok (.invokevirtual 275, 3) := by decide +kernel
theorem dX10_reachedVertex_24 : decode cX10_reachedVertex 24 = .ok (.ireturn, 1) := by decide +kernel
theorem dX10_reachedVertex_25 : decode cX10_reachedVertex 25 = .ok (.aload_n 0, 1) := by decide +kernel
theorem dX10_reachedVertex_26 : decode cX10_reachedVertex 26 = .ok (.iload_n 1, 1) := by decide +kernel
theorem dX10_reachedVertex_27 : decode cX10_reachedVertex 27 = .ok (.invokevirtual 197, 3) := by decide +kernel
theorem dX10_reachedVertex_30 : decode cX10_reachedVertex 30 = .ok (.aload_n 0, 1) := by decide +kernel
theorem dX10_reachedVertex_31 : decode cX10_reachedVertex 31 = .ok (.iload_n 1, 1) := by decide +kernel
theorem dX10_reachedVertex_32 : decode cX10_reachedVertex 32 = .ok (.iconst 0, 1) := by decide +kernel
theorem dX10_reachedVertex_33 : decode cX10_reachedVertex 33 = .ok (.iload_n 2, 1) := by decide +kernel
theorem dX10_reachedVertex_34 : decode cX10_reachedVertex 34 = .ok (.invokestatic 263, 3) := by decide +kernel
theorem dX10_reachedVertex_37 : decode cX10_reachedVertex 37 = .ok (.invokevirtual 194, 3) := by decide +kernel
theorem dX10_reachedVertex_40 : decode cX10_reachedVertex 40 = .ok (.ireturn, 1) := by decide +kernel
theorem dX10_powerOf_0 : decode cX10_powerOf 0 = .ok (.aload_n 0, 1) := by decide +kernel
theorem dX10_powerOf_1 : decode cX10_powerOf 1 = .ok (.iload_n 2, 1) := by decide +kernel
theorem dX10_powerOf_2 : decode cX10_powerOf 2 = .ok (.invokevirtual 118, 3) := by decide +kernel
theorem dX10_powerOf_5 : decode cX10_powerOf 5 = .ok (.istore_n 3, 1) := by decide +kernel
theorem dX10_powerOf_6 : decode cX10_powerOf 6 = .ok (.aload_n 0, 1) := by decide +kernel
theorem dX10_powerOf_7 : decode cX10_powerOf 7 = .ok (.iload_n 1, 1) := by decide +kernel
theorem dX10_powerOf_8 : decode cX10_powerOf 8 = .ok (.iconst 0, 1) := by decide +kernel
theorem dX10_powerOf_9 : decode cX10_powerOf 9 = .ok (.iload_n 2, 1) := by decide +kernel
theorem dX10_powerOf_10 : decode cX10_powerOf 10 = .ok (.iconst 0, 1) := by decide +kernel
theorem dX10_powerOf_11 : decode cX10_powerOf 11 = .ok (.iload_n 3, 1) := by decide +kernel
theorem dX10_powerOf_12 : decode cX10_powerOf 12 = .ok (.invokevirtual 190, 3) := by decide +kernel
theorem dX10_powerOf_15 : decode cX10_powerOf 15 = .ok (.istore 4, 2) := by decide +kernel
theorem dX10_powerOf_17 : decode cX10_powerOf 17 = .ok (.iload 4, 2) := by decide +kernel
theorem dX10_powerOf_19 : decode cX10_powerOf 19 = .ok (.istore 5, 2) := by decide +kernel
theorem dX10_powerOf_21 : decode cX10_powerOf 21 = .ok (.iconst 1, 1) := by decide +kernel
theorem dX10_powerOf_22 : decode cX10_powerOf 22 = .ok (.istore 6, 2) := by decide +kernel
theorem dX10_powerOf_24 : decode cX10_powerOf 24 = .ok (.iload 6, 2) := by decide +kernel
theorem dX10_powerOf_26 : decode cX10_powerOf 26 = .ok (.aload_n 0, 1) := by decide +kernel
theorem dX10_powerOf_27 : decode cX10_powerOf 27 = .ok (.getfield 44, 3) := by decide +kernel
theorem dX10_powerOf_30 : decode cX10_powerOf 30 = .ok (.iload_n 1, 1) := by decide +kernel
theorem dX10_powerOf_31 : decode cX10_powerOf 31 = .ok (.iaload, 1) := by decide +kernel
theorem dX10_powerOf_32 : decode cX10_powerOf 32 = .ok (.if_icmp .gt 43, 3) := by decide +kernel
theorem dX10_powerOf_35 : decode cX10_powerOf 35 = .ok (.iload 5, 2) := by decide +kernel
theorem dX10_powerOf_37 : decode cX10_powerOf 37 = .ok (.iconst (-1), 1) := by decide +kernel
theorem dX10_powerOf_38 : decode cX10_powerOf 38 = .ok (.if_icmp .eq 37, 3) := by decide +kernel
theorem dX10_powerOf_41 : decode cX10_powerOf 41 = .ok (.aload_n 0, 1) := by decide +kernel
theorem dX10_powerOf_42 : decode cX10_powerOf 42 = .ok (.iload_n 1, 1) := by decide +kernel
theorem dX10_powerOf_43 : decode cX10_powerOf 43 = .ok (.iload 5, 2) := by decide +kernel
theorem dX10_powerOf_45 : decode cX10_powerOf 45 = .ok (.iload_n 2, 1) := by decide +kernel
theorem dX10_powerOf_46 : decode cX10_powerOf 46 = .ok (.iload_n 3, 1) := by decide +kernel
theorem dX10_powerOf_47 : decode cX10_powerOf 47 = .ok (.aload_n 0, 1) := by decide +kernel
theorem dX10_powerOf_48 : decode cX10_powerOf 48 = .ok (.iload_n 2, 1) := by decide +kernel
theorem dX10_powerOf_49 : decode cX10_powerOf 49 = .ok (.invokevirtual 94, 3) := by decide +kernel
theorem dX10_powerOf_52 : decode cX10_powerOf 52 = .ok (.iload_n 3, 1) := by decide +kernel
theorem dX10_powerOf_53 : decode cX10_powerOf 53 = .ok (.isub, 1) := by decide +kernel
theorem dX10_powerOf_54 : decode cX10_powerOf 54 = .ok (.invokevirtual 190, 3) := by decide +kernel
theorem dX10_powerOf_57 : decode cX10_powerOf 57 = .ok (.istore 5, 2) := by decide +kernel
theorem dX10_powerOf_59 : decode cX10_powerOf 59 = .ok (.iload 5, 2) := by decide +kernel
theorem dX10_powerOf_61 : decode cX10_powerOf 61 = .ok (.iload 4, 2) := by decide +kernel
theorem dX10_powerOf_63 : decode cX10_powerOf 63 = .ok (.if_icmp .ne 6, 3) := by decide +kernel
theorem dX10_powerOf_66 : decode cX10_powerOf 66 = .ok (.iload 6, 2) := by decide +kernel
theorem dX10_powerOf_68 : decode cX10_powerOf 68 = .ok (.ireturn, 1) := by decide +kernel
theorem dX10_powerOf_69 : decode cX10_powerOf 69 = .ok (.iinc 6 1, 3) := by decide +kernel
theorem dX10_powerOf_72 : decode cX10_powerOf 72 = .ok (.goto (-48), 3) := by decide +kernel
theorem dX10_powerOf_75 : decode cX10_powerOf 75 = .ok (.iconst (-1), 1) := by decide +kernel
theorem dX10_powerOf_76 : decode cX10_powerOf 76 = .ok (.ireturn, 1) := by decide +kernel
theorem dX10_smallestPower_0 : decode cX10_smallestPower 0 = .ok (.aload_n 0, 1) := by decide +kernel
theorem dX10_smallestPower_1 : decode cX10_smallestPower 1 = .ok (.iconst 0, 1) := by decide +kernel
theorem dX10_smallestPower_2 : decode cX10_smallestPower 2 = .ok (.putfield 75, 3) := by decide +kernel
theorem dX10_smallestPower_5 : decode cX10_smallestPower 5 = .ok (.iload_n 1, 1) := by decide +kernel
theorem dX10_smallestPower_6 : decode cX10_smallestPower 6 = .ok (.invokestatic 330, 3) := by decide +kernel
theorem dX10_smallestPower_9 : decode cX10_smallestPower 9 = .ok (.ifCond .eq 10, 3) := by decide +kernel
theorem dX10_smallestPower_12 : decode cX10_smallestPower 12 = .ok (.iload_n 2, 1) := by decide +kernel
theorem dX10_smallestPower_13 : decode cX10_smallestPower 13 = .ok (.invokestatic 90, 3) := by decide +kernel
theorem dX10_smallestPower_16 : decode cX10_smallestPower 16 = .ok (.ifCond .ne 9, 3) := by decide +kernel
theorem dX10_smallestPower_19 : decode cX10_smallestPower 19 = .ok (.aload_n 0, 1) := by decide +kernel
theorem dX10_smallestPower_20 : decode cX10_smallestPower 20 = .ok (.iconst 1, 1) := by decide +kernel
theorem dX10_smallestPower_21 : decode cX10_smallestPower 21 = .ok (.invokevirtual 275, 3) := by decide +kernel
theorem dX10_smallestPower_24 : decode cX10_smallestPower 24 = .ok (.ireturn, 1) := by decide +kernel
theorem dX10_smallestPower_25 : decode cX10_smallestPower 25 = .ok (.aload_n 0, 1) := by decide +kernel
theorem dX10_smallestPower_26 : decode cX10_smallestPower 26 = .ok (.iload_n 1, 1) := by decide +kernel
theorem dX10_smallestPower_27 : decode cX10_smallestPower 27 = .ok (.invokevirtual 197, 3) := by decide +kernel
theorem dX10_smallestPower_30 : decode cX10_smallestPower 30 = .ok (.aload_n 0, 1) := by decide +kernel
theorem dX10_smallestPower_31 : decode cX10_smallestPower 31 = .ok (.iload_n 1, 1) := by decide +kernel
theorem dX10_smallestPower_32 : decode cX10_smallestPower 32 = .ok (.iload_n 2, 1) := by decide +kernel
theorem dX10_smallestPower_33 : decode cX10_smallestPower 33 = .ok (.invokestatic 263, 3) := by decide +kernel
theorem dX10_smallestPower_36 : decode cX10_smallestPower 36 = .ok (.invokevirtual 345, 3) := by decide +kernel
theorem dX10_smallestPower_39 : decode cX10_smallestPower 39 = .ok (.ireturn, 1) := by decide +kernel
theorem dX10_isClosedEverywhere_0 : decode cX10_isClosedEverywhere 0 = .ok (.iconst 0, 1) := by decide +kernel
theorem dX10_isClosedEverywhere_1 : decode cX10_isClosedEverywhere 1 = .ok (.istore_n 3, 1) := by decide +kernel
theorem dX10_isClosedEverywhere_2 : decode cX10_isClosedEverywhere 2 = .ok (.iload_n 3, 1) := by decide +kernel
theorem dX10_isClosedEverywhere_3 : decode cX10_isClosedEverywhere 3 = .ok (.aload_n 0, 1) := by decide +kernel
theorem dX10_isClosedEverywhere_4 : decode cX10_isClosedEverywhere 4 = .ok (.getfield 44, 3) := by decide +kernel
theorem dX10_isClosedEverywhere_7 : decode cX10_isClosedEverywhere 7 = .ok (.iload_n 1, 1) := by decide +kernel
theorem dX10_isClosedEverywhere_8 : decode cX10_isClosedEverywhere 8 = .ok (.iaload, 1) := by decide +kernel
theorem dX10_isClosedEverywhere_9 : decode cX10_isClosedEverywhere 9 = .ok (.if_icmp .ge 22, 3) := by decide +kernel
theorem dX10_isClosedEverywhere_12 : decode cX10_isClosedEverywhere 12 = .ok (.aload_n 0, 1) := by decide +kernel
theorem dX10_isClosedEverywhere_13 : decode cX10_isClosedEverywhere 13 = .ok (.iload_n 1, 1) := by decide +kernel
theorem dX10_isClosedEverywhere_14 : decode cX10_isClosedEverywhere 14 = .ok (.iload_n 3, 1) := by decide +kernel
theorem dX10_isClosedEverywhere_15 : decode cX10_isClosedEverywhere 15 = .ok (.iload_n 2, 1) := by decide +kernel
theorem dX10_isClosedEverywhere_16 : decode cX10_isClosedEverywhere 16 = .ok (.invokevirtual 194, 3) := by decide +kernel
theorem dX10_isClosedEverywhere_19 : decode cX10_isClosedEverywhere 19 = .ok (.iload_n 3, 1) := by decide +kernel
theorem dX10_isClosedEverywhere_20 : decode cX10_isClosedEverywhere 20 = .ok (.if_icmp .eq 5, 3) := by decide +kernel
theorem dX10_isClosedEverywhere_23 : decode cX10_isClosedEverywhere 23 = .ok (.iconst 0, 1) := by decide +kernel
theorem dX10_isClosedEverywhere_24 : decode cX10_isClosedEverywhere 24 = .ok (.ireturn, 1) := by decide +kernel
theorem dX10_isClosedEverywhere_25 : decode cX10_isClosedEverywhere 25 = .ok (.iinc 3 1, 3) := by decide +kernel
theorem dX10_isClosedEverywhere_28 : decode cX10_isClosedEverywhere 28 = .ok (.goto (-26), 3) := by decide +kernel
theorem dX10_isClosedEverywhere_31 : decode cX10_isClosedEverywhere 31 = .ok (.iconst 1, 1) := by decide +kernel
theorem dX10_isClosedEverywhere_32 : decode cX10_isClosedEverywhere 32 = .ok (.ireturn, 1) := by decide +kernel
theorem dX10_isNormal_0 : decode cX10_isNormal 0 = .ok (.aload_n 0, 1) := by decide +kernel
theorem dX10_isNormal_1 : decode cX10_isNormal 1 = .ok (.iconst 0, 1) := by decide +kernel
theorem dX10_isNormal_2 : decode cX10_isNormal 2 = .ok (.putfield 75, 3) := by decide +kernel
theorem dX10_isNormal_5 : decode cX10_isNormal 5 = .ok (.iload_n 1, 1) := by decide +kernel
theorem dX10_isNormal_6 : decode cX10_isNormal 6 = .ok (.invokestatic 330, 3) := by decide +kernel
theorem dX10_isNormal_9 : decode cX10_isNormal 9 = .ok (.ifCond .ne 18, 3) := by decide +kernel
theorem dX10_isNormal_12 : decode cX10_isNormal 12 = .ok (.aload_n 0, 1) := by decide +kernel
theorem dX10_isNormal_13 : decode cX10_isNormal 13 = .ok (.iconst 1, 1) := by decide +kernel
theorem dX10_isNormal_14 : decode cX10_isNormal 14 = .ok (.invokevirtual 275, 3) := by decide +kernel
theorem dX10_isNormal_17 : decode cX10_isNormal 17 = .ok (.iconst 1, 1) := by decide +kernel
theorem dX10_isNormal_18 : decode cX10_isNormal 18 = .ok (.if_icmp .ne 7, 3) := by decide +kernel
theorem dX10_isNormal_21 : decode cX10_isNormal 21 = .ok (.iconst 1, 1) := by decide +kernel
theorem dX10_isNormal_22 : decode cX10_isNormal 22 = .ok (.goto 4, 3) := by decide +kernel
theorem dX10_isNormal_25 : decode cX10_isNormal 25 = .ok (.iconst 0, 1) := by decide +kernel
theorem dX10_isNormal_26 : decode cX10_isNormal 26 = .ok (.ireturn, 1) := by decide +kernel
theorem dX10_isNormal_27 : decode cX10_isNormal 27 = .ok (.aload_n 0, 1) := by decide +kernel
theorem dX10_isNormal_28 : decode cX10_isNormal 28 = .ok (.iload_n 1, 1) := by decide +kernel
theorem dX10_isNormal_29 : decode cX10_isNormal 29 = .ok (.invokevirtual 197, 3) := by decide +kernel
theorem dX10_isNormal_32 : decode cX10_isNormal 32 = .ok (.aload_n 0, 1) := by decide +kernel
theorem dX10_isNormal_33 : decode cX10_isNormal 33 = .ok (.iload_n 1, 1) := by decide +kernel
theorem dX10_isNormal_34 : decode cX10_isNormal 34 = .ok (.invokevirtual 336, 3) := by decide +kernel
theorem dX10_isNormal_37 : decode cX10_isNormal 37 = .ok (.ifCond .ne 5, 3) := by decide +kernel
theorem dX10_isNormal_40 : decode cX10_isNormal 40 = .ok (.iconst 1, 1) := by decide +kernel
theorem dX10_isNormal_41 : decode cX10_isNormal 41 = .ok (.ireturn, 1) := by decide +kernel
theorem dX10_isNormal_42 : decode cX10_isNormal 42 = .ok (.aload_n 0, 1) := by decide +kernel
theorem dX10_isNormal_43 : decode cX10_isNormal 43 = .ok (.iload_n 1, 1) := by decide +kernel
theorem dX10_isNormal_44 : decode cX10_isNormal 44 = .ok (.invokevirtual 339, 3) := by decide +kernel
theorem dX10_isNormal_47 : decode cX10_isNormal 47 = .ok (.iconst (-1), 1) := by decide +kernel
theorem dX10_isNormal_48 : decode cX10_isNormal 48 = .ok (.if_icmp .eq 7, 3) := by decide +kernel
theorem dX10_isNormal_51 : decode cX10_isNormal 51 = .ok (.iconst 1, 1) := by decide +kernel
theorem dX10_isNormal_52 : decode cX10_isNormal 52 = .ok (.goto 4, 3) := by decide +kernel
theorem dX10_isNormal_55 : decode cX10_isNormal 55 = .ok (.iconst 0, 1) := by decide +kernel
theorem dX10_isNormal_56 : decode cX10_isNormal 56 = .ok (.istore_n 2, 1) := by decide +kernel
theorem dX10_isNormal_57 : decode cX10_isNormal 57 = .ok (.iconst 0, 1) := by decide +kernel
theorem dX10_isNormal_58 : decode cX10_isNormal 58 = .ok (.istore_n 3, 1) := by decide +kernel
theorem dX10_isNormal_59 : decode cX10_isNormal 59 = .ok (.iload_n 3, 1) := by decide +kernel
theorem dX10_isNormal_60 : decode cX10_isNormal 60 = .ok (.aload_n 0, 1) := by decide +kernel
theorem dX10_isNormal_61 : decode cX10_isNormal 61 = .ok (.iload_n 1, 1) := by decide +kernel
theorem dX10_isNormal_62 : decode cX10_isNormal 62 = .ok (.invokestatic 98, 3) := by decide +kernel
theorem dX10_isNormal_65 : decode cX10_isNormal 65 = .ok (.invokevirtual 94, 3) := by decide +kernel
theorem dX10_isNormal_68 : decode cX10_isNormal 68 = .ok (.if_icmp .ge 24, 3) := by decide +kernel
theorem dX10_isNormal_71 : decode cX10_isNormal 71 = .ok (.iload_n 2, 1) := by decide +kernel
theorem dX10_isNormal_72 : decode cX10_isNormal 72 = .ok (.ifCond .eq 20, 3) := by decide +kernel
theorem dX10_isNormal_75 : decode cX10_isNormal 75 = .ok (.aload_n 0, 1) := by decide +kernel
theorem dX10_isNormal_76 : decode cX10_isNormal 76 = .ok (.iload_n 1, 1) := by decide +kernel
theorem dX10_isNormal_77 : decode cX10_isNormal 77 = .ok (.iload_n 1, 1) := by decide +kernel
theorem dX10_isNormal_78 : decode cX10_isNormal 78 = .ok (.iload_n 3, 1) := by decide +kernel
theorem dX10_isNormal_79 : decode cX10_isNormal 79 = .ok (.invokestatic 178, 3) := by decide +kernel
theorem dX10_isNormal_82 : decode cX10_isNormal 82 = .ok (.invokevirtual 348, 3) := by decide +kernel
theorem dX10_isNormal_85 : decode cX10_isNormal 85 = .ok (.istore_n 2, 1) := by decide +kernel
theorem dX10_isNormal_86 : decode cX10_isNormal 86 = .ok (.iinc 3 1, 3) := by decide +kernel
theorem dX10_isNormal_89 : decode cX10_isNormal 89 = .ok (.goto (-30), 3) := by decide +kernel
theorem dX10_isNormal_92 : decode cX10_isNormal 92 = .ok (.iload_n 2, 1) := by decide +kernel
theorem dX10_isNormal_93 : decode cX10_isNormal 93 = .ok (.ireturn, 1) := by decide +kernel
theorem dX10_containsSubgroup_0 : decode cX10_containsSubgroup 0 = .ok (.aload_n 0, 1) := by decide +kernel
theorem dX10_containsSubgroup_1 : decode cX10_containsSubgroup 1 = .ok (.iconst 0, 1) := by decide +kernel
theorem dX10_containsSubgroup_2 : decode cX10_containsSubgroup 2 = .ok (.putfield 75, 3) := by decide +kernel
theorem dX10_containsSubgroup_5 : decode cX10_containsSubgroup 5 = .ok (.iload_n 1, 1) := by decide +kernel
theorem dX10_containsSubgroup_6 : decode cX10_containsSubgroup 6 = .ok (.invokestatic 330, 3) := by decide +kernel
theorem dX10_containsSubgroup_9 : decode cX10_containsSubgroup 9 = .ok (.ifCond .eq 10, 3) := by decide +kernel
theorem dX10_containsSubgroup_12 : decode cX10_containsSubgroup 12 = .ok (.iload_n 2, 1) := by decide +kernel
theorem dX10_containsSubgroup_13 : decode cX10_containsSubgroup 13 = .ok (.invokestatic 330, 3) := by decide +kernel
theorem dX10_containsSubgroup_16 : decode cX10_containsSubgroup 16 = .ok (.ifCond .ne 18, 3) := by decide +kernel
theorem dX10_containsSubgroup_19 : decode cX10_containsSubgroup 19 = .ok (.aload_n 0, 1) := by decide +kernel
theorem dX10_containsSubgroup_20 : decode cX10_containsSubgroup 20 = .ok (.iconst 1, 1) := by decide +kernel
theorem dX10_containsSubgroup_21 : decode cX10_containsSubgroup 21 = .ok (.invokevirtual 275, 3) := by decide +kernel
theorem dX10_containsSubgroup_24 : decode cX10_containsSubgroup 24 = .ok (.iconst 1, 1) := by decide +kernel
theorem dX10_containsSubgroup_25 : decode cX10_containsSubgroup 25 = .ok (.if_icmp .ne 7, 3) := by decide +kernel
theorem dX10_containsSubgroup_28 : decode cX10_containsSubgroup 28 = .ok (.iconst 1, 1) := by decide +kernel
theorem dX10_containsSubgroup_29 : decode cX10_containsSubgroup 29 = .ok (.goto 4, 3) := by decide +kernel
theorem dX10_containsSubgroup_32 : decode cX10_containsSubgroup 32 = .ok (.iconst 0, 1) := by decide +kernel
theorem dX10_containsSubgroup_33 : decode cX10_containsSubgroup 33 = .ok (.ireturn, 1) := by decide +kernel
theorem dX10_containsSubgroup_34 : decode cX10_containsSubgroup 34 = .ok (.aload_n 0, 1) := by decide +kernel
theorem dX10_containsSubgroup_35 : decode cX10_containsSubgroup 35 = .ok (.iload_n 1, 1) := by decide +kernel
theorem dX10_containsSubgroup_36 : decode cX10_containsSubgroup 36 = .ok (.invokevirtual 197, 3) := by decide +kernel
theorem dX10_containsSubgroup_39 : decode cX10_containsSubgroup 39 = .ok (.iconst 1, 1) := by decide +kernel
theorem dX10_containsSubgroup_40 : decode cX10_containsSubgroup 40 = .ok (.istore_n 3, 1) := by decide +kernel
theorem dX10_containsSubgroup_41 : decode cX10_containsSubgroup 41 = .ok (.iconst 0, 1) := by decide +kernel
theorem dX10_containsSubgroup_42 : decode cX10_containsSubgroup 42 = .ok (.istore 4, 2) := by decide +kernel
theorem dX10_containsSubgroup_44 : decode cX10_containsSubgroup 44 = .ok (.iload 4, 2) := by decide +kernel
theorem dX10_containsSubgroup_46 : decode cX10_containsSubgroup 46 = .ok (.aload_n 0, 1) := by decide +kernel
theorem dX10_containsSubgroup_47 : decode cX10_containsSubgroup 47 = .ok (.iload_n 2, 1) := by decide +kernel
theorem dX10_containsSubgroup_48 : decode cX10_containsSubgroup 48 = .ok (.invokestatic 98, 3) := by decide +kernel
theorem dX10_containsSubgroup_51 : decode cX10_containsSubgroup 51 = .ok (.invokevirtual 94, 3) := by decide +kernel
theorem dX10_containsSubgroup_54 : decode cX10_containsSubgroup 54 = .ok (.if_icmp .ge 25, 3) := by decide +kernel
theorem dX10_containsSubgroup_57 : decode cX10_containsSubgroup 57 = .ok (.iload_n 3, 1) := by decide +kernel
theorem dX10_containsSubgroup_58 : decode cX10_containsSubgroup 58 = .ok (.ifCond .eq 21, 3) := by decide +kernel
theorem dX10_containsSubgroup_61 : decode cX10_containsSubgroup 61 = .ok (.aload_n 0, 1) := by decide +kernel
theorem dX10_containsSubgroup_62 : decode cX10_containsSubgroup 62 = .ok (.iload_n 1, 1) := by decide +kernel
theorem dX10_containsSubgroup_63 : decode cX10_containsSubgroup 63 = .ok (.iload_n 2, 1) := by decide +kernel
theorem dX10_containsSubgroup_64 : decode cX10_containsSubgroup 64 = .ok (.iload 4, 2) := by decide +kernel
theorem dX10_containsSubgroup_66 : decode cX10_containsSubgroup 66 = .ok (.invokestatic 178, 3) := by decide +kernel
theorem dX10_containsSubgroup_69 : decode cX10_containsSubgroup 69 = .ok (.invokevirtual 342, 3) := by decide +kernel
theorem dX10_containsSubgroup_72 : decode cX10_containsSubgroup 72 = .ok (.istore_n 3, 1) := by decide +kernel
theorem dX10_containsSubgroup_73 : decode cX10_containsSubgroup 73 = .ok (.iinc 4 1, 3) := by decide +kernel
theorem dX10_containsSubgroup_76 : decode cX10_containsSubgroup 76 = .ok (.goto (-32), 3) := by decide +kernel
theorem dX10_containsSubgroup_79 : decode cX10_containsSubgroup 79 = .ok (.iload_n 3, 1) := by decide +kernel
theorem dX10_containsSubgroup_80 : decode cX10_containsSubgroup 80 = .ok (.ireturn, 1) := by decide +kernel
theorem dX10_intersectionRank_0 : decode cX10_intersectionRank 0 = .ok (.aload_n 0, 1) := by decide +kernel
theorem dX10_intersectionRank_1 : decode cX10_intersectionRank 1 = .ok (.iconst 0, 1) := by decide +kernel
theorem dX10_intersectionRank_2 : decode cX10_intersectionRank 2 = .ok (.putfield 75, 3) := by decide +kernel
theorem dX10_intersectionRank_5 : decode cX10_intersectionRank 5 = .ok (.aload_n 0, 1) := by decide +kernel
theorem dX10_intersectionRank_6 : decode cX10_intersectionRank 6 = .ok (.invokevirtual 351, 3) := by decide +kernel
theorem dX10_intersectionRank_9 : decode cX10_intersectionRank 9 = .ok (.aload_n 0, 1) := by decide +kernel
theorem dX10_intersectionRank_10 : decode cX10_intersectionRank 10 = .ok (.getfield 203, 3) := by decide +kernel
theorem dX10_intersectionRank_13 : decode cX10_intersectionRank 13 = .ok (.aload_n 0, 1) := by decide +kernel
theorem dX10_intersectionRank_14 : decode cX10_intersectionRank 14 = .ok (.getfield 200, 3) := by decide +kernel
theorem dX10_intersectionRank_17 : decode cX10_intersectionRank 17 = .ok (.isub, 1) := by decide +kernel
theorem dX10_intersectionRank_18 : decode cX10_intersectionRank 18 = .ok (.iconst 1, 1) := by decide +kernel
theorem dX10_intersectionRank_19 : decode cX10_intersectionRank 19 = .ok (.iadd, 1) := by decide +kernel
theorem dX10_intersectionRank_20 : decode cX10_intersectionRank 20 = .ok (.ireturn, 1) := by decide +kernel
theorem dX10_intersectionIndex_0 : decode cX10_intersectionIndex 0 = .ok (.aload_n 0, 1) := by decide +kernel
theorem dX10_intersectionIndex_1 : decode cX10_intersectionIndex 1 = .ok (.iconst 0, 1) := by decide +kernel
theorem dX10_intersectionIndex_2 : decode cX10_intersectionIndex 2 = .ok (.putfield 75, 3) := by decide +kernel
theorem dX10_intersectionIndex_5 : decode cX10_intersectionIndex 5 = .ok (.aload_n 0, 1) := by decide +kernel
theorem dX10_intersectionIndex_6 : decode cX10_intersectionIndex 6 = .ok (.invokevirtual 351, 3) := by decide +kernel
theorem dX10_intersectionIndex_9 : decode cX10_intersectionIndex 9 = .ok (.aload_n 0, 1) := by decide +kernel
theorem dX10_intersectionIndex_10 : decode cX10_intersectionIndex 10 = .ok (.iconst 0, 1) := by decide +kernel
theorem dX10_intersectionIndex_11 : decode cX10_intersectionIndex 11 = .ok (.invokevirtual 339, 3) := by decide +kernel
theorem dX10_intersectionIndex_14 : decode cX10_intersectionIndex 14 = .ok (.iconst (-1), 1) := by decide +kernel
theorem dX10_intersectionIndex_15 : decode cX10_intersectionIndex 15 = .ok (.if_icmp .eq 12, 3) := by decide +kernel
theorem dX10_intersectionIndex_18 : decode cX10_intersectionIndex 18 = .ok (.aload_n 0, 1) := by decide +kernel
theorem dX10_intersectionIndex_19 : decode cX10_intersectionIndex 19 = .ok (.iconst 1, 1) := by decide +kernel
theorem dX10_intersectionIndex_20 : decode cX10_intersectionIndex 20 = .ok (.invokevirtual 339, 3) := by decide +kernel
theorem dX10_intersectionIndex_23 : decode cX10_intersectionIndex 23 = .ok (.iconst (-1), 1) := by decide +kernel
theorem dX10_intersectionIndex_24 : decode cX10_intersectionIndex 24 = .ok (.if_icmp .ne 7, 3) := by decide +kernel
theorem dX10_intersectionIndex_27 : decode cX10_intersectionIndex 27 = .ok (.iconst (-1), 1) := by decide +kernel
theorem dX10_intersectionIndex_28 : decode cX10_intersectionIndex 28 = .ok (.goto 7, 3) := by decide +kernel
theorem dX10_intersectionIndex_31 : decode cX10_intersectionIndex 31 = .ok (.aload_n 0, 1) := by decide +kernel
theorem dX10_intersectionIndex_32 : decode cX10_intersectionIndex 32 = .ok (.getfield 200, 3) := by decide +kernel
theorem dX10_intersectionIndex_35 : decode cX10_intersectionIndex 35 = .ok (.ireturn, 1) := by decide +kernel
theorem dX10_depthOf_0 : decode cX10_depthOf 0 = .ok (.iconst 0, 1) := by decide +kernel
theorem dX10_depthOf_1 : decode cX10_depthOf 1 = .ok (.istore_n 3, 1) := by decide +kernel
theorem dX10_depthOf_2 : decode cX10_depthOf 2 = .ok (.iload_n 2, 1) := by decide +kernel
theorem dX10_depthOf_3 : decode cX10_depthOf 3 = .ok (.istore 4, 2) := by decide +kernel
theorem dX10_depthOf_5 : decode cX10_depthOf 5 = .ok (.iload 4, 2) := by decide +kernel
theorem dX10_depthOf_7 : decode cX10_depthOf 7 = .ok (.ifCond .eq 24, 3) := by decide +kernel
theorem dX10_depthOf_10 : decode cX10_depthOf 10 = .ok (.iinc 3 1, 3) := by decide +kernel
theorem dX10_depthOf_13 : decode cX10_depthOf 13 = .ok (.aload_n 0, 1) := by decide +kernel
theorem dX10_depthOf_14 : decode cX10_depthOf 14 = .ok (.getfield 47, 3) := by decide +kernel
theorem dX10_depthOf_17 : decode cX10_depthOf 17 = .ok (.sipush 361, 3) := by decide +kernel
theorem dX10_depthOf_20 : decode cX10_depthOf 20 = .ok (.iload_n 1, 1) := by decide +kernel
theorem dX10_depthOf_21 : decode cX10_depthOf 21 = .ok (.imul, 1) := by decide +kernel
theorem dX10_depthOf_22 : decode cX10_depthOf 22 = .ok (.iload 4, 2) := by decide +kernel
theorem dX10_depthOf_24 : decode cX10_depthOf 24 = .ok (.iadd, 1) := by decide +kernel
theorem dX10_depthOf_25 : decode cX10_depthOf 25 = .ok (.iaload, 1) := by decide +kernel
theorem dX10_depthOf_26 : decode cX10_depthOf 26 = .ok (.istore 4, 2) := by decide +kernel
theorem dX10_depthOf_28 : decode cX10_depthOf 28 = .ok (.goto (-23), 3) := by decide +kernel
theorem dX10_depthOf_31 : decode cX10_depthOf 31 = .ok (.iload_n 3, 1) := by decide +kernel
theorem dX10_depthOf_32 : decode cX10_depthOf 32 = .ok (.ireturn, 1) := by decide +kernel
