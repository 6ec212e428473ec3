/-! rows that decode -/
theorem dX10_is_0 : decode cX10_is 0 = .ok (.aload_n 0, 1) := by decide +kernel
theorem dX10_is_1 : decode cX10_is 1 = .ok (.invokevirtual 233, 3) := by decide +kernel
theorem dX10_is_4 : decode cX10_is 4 = .ok (.ifCond .eq 23, 3) := by decide +kernel
theorem dX10_is_7 : decode cX10_is 7 = .ok (.aload_n 0, 1) := by decide +kernel
theorem dX10_is_8 : decode cX10_is 8 = .ok (.getfield 221, 3) := by decide +kernel
theorem dX10_is_11 : decode cX10_is 11 = .ok (.iload_n 1, 1) := by decide +kernel
theorem dX10_is_12 : decode cX10_is 12 = .ok (.if_icmp .eq 11, 3) := by decide +kernel
theorem dX10_is_15 : decode cX10_is 15 = .ok (.aload_n 0, 1) := by decide +kernel
theorem dX10_is_16 : decode cX10_is 16 = .ok (.iconst 1, 1) := by decide +kernel
theorem dX10_is_17 : decode cX10_is 17 = .ok (.invokevirtual 227, 3) := by decide +kernel
theorem dX10_is_20 : decode cX10_is 20 = .ok (.ifCond .eq 7, 3) := by decide +kernel
theorem dX10_is_23 : decode cX10_is 23 = .ok (.iconst 1, 1) := by decide +kernel
theorem dX10_is_24 : decode cX10_is 24 = .ok (.goto 4, 3) := by decide +kernel
theorem dX10_is_27 : decode cX10_is 27 = .ok (.iconst 0, 1) := by decide +kernel
theorem dX10_is_28 : decode cX10_is 28 = .ok (.ireturn, 1) := by decide +kernel
theorem dX10_isNumber_0 : decode cX10_isNumber 0 = .ok (.aload_n 0, 1) := by decide +kernel
theorem dX10_isNumber_1 : decode cX10_isNumber 1 = .ok (.iconst 2, 1) := by decide +kernel
theorem dX10_isNumber_2 : decode cX10_isNumber 2 = .ok (.invokevirtual 237, 3) := by decide +kernel
theorem dX10_isNumber_5 : decode cX10_isNumber 5 = .ok (.ifCond .eq 31, 3) := by decide +kernel
theorem dX10_isNumber_8 : decode cX10_isNumber 8 = .ok (.aload_n 0, 1) := by decide +kernel
theorem dX10_isNumber_9 : decode cX10_isNumber 9 = .ok (.getfield 230, 3) := by decide +kernel
theorem dX10_isNumber_12 : decode cX10_isNumber 12 = .ok (.iload_n 1, 1) := by decide +kernel
theorem dX10_isNumber_13 : decode cX10_isNumber 13 = .ok (.if_icmp .lt 11, 3) := by decide +kernel
theorem dX10_isNumber_16 : decode cX10_isNumber 16 = .ok (.aload_n 0, 1) := by decide +kernel
theorem dX10_isNumber_17 : decode cX10_isNumber 17 = .ok (.getfield 230, 3) := by decide +kernel
theorem dX10_isNumber_20 : decode cX10_isNumber 20 = .ok (.iload_n 2, 1) := by decide +kernel
theorem dX10_isNumber_21 : decode cX10_isNumber 21 = .ok (.if_icmp .le 11, 3) := by decide +kernel
theorem dX10_isNumber_24 : decode cX10_isNumber 24 = .ok (.aload_n 0, 1) := by decide +kernel
theorem dX10_isNumber_25 : decode cX10_isNumber 25 = .ok (.iconst 2, 1) := by decide +kernel
theorem dX10_isNumber_26 : decode cX10_isNumber 26 = .ok (.invokevirtual 227, 3) := by decide +kernel
theorem dX10_isNumber_29 : decode cX10_isNumber 29 = .ok (.ifCond .eq 7, 3) := by decide +kernel
theorem dX10_isNumber_32 : decode cX10_isNumber 32 = .ok (.iconst 1, 1) := by decide +kernel
theorem dX10_isNumber_33 : decode cX10_isNumber 33 = .ok (.goto 4, 3) := by decide +kernel
theorem dX10_isNumber_36 : decode cX10_isNumber 36 = .ok (.iconst 0, 1) := by decide +kernel
theorem dX10_isNumber_37 : decode cX10_isNumber 37 = .ok (.ireturn, 1) := by decide +kernel
theorem dX10_letterIs_0 : decode cX10_letterIs 0 = .ok (.iload_n 2, 1) := by decide +kernel
theorem dX10_letterIs_1 : decode cX10_letterIs 1 = .ok (.ifCond .ne 24, 3) := by decide +kernel
theorem dX10_letterIs_4 : decode cX10_letterIs 4 = .ok (.aload_n 0, 1) := by decide +kernel
theorem dX10_letterIs_5 : decode cX10_letterIs 5 = .ok (.getfield 218, 3) := by decide +kernel
theorem dX10_letterIs_8 : decode cX10_letterIs 8 = .ok (.iload_n 1, 1) := by decide +kernel
theorem dX10_letterIs_9 : decode cX10_letterIs 9 = .ok (.iadd, 1) := by decide +kernel
theorem dX10_letterIs_10 : decode cX10_letterIs 10 = .ok (.aload_n 0, 1) := by decide +kernel
theorem dX10_letterIs_11 : decode cX10_letterIs 11 = .ok (.getfield 215, 3) := by decide +kernel
theorem dX10_letterIs_14 : decode cX10_letterIs 14 = .ok (.if_icmp .lt 7, 3) := by decide +kernel
theorem dX10_letterIs_17 : decode cX10_letterIs 17 = .ok (.iconst 1, 1) := by decide +kernel
theorem dX10_letterIs_18 : decode cX10_letterIs 18 = .ok (.goto 40, 3) := by decide +kernel
theorem dX10_letterIs_21 : decode cX10_letterIs 21 = .ok (.iconst 0, 1) := by decide +kernel
theorem dX10_letterIs_22 : decode cX10_letterIs 22 = .ok (.goto 36, 3) := by decide +kernel
theorem dX10_letterIs_25 : decode cX10_letterIs 25 = .ok (.aload_n 0, 1) := by decide +kernel
theorem dX10_letterIs_26 : decode cX10_letterIs 26 = .ok (.getfield 218, 3) := by decide +kernel
theorem dX10_letterIs_29 : decode cX10_letterIs 29 = .ok (.iload_n 1, 1) := by decide +kernel
theorem dX10_letterIs_30 : decode cX10_letterIs 30 = .ok (.iadd, 1) := by decide +kernel
theorem dX10_letterIs_31 : decode cX10_letterIs 31 = .ok (.aload_n 0, 1) := by decide +kernel
theorem dX10_letterIs_32 : decode cX10_letterIs 32 = .ok (.getfield 215, 3) := by decide +kernel
theorem dX10_letterIs_35 : decode cX10_letterIs 35 = .ok (.if_icmp .ge 22, 3) := by decide +kernel
theorem dX10_letterIs_38 : decode cX10_letterIs 38 = .ok (.aload_n 0, 1) := by decide +kernel
theorem dX10_letterIs_39 : decode cX10_letterIs 39 = .ok (.getfield 13, 3) := by decide +kernel
theorem dX10_letterIs_42 : decode cX10_letterIs 42 = .ok (.aload_n 0, 1) := by decide +kernel
theorem dX10_letterIs_43 : decode cX10_letterIs 43 = .ok (.getfield 218, 3) := by decide +kernel
theorem dX10_letterIs_46 : decode cX10_letterIs 46 = .ok (.iload_n 1, 1) := by decide +kernel
theorem dX10_letterIs_47 : decode cX10_letterIs 47 = .ok (.iadd, 1) := by decide +kernel
theorem dX10_letterIs_48 : decode cX10_letterIs 48 = .ok (.baload, 1) := by decide +kernel
theorem dX10_letterIs_49 : decode cX10_letterIs 49 = .ok (.iload_n 2, 1) := by decide +kernel
theorem dX10_letterIs_50 : decode cX10_letterIs 50 = .ok (.if_icmp .ne 7, 3) := by decide +kernel
theorem dX10_letterIs_53 : decode cX10_letterIs 53 = .ok (.iconst 1, 1) := by decide +kernel
theorem dX10_letterIs_54 : decode cX10_letterIs 54 = .ok (.goto 4, 3) := by decide +kernel
theorem dX10_letterIs_57 : decode cX10_letterIs 57 = .ok (.iconst 0, 1) := by decide +kernel
theorem dX10_letterIs_58 : decode cX10_letterIs 58 = .ok (.ireturn, 1) := by decide +kernel
theorem dX10_isWord_0 : decode cX10_isWord 0 = .ok (.aload_n 0, 1) := by decide +kernel
theorem dX10_isWord_1 : decode cX10_isWord 1 = .ok (.getfield 221, 3) := by decide +kernel
theorem dX10_isWord_4 : decode cX10_isWord 4 = .ok (.iconst 1, 1) := by decide +kernel
theorem dX10_isWord_5 : decode cX10_isWord 5 = .ok (.if_icmp .ne 53, 3) := by decide +kernel
theorem dX10_isWord_8 : decode cX10_isWord 8 = .ok (.aload_n 0, 1) := by decide +kernel
theorem dX10_isWord_9 : decode cX10_isWord 9 = .ok (.iconst 0, 1) := by decide +kernel
theorem dX10_isWord_10 : decode cX10_isWord 10 = .ok (.iload_n 1, 1) := by decide +kernel
theorem dX10_isWord_11 : decode cX10_isWord 11 = .ok (.invokevirtual 240, 3) := by decide +kernel
theorem dX10_isWord_14 : decode cX10_isWord 14 = .ok (.ifCond .eq 44, 3) := by decide +kernel
theorem dX10_isWord_17 : decode cX10_isWord 17 = .ok (.aload_n 0, 1) := by decide +kernel
theorem dX10_isWord_18 : decode cX10_isWord 18 = .ok (.iconst 1, 1) := by decide +kernel
theorem dX10_isWord_19 : decode cX10_isWord 19 = .ok (.iload_n 2, 1) := by decide +kernel
theorem dX10_isWord_20 : decode cX10_isWord 20 = .ok (.invokevirtual 240, 3) := by decide +kernel
theorem dX10_isWord_23 : decode cX10_isWord 23 = .ok (.ifCond .eq 35, 3) := by decide +kernel
theorem dX10_isWord_26 : decode cX10_isWord 26 = .ok (.aload_n 0, 1) := by decide +kernel
theorem dX10_isWord_27 : decode cX10_isWord 27 = .ok (.iconst 2, 1) := by decide +kernel
theorem dX10_isWord_28 : decode cX10_isWord 28 = .ok (.iload_n 3, 1) := by decide +kernel
theorem dX10_isWord_29 : decode cX10_isWord 29 = .ok (.invokevirtual 240, 3) := by decide +kernel
theorem dX10_isWord_32 : decode cX10_isWord 32 = .ok (.ifCond .eq 26, 3) := by decide +kernel
theorem dX10_isWord_35 : decode cX10_isWord 35 = .ok (.aload_n 0, 1) := by decide +kernel
theorem dX10_isWord_36 : decode cX10_isWord 36 = .ok (.iconst 3, 1) := by decide +kernel
theorem dX10_isWord_37 : decode cX10_isWord 37 = .ok (.iload 4, 2) := by decide +kernel
theorem dX10_isWord_39 : decode cX10_isWord 39 = .ok (.invokevirtual 240, 3) := by decide +kernel
theorem dX10_isWord_42 : decode cX10_isWord 42 = .ok (.ifCond .eq 16, 3) := by decide +kernel
theorem dX10_isWord_45 : decode cX10_isWord 45 = .ok (.aload_n 0, 1) := by decide +kernel
theorem dX10_isWord_46 : decode cX10_isWord 46 = .ok (.iconst 4, 1) := by decide +kernel
theorem dX10_isWord_47 : decode cX10_isWord 47 = .ok (.iconst 0, 1) := by decide +kernel
theorem dX10_isWord_48 : decode cX10_isWord 48 = .ok (.invokevirtual 240, 3) := by decide +kernel
theorem dX10_isWord_51 : decode cX10_isWord 51 = .ok (.ifCond .eq 7, 3) := by decide +kernel
theorem dX10_isWord_54 : decode cX10_isWord 54 = .ok (.iconst 1, 1) := by decide +kernel
theorem dX10_isWord_55 : decode cX10_isWord 55 = .ok (.goto 4, 3) := by decide +kernel
theorem dX10_isWord_58 : decode cX10_isWord 58 = .ok (.iconst 0, 1) := by decide +kernel
theorem dX10_isWord_59 : decode cX10_isWord 59 = .ok (.ireturn, 1) := by decide +kernel
theorem dX10_reads_0 : decode cX10_reads 0 = .ok (.iconst 0, 1) := by decide +kernel
theorem dX10_reads_1 : decode cX10_reads 1 = .ok (.istore_n 1, 1) := by decide +kernel
theorem dX10_reads_2 : decode cX10_reads 2 = .ok (.iload_n 1, 1) := by decide +kernel
theorem dX10_reads_3 : decode cX10_reads 3 = .ok (.sipush 1223, 3) := by decide +kernel
theorem dX10_reads_6 : decode cX10_reads 6 = .ok (.if_icmp .ge 15, 3) := by decide +kernel
theorem dX10_reads_9 : decode cX10_reads 9 = .ok (.aload_n 0, 1) := by decide +kernel
theorem dX10_reads_10 : decode cX10_reads 10 = .ok (.iload_n 1, 1) := by decide +kernel
theorem dX10_reads_11 : decode cX10_reads 11 = .ok (.iconst 0, 1) := by decide +kernel
theorem dX10_reads_12 : decode cX10_reads 12 = .ok (.invokevirtual 71, 3) := by decide +kernel
theorem dX10_reads_15 : decode cX10_reads 15 = .ok (.iinc 1 1, 3) := by decide +kernel
theorem dX10_reads_18 : decode cX10_reads 18 = .ok (.goto (-16), 3) := by decide +kernel
theorem dX10_reads_21 : decode cX10_reads 21 = .ok (.aload_n 0, 1) := by decide +kernel
theorem dX10_reads_22 : decode cX10_reads 22 = .ok (.iconst 0, 1) := by decide +kernel
theorem dX10_reads_23 : decode cX10_reads 23 = .ok (.putfield 215, 3) := by decide +kernel
theorem dX10_reads_26 : decode cX10_reads 26 = .ok (.aload_n 0, 1) := by decide +kernel
theorem dX10_reads_27 : decode cX10_reads 27 = .ok (.invokevirtual 233, 3) := by decide +kernel
theorem dX10_reads_30 : decode cX10_reads 30 = .ok (.ifCond .ne 5, 3) := by decide +kernel
theorem dX10_reads_33 : decode cX10_reads 33 = .ok (.iconst 0, 1) := by decide +kernel
theorem dX10_reads_34 : decode cX10_reads 34 = .ok (.ireturn, 1) := by decide +kernel
theorem dX10_reads_35 : decode cX10_reads 35 = .ok (.aload_n 0, 1) := by decide +kernel
theorem dX10_reads_36 : decode cX10_reads 36 = .ok (.bipush 114, 2) := by decide +kernel
theorem dX10_reads_38 : decode cX10_reads 38 = .ok (.bipush 97, 2) := by decide +kernel
theorem dX10_reads_40 : decode cX10_reads 40 = .ok (.bipush 110, 2) := by decide +kernel
theorem dX10_reads_42 : decode cX10_reads 42 = .ok (.bipush 107, 2) := by decide +kernel
theorem dX10_reads_44 : decode cX10_reads 44 = .ok (.invokevirtual 244, 3) := by decide +kernel
theorem dX10_reads_47 : decode cX10_reads 47 = .ok (.ifCond .ne 9, 3) := by decide +kernel
theorem dX10_reads_50 : decode cX10_reads 50 = .ok (.aload_n 0, 1) := by decide +kernel
theorem dX10_reads_51 : decode cX10_reads 51 = .ok (.iconst 1, 1) := by decide +kernel
theorem dX10_reads_52 : decode cX10_reads 52 = .ok (.invokevirtual 227, 3) := by decide +kernel
theorem dX10_reads_55 : decode cX10_reads 55 = .ok (.ireturn, 1) := by decide +kernel
theorem dX10_reads_56 : decode cX10_reads 56 = .ok (.aload_n 0, 1) := by decide +kernel
theorem dX10_reads_57 : decode cX10_reads 57 = .ok (.iconst 1, 1) := by decide +kernel
theorem dX10_reads_58 : decode cX10_reads 58 = .ok (.iconst 4, 1) := by decide +kernel
theorem dX10_reads_59 : decode cX10_reads 59 = .ok (.invokevirtual 248, 3) := by decide +kernel
theorem dX10_reads_62 : decode cX10_reads 62 = .ok (.ifCond .ne 5, 3) := by decide +kernel
theorem dX10_reads_65 : decode cX10_reads 65 = .ok (.iconst 0, 1) := by decide +kernel
theorem dX10_reads_66 : decode cX10_reads 66 = .ok (.ireturn, 1) := by decide +kernel
theorem dX10_reads_67 : decode cX10_reads 67 = .ok (.aload_n 0, 1) := by decide +kernel
theorem dX10_reads_68 : decode cX10_reads 68 = .ok (.iconst 0, 1) := by decide +kernel
theorem dX10_reads_69 : decode cX10_reads 69 = .ok (.aload_n 0, 1) := by decide +kernel
theorem dX10_reads_70 : decode cX10_reads 70 = .ok (.getfield 230, 3) := by decide +kernel
theorem dX10_reads_73 : decode cX10_reads 73 = .ok (.invokevirtual 71, 3) := by decide +kernel
theorem dX10_reads_76 : decode cX10_reads 76 = .ok (.aload_n 0, 1) := by decide +kernel
theorem dX10_reads_77 : decode cX10_reads 77 = .ok (.iconst 3, 1) := by decide +kernel
theorem dX10_reads_78 : decode cX10_reads 78 = .ok (.invokevirtual 237, 3) := by decide +kernel
theorem dX10_reads_81 : decode cX10_reads 81 = .ok (.ifCond .ne 5, 3) := by decide +kernel
theorem dX10_reads_84 : decode cX10_reads 84 = .ok (.iconst 0, 1) := by decide +kernel
theorem dX10_reads_85 : decode cX10_reads 85 = .ok (.ireturn, 1) := by decide +kernel
theorem dX10_reads_86 : decode cX10_reads 86 = .ok (.aload_n 0, 1) := by decide +kernel
theorem dX10_reads_87 : decode cX10_reads 87 = .ok (.invokevirtual 233, 3) := by decide +kernel
theorem dX10_reads_90 : decode cX10_reads 90 = .ok (.ifCond .ne 5, 3) := by decide +kernel
theorem dX10_reads_93 : decode cX10_reads 93 = .ok (.iconst 0, 1) := by decide +kernel
theorem dX10_reads_94 : decode cX10_reads 94 = .ok (.ireturn, 1) := by decide +kernel
theorem dX10_reads_95 : decode cX10_reads 95 = .ok (.aload_n 0, 1) := by decide +kernel
theorem dX10_reads_96 : decode cX10_reads 96 = .ok (.getfield 221, 3) := by decide +kernel
theorem dX10_reads_99 : decode cX10_reads 99 = .ok (.ifCond .ne 5, 3) := by decide +kernel
theorem dX10_reads_102 : decode cX10_reads 102 = .ok (.iconst 1, 1) := by decide +kernel
theorem dX10_reads_103 : decode cX10_reads 103 = .ok (.ireturn, 1) := by decide +kernel
theorem dX10_reads_104 : decode cX10_reads 104 = .ok (.aload_n 0, 1) := by decide +kernel
theorem dX10_reads_105 : decode cX10_reads 105 = .ok (.invokevirtual 251, 3) := by decide +kernel
theorem dX10_reads_108 : decode cX10_reads 108 = .ok (.ifCond .ne (-22), 3) := by decide +kernel
theorem dX10_reads_111 : decode cX10_reads 111 = .ok (.iconst 0, 1) := by decide +kernel
theorem dX10_reads_112 : decode cX10_reads 112 = .ok (.ireturn, 1) := by decide +kernel
theorem dX10_readsStatement_0 : decode cX10_readsStatement 0 = .ok (.aload_n 0, 1) := by decide +kernel
theorem dX10_readsStatement_1 : decode cX10_readsStatement 1 = .ok (.bipush 115, 2) := by decide +kernel
theorem dX10_readsStatement_3 : decode cX10_readsStatement 3 = .ok (.bipush 101, 2) := by decide +kernel
theorem dX10_readsStatement_5 : decode cX10_readsStatement 5 = .ok (.bipush 116, 2) := by decide +kernel
theorem dX10_readsStatement_7 : decode cX10_readsStatement 7 = .ok (.iconst 0, 1) := by decide +kernel
theorem dX10_readsStatement_8 : decode cX10_readsStatement 8 = .ok (.invokevirtual 244, 3) := by decide +kernel
theorem dX10_readsStatement_11 : decode cX10_readsStatement 11 = .ok (.ifCond .eq 8, 3) := by decide +kernel
theorem dX10_readsStatement_14 : decode cX10_readsStatement 14 = .ok (.aload_n 0, 1) := by decide +kernel
theorem dX10_readsStatement_15 : decode cX10_readsStatement 15 = .ok (.invokevirtual 254, 3) := by decide +kernel
theorem dX10_readsStatement_18 : decode cX10_readsStatement 18 = .ok (.ireturn, 1) := by decide +kernel
theorem dX10_readsStatement_19 : decode cX10_readsStatement 19 = .ok (.aload_n 0, 1) := by decide +kernel
theorem dX10_readsStatement_20 : decode cX10_readsStatement 20 = .ok (.bipush 106, 2) := by decide +kernel
theorem dX10_readsStatement_22 : decode cX10_readsStatement 22 = .ok (.bipush 111, 2) := by decide +kernel
theorem dX10_readsStatement_24 : decode cX10_readsStatement 24 = .ok (.bipush 105, 2) := by decide +kernel
theorem dX10_readsStatement_26 : decode cX10_readsStatement 26 = .ok (.bipush 110, 2) := by decide +kernel
theorem dX10_readsStatement_28 : decode cX10_readsStatement 28 = .ok (.invokevirtual 244, 3) := by decide +kernel
theorem dX10_readsStatement_31 : decode cX10_readsStatement 31 = .ok (.ifCond .ne 9, 3) := by decide +kernel
theorem dX10_readsStatement_34 : decode cX10_readsStatement 34 = .ok (.aload_n 0, 1) := by decide +kernel
theorem dX10_readsStatement_35 : decode cX10_readsStatement 35 = .ok (.iconst 1, 1) := by decide +kernel
theorem dX10_readsStatement_36 : decode cX10_readsStatement 36 = .ok (.invokevirtual 227, 3) := by decide +kernel
theorem dX10_readsStatement_39 : decode cX10_readsStatement 39 = .ok (.ireturn, 1) := by decide +kernel
theorem dX10_readsStatement_40 : decode cX10_readsStatement 40 = .ok (.aload_n 0, 1) := by decide +kernel
theorem dX10_readsStatement_41 : decode cX10_readsStatement 41 = .ok (.iconst 0, 1) := by decide +kernel
theorem dX10_readsStatement_42 : decode cX10_readsStatement 42 = .ok (.iconst 1, 1) := by decide +kernel
theorem dX10_readsStatement_43 : decode cX10_readsStatement 43 = .ok (.invokevirtual 248, 3) := by decide +kernel
theorem dX10_readsStatement_46 : decode cX10_readsStatement 46 = .ok (.ifCond .ne 5, 3) := by decide +kernel
theorem dX10_readsStatement_49 : decode cX10_readsStatement 49 = .ok (.iconst 0, 1) := by decide +kernel
theorem dX10_readsStatement_50 : decode cX10_readsStatement 50 = .ok (.ireturn, 1) := by decide +kernel
theorem dX10_readsStatement_51 : decode cX10_readsStatement 51 = .ok (.aload_n 0, 1) := by decide +kernel
theorem dX10_readsStatement_52 : decode cX10_readsStatement 52 = .ok (.getfield 230, 3) := by decide +kernel
theorem dX10_readsStatement_55 : decode cX10_readsStatement 55 = .ok (.istore_n 1, 1) := by decide +kernel
theorem dX10_readsStatement_56 : decode cX10_readsStatement 56 = .ok (.aload_n 0, 1) := by decide +kernel
theorem dX10_readsStatement_57 : decode cX10_readsStatement 57 = .ok (.iload_n 1, 1) := by decide +kernel
theorem dX10_readsStatement_58 : decode cX10_readsStatement 58 = .ok (.invokestatic 98, 3) := by decide +kernel
theorem dX10_readsStatement_61 : decode cX10_readsStatement 61 = .ok (.invokevirtual 94, 3) := by decide +kernel
theorem dX10_readsStatement_64 : decode cX10_readsStatement 64 = .ok (.bipush 6, 2) := by decide +kernel
theorem dX10_readsStatement_66 : decode cX10_readsStatement 66 = .ok (.if_icmp .ne 9, 3) := by decide +kernel
theorem dX10_readsStatement_69 : decode cX10_readsStatement 69 = .ok (.aload_n 0, 1) := by decide +kernel
theorem dX10_readsStatement_70 : decode cX10_readsStatement 70 = .ok (.iconst 5, 1) := by decide +kernel
theorem dX10_readsStatement_71 : decode cX10_readsStatement 71 = .ok (.invokevirtual 227, 3) := by decide +kernel
theorem dX10_readsStatement_74 : decode cX10_readsStatement 74 = .ok (.ireturn, 1) := by decide +kernel
theorem dX10_readsStatement_75 : decode cX10_readsStatement 75 = .ok (.aload_n 0, 1) := by decide +kernel
theorem dX10_readsStatement_76 : decode cX10_readsStatement 76 = .ok (.iconst 0, 1) := by decide +kernel
theorem dX10_readsStatement_77 : decode cX10_readsStatement 77 = .ok (.bipush 7, 2) := by decide +kernel
theorem dX10_readsStatement_79 : decode cX10_readsStatement 79 = .ok (.invokevirtual 248, 3) := by decide +kernel
theorem dX10_readsStatement_82 : decode cX10_readsStatement 82 = .ok (.ifCond .ne 5, 3) := by decide +kernel
theorem dX10_readsStatement_85 : decode cX10_readsStatement 85 = .ok (.iconst 0, 1) := by decide +kernel
theorem dX10_readsStatement_86 : decode cX10_readsStatement 86 = .ok (.ireturn, 1) := by decide +kernel
theorem dX10_readsStatement_87 : decode cX10_readsStatement 87 = .ok (.aload_n 0, 1) := by decide +kernel
theorem dX10_readsStatement_88 : decode cX10_readsStatement 88 = .ok (.getfield 230, 3) := by decide +kernel
theorem dX10_readsStatement_91 : decode cX10_readsStatement 91 = .ok (.istore_n 2, 1) := by decide +kernel
theorem dX10_readsStatement_92 : decode cX10_readsStatement 92 = .ok (.aload_n 0, 1) := by decide +kernel
theorem dX10_readsStatement_93 : decode cX10_readsStatement 93 = .ok (.iconst 3, 1) := by decide +kernel
theorem dX10_readsStatement_94 : decode cX10_readsStatement 94 = .ok (.invokevirtual 237, 3) := by decide +kernel
theorem dX10_readsStatement_97 : decode cX10_readsStatement 97 = .ok (.ifCond .ne 5, 3) := by decide +kernel
theorem dX10_readsStatement_100 : decode cX10_readsStatement 100 = .ok (.iconst 0, 1) := by decide +kernel
theorem dX10_readsStatement_101 : decode cX10_readsStatement 101 = .ok (.ireturn, 1) := by decide +kernel
theorem dX10_readsStatement_102 : decode cX10_readsStatement 102 = .ok (.aload_n 0, 1) := by decide +kernel
theorem dX10_readsStatement_103 : decode cX10_readsStatement 103 = .ok (.iload_n 1, 1) := by decide +kernel
theorem dX10_readsStatement_104 : decode cX10_readsStatement 104 = .ok (.iload_n 2, 1) := by decide +kernel
theorem dX10_readsStatement_105 : decode cX10_readsStatement 105 = .ok (.invokevirtual 257, 3) := by decide +kernel
theorem dX10_readsStatement_108 : decode cX10_readsStatement 108 = .ok (.iconst 1, 1) := by decide +kernel
theorem dX10_readsStatement_109 : decode cX10_readsStatement 109 = .ok (.ireturn, 1) := by decide +kernel
theorem dX10_readsSet_0 : decode cX10_readsSet 0 = .ok (.aload_n 0, 1) := by decide +kernel
theorem dX10_readsSet_1 : decode cX10_readsSet 1 = .ok (.iconst 0, 1) := by decide +kernel
theorem dX10_readsSet_2 : decode cX10_readsSet 2 = .ok (.bipush 7, 2) := by decide +kernel
theorem dX10_readsSet_4 : decode cX10_readsSet 4 = .ok (.invokevirtual 248, 3) := by decide +kernel
theorem dX10_readsSet_7 : decode cX10_readsSet 7 = .ok (.ifCond .ne 5, 3) := by decide +kernel
theorem dX10_readsSet_10 : decode cX10_readsSet 10 = .ok (.iconst 0, 1) := by decide +kernel
theorem dX10_readsSet_11 : decode cX10_readsSet 11 = .ok (.ireturn, 1) := by decide +kernel
theorem dX10_readsSet_12 : decode cX10_readsSet 12 = .ok (.aload_n 0, 1) := by decide +kernel
theorem dX10_readsSet_13 : decode cX10_readsSet 13 = .ok (.getfield 230, 3) := by decide +kernel
theorem dX10_readsSet_16 : decode cX10_readsSet 16 = .ok (.istore_n 1, 1) := by decide +kernel
theorem dX10_readsSet_17 : decode cX10_readsSet 17 = .ok (.aload_n 0, 1) := by decide +kernel
theorem dX10_readsSet_18 : decode cX10_readsSet 18 = .ok (.invokevirtual 112, 3) := by decide +kernel
theorem dX10_readsSet_21 : decode cX10_readsSet 21 = .ok (.aload_n 0, 1) := by decide +kernel
theorem dX10_readsSet_22 : decode cX10_readsSet 22 = .ok (.invokevirtual 233, 3) := by decide +kernel
theorem dX10_readsSet_25 : decode cX10_readsSet 25 = .ok (.ifCond .ne 5, 3) := by decide +kernel
theorem dX10_readsSet_28 : decode cX10_readsSet 28 = .ok (.iconst 0, 1) := by decide +kernel
theorem dX10_readsSet_29 : decode cX10_readsSet 29 = .ok (.ireturn, 1) := by decide +kernel
theorem dX10_readsSet_30 : decode cX10_readsSet 30 = .ok (.aload_n 0, 1) := by decide +kernel
theorem dX10_readsSet_31 : decode cX10_readsSet 31 = .ok (.invokevirtual 260, 3) := by decide +kernel
theorem dX10_readsSet_34 : decode cX10_readsSet 34 = .ok (.ifCond .eq 10, 3) := by decide +kernel
theorem dX10_readsSet_37 : decode cX10_readsSet 37 = .ok (.aload_n 0, 1) := by decide +kernel
theorem dX10_readsSet_38 : decode cX10_readsSet 38 = .ok (.invokevirtual 233, 3) := by decide +kernel
theorem dX10_readsSet_41 : decode cX10_readsSet 41 = .ok (.ifCond .ne 5, 3) := by decide +kernel
theorem dX10_readsSet_44 : decode cX10_readsSet 44 = .ok (.iconst 0, 1) := by decide +kernel
theorem dX10_readsSet_45 : decode cX10_readsSet 45 = .ok (.ireturn, 1) := by decide +kernel
theorem dX10_readsSet_46 : decode cX10_readsSet 46 = .ok (.aload_n 0, 1) := by decide +kernel
theorem dX10_readsSet_47 : decode cX10_readsSet 47 = .ok (.getfield 221, 3) := by decide +kernel
theorem dX10_readsSet_50 : decode cX10_readsSet 50 = .ok (.iconst 3, 1) := by decide +kernel
theorem dX10_readsSet_51 : decode cX10_readsSet 51 = .ok (.if_icmp .ne (-21), 3) := by decide +kernel
theorem dX10_readsSet_54 : decode cX10_readsSet 54 = .ok (.aload_n 0, 1) := by decide +kernel
theorem dX10_readsSet_55 : decode cX10_readsSet 55 = .ok (.iload_n 1, 1) := by decide +kernel
theorem dX10_readsSet_56 : decode cX10_readsSet 56 = .ok (.invokestatic 263, 3) := by decide +kernel
theorem dX10_readsSet_59 : decode cX10_readsSet 59 = .ok (.invokevirtual 266, 3) := by decide +kernel
theorem dX10_readsSet_62 : decode cX10_readsSet 62 = .ok (.pop, 1) := by decide +kernel
theorem dX10_readsSet_63 : decode cX10_readsSet 63 = .ok (.iconst 1, 1) := by decide +kernel
theorem dX10_readsSet_64 : decode cX10_readsSet 64 = .ok (.ireturn, 1) := by decide +kernel
theorem dX10_readsItem_0 : decode cX10_readsItem 0 = .ok (.aload_n 0, 1) := by decide +kernel
theorem dX10_readsItem_1 : decode cX10_readsItem 1 = .ok (.getfield 221, 3) := by decide +kernel
theorem dX10_readsItem_4 : decode cX10_readsItem 4 = .ok (.iconst 2, 1) := by decide +kernel
theorem dX10_readsItem_5 : decode cX10_readsItem 5 = .ok (.if_icmp .ne 38, 3) := by decide +kernel
theorem dX10_readsItem_8 : decode cX10_readsItem 8 = .ok (.aload_n 0, 1) := by decide +kernel
theorem dX10_readsItem_9 : decode cX10_readsItem 9 = .ok (.getfield 230, 3) := by decide +kernel
theorem dX10_readsItem_12 : decode cX10_readsItem 12 = .ok (.iconst 1, 1) := by decide +kernel
theorem dX10_readsItem_13 : decode cX10_readsItem 13 = .ok (.if_icmp .ne 16, 3) := by decide +kernel
theorem dX10_readsItem_16 : decode cX10_readsItem 16 = .ok (.aload_n 0, 1) := by decide +kernel
theorem dX10_readsItem_17 : decode cX10_readsItem 17 = .ok (.getfield 215, 3) := by decide +kernel
theorem dX10_readsItem_20 : decode cX10_readsItem 20 = .ok (.aload_n 0, 1) := by decide +kernel
theorem dX10_readsItem_21 : decode cX10_readsItem 21 = .ok (.getfield 218, 3) := by decide +kernel
theorem dX10_readsItem_24 : decode cX10_readsItem 24 = .ok (.isub, 1) := by decide +kernel
theorem dX10_readsItem_25 : decode cX10_readsItem 25 = .ok (.iconst 1, 1) := by decide +kernel
theorem dX10_readsItem_26 : decode cX10_readsItem 26 = .ok (.if_icmp .eq 11, 3) := by decide +kernel
theorem dX10_readsItem_29 : decode cX10_readsItem 29 = .ok (.aload_n 0, 1) := by decide +kernel
theorem dX10_readsItem_30 : decode cX10_readsItem 30 = .ok (.iconst 1, 1) := by decide +kernel
theorem dX10_readsItem_31 : decode cX10_readsItem 31 = .ok (.invokevirtual 227, 3) := by decide +kernel
theorem dX10_readsItem_34 : decode cX10_readsItem 34 = .ok (.ifCond .eq 7, 3) := by decide +kernel
theorem dX10_readsItem_37 : decode cX10_readsItem 37 = .ok (.iconst 1, 1) := by decide +kernel
theorem dX10_readsItem_38 : decode cX10_readsItem 38 = .ok (.goto 4, 3) := by decide +kernel
theorem dX10_readsItem_41 : decode cX10_readsItem 41 = .ok (.iconst 0, 1) := by decide +kernel
theorem dX10_readsItem_42 : decode cX10_readsItem 42 = .ok (.ireturn, 1) := by decide +kernel
theorem dX10_readsItem_43 : decode cX10_readsItem 43 = .ok (.aload_n 0, 1) := by decide +kernel
theorem dX10_readsItem_44 : decode cX10_readsItem 44 = .ok (.getfield 221, 3) := by decide +kernel
theorem dX10_readsItem_47 : decode cX10_readsItem 47 = .ok (.iconst 1, 1) := by decide +kernel
theorem dX10_readsItem_48 : decode cX10_readsItem 48 = .ok (.if_icmp .eq 9, 3) := by decide +kernel
theorem dX10_readsItem_51 : decode cX10_readsItem 51 = .ok (.aload_n 0, 1) := by decide +kernel
theorem dX10_readsItem_52 : decode cX10_readsItem 52 = .ok (.iconst 1, 1) := by decide +kernel
theorem dX10_readsItem_53 : decode cX10_readsItem 53 = .ok (.invokevirtual 227, 3) := by decide +kernel
theorem dX10_readsItem_56 : decode cX10_readsItem 56 = .ok (.ireturn, 1) := by decide +kernel
theorem dX10_readsItem_57 : decode cX10_readsItem 57 = .ok (.aload_n 0, 1) := by decide +kernel
theorem dX10_readsItem_58 : decode cX10_readsItem 58 = .ok (.getfield 218, 3) := by decide +kernel
theorem dX10_readsItem_61 : decode cX10_readsItem 61 = .ok (.istore_n 1, 1) := by decide +kernel
theorem dX10_readsItem_62 : decode cX10_readsItem 62 = .ok (.iload_n 1, 1) := by decide +kernel
theorem dX10_readsItem_63 : decode cX10_readsItem 63 = .ok (.aload_n 0, 1) := by decide +kernel
theorem dX10_readsItem_64 : decode cX10_readsItem 64 = .ok (.getfield 215, 3) := by decide +kernel
theorem dX10_readsItem_67 : decode cX10_readsItem 67 = .ok (.if_icmp .ge 29, 3) := by decide +kernel
theorem dX10_readsItem_70 : decode cX10_readsItem 70 = .ok (.aload_n 0, 1) := by decide +kernel
theorem dX10_readsItem_71 : decode cX10_readsItem 71 = .ok (.aload_n 0, 1) := by decide +kernel
theorem dX10_readsItem_72 : decode cX10_readsItem 72 = .ok (.getfield 13, 3) := by decide +kernel
theorem dX10_readsItem_75 : decode cX10_readsItem 75 = .ok (.iload_n 1, 1) := by decide +kernel
theorem dX10_readsItem_76 : decode cX10_readsItem 76 = .ok (.baload, 1) := by decide +kernel
theorem dX10_readsItem_77 : decode cX10_readsItem 77 = .ok (.invokevirtual 269, 3) := by decide +kernel
theorem dX10_readsItem_80 : decode cX10_readsItem 80 = .ok (.iconst (-1), 1) := by decide +kernel
theorem dX10_readsItem_81 : decode cX10_readsItem 81 = .ok (.if_icmp .ne 9, 3) := by decide +kernel
theorem dX10_readsItem_84 : decode cX10_readsItem 84 = .ok (.aload_n 0, 1) := by decide +kernel
theorem dX10_readsItem_85 : decode cX10_readsItem 85 = .ok (.iconst 3, 1) := by decide +kernel
theorem dX10_readsItem_86 : decode cX10_readsItem 86 = .ok (.invokevirtual 227, 3) := by decide +kernel
theorem dX10_readsItem_89 : decode cX10_readsItem 89 = .ok (.ireturn, 1) := by decide +kernel
theorem dX10_readsItem_90 : decode cX10_readsItem 90 = .ok (.iinc 1 1, 3) := by decide +kernel
theorem dX10_readsItem_93 : decode cX10_readsItem 93 = .ok (.goto (-31), 3) := by decide +kernel
theorem dX10_readsItem_96 : decode cX10_readsItem 96 = .ok (.aload_n 0, 1) := by decide +kernel
theorem dX10_readsItem_97 : decode cX10_readsItem 97 = .ok (.getfield 218, 3) := by decide +kernel
theorem dX10_readsItem_100 : decode cX10_readsItem 100 = .ok (.istore_n 1, 1) := by decide +kernel
theorem dX10_readsItem_101 : decode cX10_readsItem 101 = .ok (.iload_n 1, 1) := by decide +kernel
theorem dX10_readsItem_102 : decode cX10_readsItem 102 = .ok (.aload_n 0, 1) := by decide +kernel
theorem dX10_readsItem_103 : decode cX10_readsItem 103 = .ok (.getfield 215, 3) := by decide +kernel
theorem dX10_readsItem_106 : decode cX10_readsItem 106 = .ok (.if_icmp .ge 23, 3) := by decide +kernel
theorem dX10_readsItem_109 : decode cX10_readsItem 109 = .ok (.aload_n 0, 1) := by decide +kernel
theorem dX10_readsItem_110 : decode cX10_readsItem 110 = .ok (.aload_n 0, 1) := by decide +kernel
theorem dX10_readsItem_111 : decode cX10_readsItem 111 = .ok (.aload_n 0, 1) := by decide +kernel
theorem dX10_readsItem_112 : decode cX10_readsItem 112 = .ok (.getfield 13, 3) := by decide +kernel
theorem dX10_readsItem_115 : decode cX10_readsItem 115 = .ok (.iload_n 1, 1) := by decide +kernel
theorem dX10_readsItem_116 : decode cX10_readsItem 116 = .ok (.baload, 1) := by decide +kernel
theorem dX10_readsItem_117 : decode cX10_readsItem 117 = .ok (.invokevirtual 269, 3) := by decide +kernel
theorem dX10_readsItem_120 : decode cX10_readsItem 120 = .ok (.invokevirtual 108, 3) := by decide +kernel
theorem dX10_readsItem_123 : decode cX10_readsItem 123 = .ok (.iinc 1 1, 3) := by decide +kernel
theorem dX10_readsItem_126 : decode cX10_readsItem 126 = .ok (.goto (-25), 3) := by decide +kernel
theorem dX10_readsItem_129 : decode cX10_readsItem 129 = .ok (.aload_n 0, 1) := by decide +kernel
theorem dX10_readsItem_130 : decode cX10_readsItem 130 = .ok (.invokevirtual 272, 3) := by decide +kernel
theorem dX10_readsItem_133 : decode cX10_readsItem 133 = .ok (.ifCond .eq 11, 3) := by decide +kernel
theorem dX10_readsItem_136 : decode cX10_readsItem 136 = .ok (.aload_n 0, 1) := by decide +kernel
theorem dX10_readsItem_137 : decode cX10_readsItem 137 = .ok (.iconst 4, 1) := by decide +kernel
theorem dX10_readsItem_138 : decode cX10_readsItem 138 = .ok (.invokevirtual 227, 3) := by decide +kernel
theorem dX10_readsItem_141 : decode cX10_readsItem 141 = .ok (.ifCond .eq 7, 3) := by decide +kernel
theorem dX10_readsItem_144 : decode cX10_readsItem 144 = .ok (.iconst 1, 1) := by decide +kernel
theorem dX10_readsItem_145 : decode cX10_readsItem 145 = .ok (.goto 4, 3) := by decide +kernel
theorem dX10_readsItem_148 : decode cX10_readsItem 148 = .ok (.iconst 0, 1) := by decide +kernel
theorem dX10_readsItem_149 : decode cX10_readsItem 149 = .ok (.ireturn, 1) := by decide +kernel
theorem dX10_feeds_0 : decode cX10_feeds 0 = .ok (.bipush 24, 2) := by decide +kernel
theorem dX10_feeds_2 : decode cX10_feeds 2 = .ok (.istore_n 2, 1) := by decide +kernel
theorem dX10_feeds_3 : decode cX10_feeds 3 = .ok (.iload_n 2, 1) := by decide +kernel
theorem dX10_feeds_4 : decode cX10_feeds 4 = .ok (.ifCond .lt 32, 3) := by decide +kernel
theorem dX10_feeds_7 : decode cX10_feeds 7 = .ok (.aload_n 0, 1) := by decide +kernel
theorem dX10_feeds_8 : decode cX10_feeds 8 = .ok (.getfield 13, 3) := by decide +kernel
theorem dX10_feeds_11 : decode cX10_feeds 11 = .ok (.aload_n 0, 1) := by decide +kernel
theorem dX10_feeds_12 : decode cX10_feeds 12 = .ok (.getfield 206, 3) := by decide +kernel
theorem dX10_feeds_15 : decode cX10_feeds 15 = .ok (.iload_n 1, 1) := by decide +kernel
theorem dX10_feeds_16 : decode cX10_feeds 16 = .ok (.iload_n 2, 1) := by decide +kernel
theorem dX10_feeds_17 : decode cX10_feeds 17 = .ok (.ishr, 1) := by decide +kernel
theorem dX10_feeds_18 : decode cX10_feeds 18 = .ok (.i2b, 1) := by decide +kernel
theorem dX10_feeds_19 : decode cX10_feeds 19 = .ok (.bastore, 1) := by decide +kernel
theorem dX10_feeds_20 : decode cX10_feeds 20 = .ok (.aload_n 0, 1) := by decide +kernel
theorem dX10_feeds_21 : decode cX10_feeds 21 = .ok (.dup, 1) := by decide +kernel
theorem dX10_feeds_22 : decode cX10_feeds 22 = .ok (.getfield 206, 3) := by decide +kernel
theorem dX10_feeds_25 : decode cX10_feeds 25 = .ok (.iconst 1, 1) := by decide +kernel
theorem dX10_feeds_26 : decode cX10_feeds 26 = .ok (.iadd, 1) := by decide +kernel
theorem dX10_feeds_27 : decode cX10_feeds 27 = .ok (.putfield 206, 3) := by decide +kernel
theorem dX10_feeds_30 : decode cX10_feeds 30 = .ok (.iinc 2 (-8), 3) := by decide +kernel
theorem dX10_feeds_33 : decode cX10_feeds 33 = .ok (.goto (-30), 3) := by decide +kernel
theorem dX10_feeds_36 : decode cX10_feeds 36 = .ok (.return_, 1) := by decide +kernel
theorem dX10_append_0 : decode cX10_append 0 = .ok (.aload_n 0, 1) := by decide +kernel
theorem dX10_append_1 : decode cX10_append 1 = .ok (.iconst 0, 1) := by decide +kernel
theorem dX10_append_2 : decode cX10_append 2 = .ok (.putfield 75, 3) := by decide +kernel
theorem dX10_append_5 : decode cX10_append 5 = .ok (.aload_n 0, 1) := by decide +kernel
theorem dX10_append_6 : decode cX10_append 6 = .ok (.getfield 206, 3) := by decide +kernel
theorem dX10_append_9 : decode cX10_append 9 = .ok (.bipush 20, 2) := by decide +kernel
theorem dX10_append_11 : decode cX10_append 11 = .ok (.iadd, 1) := by decide +kernel
theorem dX10_append_12 : decode cX10_append 12 = .ok (.sipush 600, 3) := by decide +kernel
theorem dX10_append_15 : decode cX10_append 15 = .ok (.if_icmp .le 9, 3) := by decide +kernel
theorem dX10_append_18 : decode cX10_append 18 = .ok (.aload_n 0, 1) := by decide +kernel
theorem dX10_append_19 : decode cX10_append 19 = .ok (.iconst 1, 1) := by decide +kernel
theorem dX10_append_20 : decode cX10_append 20 = .ok (.invokevirtual 275, 3) := by decide +kernel
theorem dX10_append_23 : decode cX10_append 23 = .ok (.ireturn, 1) := by decide +kernel
theorem dX10_append_24 : decode cX10_append 24 = .ok (.aload_n 0, 1) := by decide +kernel
theorem dX10_append_25 : decode cX10_append 25 = .ok (.iload_n 1, 1) := by decide +kernel
theorem dX10_append_26 : decode cX10_append 26 = .ok (.invokevirtual 278, 3) := by decide +kernel
theorem dX10_append_29 : decode cX10_append 29 = .ok (.aload_n 0, 1) := by decide +kernel
theorem dX10_append_30 : decode cX10_append 30 = .ok (.iload_n 2, 1) := by decide +kernel
theorem dX10_append_31 : decode cX10_append 31 = .ok (.invokevirtual 278, 3) := by decide +kernel
theorem dX10_append_34 : decode cX10_append 34 = .ok (.aload_n 0, 1) := by decide +kernel
theorem dX10_append_35 : decode cX10_append 35 = .ok (.iload_n 3, 1) := by decide +kernel
theorem dX10_append_36 : decode cX10_append 36 = .ok (.invokevirtual 278, 3) := by decide +kernel
theorem dX10_append_39 : decode cX10_append 39 = .ok (.aload_n 0, 1) := by decide +kernel
theorem dX10_append_40 : decode cX10_append 40 = .ok (.iload 4, 2) := by decide +kernel
theorem dX10_append_42 : decode cX10_append 42 = .ok (.invokevirtual 278, 3) := by decide +kernel
theorem dX10_append_45 : decode cX10_append 45 = .ok (.aload_n 0, 1) := by decide +kernel
theorem dX10_append_46 : decode cX10_append 46 = .ok (.iload 5, 2) := by decide +kernel
theorem dX10_append_48 : decode cX10_append 48 = .ok (.invokevirtual 278, 3) := by decide +kernel
theorem dX10_append_51 : decode cX10_append 51 = .ok (.aload_n 0, 1) := by decide +kernel
theorem dX10_append_52 : decode cX10_append 52 = .ok (.getfield 206, 3) := by decide +kernel
theorem dX10_append_55 : decode cX10_append 55 = .ok (.ireturn, 1) := by decide +kernel
theorem dX10_truncate_0 : decode cX10_truncate 0 = .ok (.aload_n 0, 1) := by decide +kernel
theorem dX10_truncate_1 : decode cX10_truncate 1 = .ok (.iconst 0, 1) := by decide +kernel
theorem dX10_truncate_2 : decode cX10_truncate 2 = .ok (.putfield 75, 3) := by decide +kernel
theorem dX10_truncate_5 : decode cX10_truncate 5 = .ok (.iload_n 1, 1) := by decide +kernel
theorem dX10_truncate_6 : decode cX10_truncate 6 = .ok (.ifCond .lt 11, 3) := by decide +kernel
theorem dX10_truncate_9 : decode cX10_truncate 9 = .ok (.iload_n 1, 1) := by decide +kernel
theorem dX10_truncate_10 : decode cX10_truncate 10 = .ok (.aload_n 0, 1) := by decide +kernel
theorem dX10_truncate_11 : decode cX10_truncate 11 = .ok (.getfield 206, 3) := by decide +kernel
theorem dX10_truncate_14 : decode cX10_truncate 14 = .ok (.if_icmp .le 11, 3) := by decide +kernel
theorem dX10_truncate_17 : decode cX10_truncate 17 = .ok (.aload_n 0, 1) := by decide +kernel
theorem dX10_truncate_18 : decode cX10_truncate 18 = .ok (.iconst 1, 1) := by decide +kernel
theorem dX10_truncate_19 : decode cX10_truncate 19 = .ok (.putfield 75, 3) := by decide +kernel
theorem dX10_truncate_22 : decode cX10_truncate 22 = .ok (.goto 8, 3) := by decide +kernel
theorem dX10_truncate_25 : decode cX10_truncate 25 = .ok (.aload_n 0, 1) := by decide +kernel
theorem dX10_truncate_26 : decode cX10_truncate 26 = .ok (.iload_n 1, 1) := by decide +kernel
theorem dX10_truncate_27 : decode cX10_truncate 27 = .ok (.putfield 206, 3) := by decide +kernel
theorem dX10_truncate_30 : decode cX10_truncate 30 = .ok (.return_, 1) := by decide +kernel
theorem dX10_load_0 : decode cX10_load 0 = .ok (.aload_n 0, 1) := by decide +kernel
theorem dX10_load_1 : decode cX10_load 1 = .ok (.iconst 0, 1) := by decide +kernel
theorem dX10_load_2 : decode cX10_load 2 = .ok (.putfield 75, 3) := by decide +kernel
theorem dX10_load_5 : decode cX10_load 5 = .ok (.aload_n 0, 1) := by decide +kernel
theorem dX10_load_6 : decode cX10_load 6 = .ok (.sipush 12230, 3) := by decide +kernel
theorem dX10_load_9 : decode cX10_load 9 = .ok (.putfield 78, 3) := by decide +kernel
theorem dX10_load_12 : decode cX10_load 12 = .ok (.aload_n 0, 1) := by decide +kernel
theorem dX10_load_13 : decode cX10_load 13 = .ok (.invokevirtual 281, 3) := by decide +kernel
theorem dX10_load_16 : decode cX10_load 16 = .ok (.istore_n 1, 1) := by decide +kernel
theorem dX10_load_17 : decode cX10_load 17 = .ok (.aload_n 0, 1) := by decide +kernel
theorem dX10_load_18 : decode cX10_load 18 = .ok (.iconst 0, 1) := by decide +kernel
theorem dX10_load_19 : decode cX10_load 19 = .ok (.putfield 78, 3) := by decide +kernel
theorem dX10_load_22 : decode cX10_load 22 = .ok (.aload_n 0, 1) := by decide +kernel
theorem dX10_load_23 : decode cX10_load 23 = .ok (.iconst 0, 1) := by decide +kernel
theorem dX10_load_24 : decode cX10_load 24 = .ok (.putfield 206, 3) := by decide +kernel
theorem dX10_load_27 : decode cX10_load 27 = .ok (.aload_n 0, 1) := by decide +kernel
theorem dX10_load_28 : decode cX10_load 28 = .ok (.iload_n 1, 1) := by decide +kernel
theorem dX10_load_29 : decode cX10_load 29 = .ok (.ifCond .eq 7, 3) := by decide +kernel
theorem dX10_load_32 : decode cX10_load 32 = .ok (.iconst 0, 1) := by decide +kernel
theorem dX10_load_33 : decode cX10_load 33 = .ok (.goto 7, 3) := by decide +kernel
theorem dX10_load_36 : decode cX10_load 36 = .ok (.aload_n 0, 1) := by decide +kernel
theorem dX10_load_37 : decode cX10_load 37 = .ok (.getfield 212, 3) := by decide +kernel
theorem dX10_load_40 : decode cX10_load 40 = .ok (.putfield 284, 3) := by decide +kernel
theorem dX10_load_43 : decode cX10_load 43 = .ok (.aload_n 0, 1) := by decide +kernel
theorem dX10_load_44 : decode cX10_load 44 = .ok (.iload_n 1, 1) := by decide +kernel
theorem dX10_load_45 : decode cX10_load 45 = .ok (.ifCond .eq 7, 3) := by decide +kernel
theorem dX10_load_48 : decode cX10_load 48 = .ok (.iconst (-1), 1) := by decide +kernel
theorem dX10_load_49 : decode cX10_load 49 = .ok (.goto 7, 3) := by decide +kernel
theorem dX10_load_52 : decode cX10_load 52 = .ok (.aload_n 0, 1) := by decide +kernel
theorem dX10_load_53 : decode cX10_load 53 = .ok (.getfield 218, 3) := by decide +kernel
theorem dX10_load_56 : decode cX10_load 56 = .ok (.putfield 67, 3) := by decide +kernel
theorem dX10_load_59 : decode cX10_load 59 = .ok (.iload_n 1, 1) := by decide +kernel
theorem dX10_load_60 : decode cX10_load 60 = .ok (.ifCond .ne 9, 3) := by decide +kernel
theorem dX10_load_63 : decode cX10_load 63 = .ok (.aload_n 0, 1) := by decide +kernel
theorem dX10_load_64 : decode cX10_load 64 = .ok (.iconst 1, 1) := by decide +kernel
theorem dX10_load_65 : decode cX10_load 65 = .ok (.invokevirtual 275, 3) := by decide +kernel
theorem dX10_load_68 : decode cX10_load 68 = .ok (.ireturn, 1) := by decide +kernel
theorem dX10_load_69 : decode cX10_load 69 = .ok (.aload_n 0, 1) := by decide +kernel
theorem dX10_load_70 : decode cX10_load 70 = .ok (.bipush 10, 2) := by decide +kernel
theorem dX10_load_72 : decode cX10_load 72 = .ok (.iconst 0, 1) := by decide +kernel
theorem dX10_load_73 : decode cX10_load 73 = .ok (.invokevirtual 87, 3) := by decide +kernel
theorem dX10_load_76 : decode cX10_load 76 = .ok (.aload_n 0, 1) := by decide +kernel
theorem dX10_load_77 : decode cX10_load 77 = .ok (.iconst 0, 1) := by decide +kernel
theorem dX10_load_78 : decode cX10_load 78 = .ok (.putfield 84, 3) := by decide +kernel
theorem dX10_load_81 : decode cX10_load 81 = .ok (.aload_n 0, 1) := by decide +kernel
theorem dX10_load_82 : decode cX10_load 82 = .ok (.iconst 0, 1) := by decide +kernel
theorem dX10_load_83 : decode cX10_load 83 = .ok (.putfield 81, 3) := by decide +kernel
theorem dX10_load_86 : decode cX10_load 86 = .ok (.aload_n 0, 1) := by decide +kernel
theorem dX10_load_87 : decode cX10_load 87 = .ok (.iconst 0, 1) := by decide +kernel
theorem dX10_load_88 : decode cX10_load 88 = .ok (.putfield 287, 3) := by decide +kernel
theorem dX10_load_91 : decode cX10_load 91 = .ok (.aload_n 0, 1) := by decide +kernel
theorem dX10_load_92 : decode cX10_load 92 = .ok (.iconst 0, 1) := by decide +kernel
theorem dX10_load_93 : decode cX10_load 93 = .ok (.invokevirtual 94, 3) := by decide +kernel
theorem dX10_load_96 : decode cX10_load 96 = .ok (.ireturn, 1) := by decide +kernel
theorem dX10_errorKind_0 : decode cX10_errorKind 0 = .ok (.aload_n 0, 1) := by decide +kernel
theorem dX10_errorKind_1 : decode cX10_errorKind 1 = .ok (.iconst 0, 1) := by decide +kernel
theorem dX10_errorKind_2 : decode cX10_errorKind 2 = .ok (.putfield 75, 3) := by decide +kernel
theorem dX10_errorKind_5 : decode cX10_errorKind 5 = .ok (.aload_n 0, 1) := by decide +kernel
theorem dX10_errorKind_6 : decode cX10_errorKind 6 = .ok (.getfield 284, 3) := by decide +kernel
theorem dX10_errorKind_9 : decode cX10_errorKind 9 = .ok (.ireturn, 1) := by decide +kernel
theorem dX10_errorPosition_0 : decode cX10_errorPosition 0 = .ok (.aload_n 0, 1) := by decide +kernel
theorem dX10_errorPosition_1 : decode cX10_errorPosition 1 = .ok (.iconst 0, 1) := by decide +kernel
theorem dX10_errorPosition_2 : decode cX10_errorPosition 2 = .ok (.putfield 75, 3) := by decide +kernel
theorem dX10_errorPosition_5 : decode cX10_errorPosition 5 = .ok (.aload_n 0, 1) := by decide +kernel
theorem dX10_errorPosition_6 : decode cX10_errorPosition 6 = .ok (.getfield 67, 3) := by decide +kernel
theorem dX10_errorPosition_9 : decode cX10_errorPosition 9 = .ok (.ireturn, 1) := by decide +kernel
theorem dX10_groupRank_0 : decode cX10_groupRank 0 = .ok (.aload_n 0, 1) := by decide +kernel
theorem dX10_groupRank_1 : decode cX10_groupRank 1 = .ok (.iconst 0, 1) := by decide +kernel
theorem dX10_groupRank_2 : decode cX10_groupRank 2 = .ok (.putfield 75, 3) := by decide +kernel
theorem dX10_groupRank_5 : decode cX10_groupRank 5 = .ok (.aload_n 0, 1) := by decide +kernel
theorem dX10_groupRank_6 : decode cX10_groupRank 6 = .ok (.iconst 0, 1) := by decide +kernel
theorem dX10_groupRank_7 : decode cX10_groupRank 7 = .ok (.invokevirtual 94, 3) := by decide +kernel
theorem dX10_groupRank_10 : decode cX10_groupRank 10 = .ok (.ireturn, 1) := by decide +kernel
theorem dX10_wordLength_0 : decode cX10_wordLength 0 = .ok (.aload_n 0, 1) := by decide +kernel
theorem dX10_wordLength_1 : decode cX10_wordLength 1 = .ok (.iconst 0, 1) := by decide +kernel
theorem dX10_wordLength_2 : decode cX10_wordLength 2 = .ok (.putfield 75, 3) := by decide +kernel
theorem dX10_wordLength_5 : decode cX10_wordLength 5 = .ok (.iload_n 1, 1) := by decide +kernel
theorem dX10_wordLength_6 : decode cX10_wordLength 6 = .ok (.invokestatic 90, 3) := by decide +kernel
theorem dX10_wordLength_9 : decode cX10_wordLength 9 = .ok (.ifCond .eq 14, 3) := by decide +kernel
theorem dX10_wordLength_12 : decode cX10_wordLength 12 = .ok (.aload_n 0, 1) := by decide +kernel
theorem dX10_wordLength_13 : decode cX10_wordLength 13 = .ok (.iload_n 1, 1) := by decide +kernel
theorem dX10_wordLength_14 : decode cX10_wordLength 14 = .ok (.invokestatic 263, 3) := by decide +kernel
theorem dX10_wordLength_17 : decode cX10_wordLength 17 = .ok (.invokevirtual 94, 3) := by decide +kernel
theorem dX10_wordLength_20 : decode cX10_wordLength 20 = .ok (.goto 8, 3) := by decide +kernel
theorem dX10_wordLength_23 : decode cX10_wordLength 23 = .ok (.aload_n 0, 1) := by decide +kernel
theorem dX10_wordLength_24 : decode cX10_wordLength 24 = .ok (.iconst 1, 1) := by decide +kernel
theorem dX10_wordLength_25 : decode cX10_wordLength 25 = .ok (.invokevirtual 275, 3) := by decide +kernel
theorem dX10_wordLength_28 : decode cX10_wordLength 28 = .ok (.ireturn, 1) := by decide +kernel
theorem dX10_letter_0 : decode cX10_letter 0 = .ok (.aload_n 0, 1) := by decide +kernel
theorem dX10_letter_1 : decode cX10_letter 1 = .ok (.iconst 0, 1) := by decide +kernel
theorem dX10_letter_2 : decode cX10_letter 2 = .ok (.putfield 75, 3) := by decide +kernel
theorem dX10_letter_5 : decode cX10_letter 5 = .ok (.iload_n 1, 1) := by decide +kernel
theorem dX10_letter_6 : decode cX10_letter 6 = .ok (.invokestatic 90, 3) := by decide +kernel
theorem dX10_letter_9 : decode cX10_letter 9 = .ok (.ifCond .eq 19, 3) := by decide +kernel
theorem dX10_letter_12 : decode cX10_letter 12 = .ok (.iload_n 2, 1) := by decide +kernel
theorem dX10_letter_13 : decode cX10_letter 13 = .ok (.ifCond .lt 15, 3) := by decide +kernel
theorem dX10_letter_16 : decode cX10_letter 16 = .ok (.iload_n 2, 1) := by decide +kernel
theorem dX10_letter_17 : decode cX10_letter 17 = .ok (.aload_n 0, 1) := by decide +kernel
theorem dX10_letter_18 : decode cX10_letter 18 = .ok (.iload_n 1, 1) := by decide +kernel
theorem dX10_letter_19 : decode cX10_letter 19 = .ok (.invokestatic 263, 3) := by decide +kernel
theorem dX10_letter_22 : decode cX10_letter 22 = .ok (.invokevirtual 94, 3) := by decide +kernel
theorem dX10_letter_25 : decode cX10_letter 25 = .ok (.if_icmp .lt 10, 3) := by decide +kernel
theorem dX10_letter_28 : decode cX10_letter 28 = .ok (.aload_n 0, 1) := by decide +kernel
theorem dX10_letter_29 : decode cX10_letter 29 = .ok (.iconst 1, 1) := by decide +kernel
theorem dX10_letter_30 : decode cX10_letter 30 = .ok (.invokevirtual 275, 3) := by decide +kernel
theorem dX10_letter_33 : decode cX10_letter 33 = .ok (.i2c, 1) := by decide +kernel
theorem dX10_letter_34 : decode cX10_letter 34 = .ok (.ireturn, 1) := by decide +kernel
theorem dX10_letter_35 : decode cX10_letter 35 = .ok (.aload_n 0, 1) := by decide +kernel
theorem dX10_letter_36 : decode cX10_letter 36 = .ok (.iload_n 1, 1) := by decide +kernel
theorem dX10_letter_37 : decode cX10_letter 37 = .ok (.invokestatic 263, 3) := by decide +kernel
theorem dX10_letter_40 : decode cX10_letter 40 = .ok (.iload_n 2, 1) := by decide +kernel
theorem dX10_letter_41 : decode cX10_letter 41 = .ok (.invokevirtual 104, 3) := by decide +kernel
theorem dX10_letter_44 : decode cX10_letter 44 = .ok (.invokestatic 291, 3) := by decide +kernel
theorem dX10_letter_47 : decode cX10_letter 47 = .ok (.ireturn, 1) := by decide +kernel
theorem dX10_compared_0 : decode cX10_compared 0 = .ok (.aload_n 0, 1) := by decide +kernel
theorem dX10_compared_1 : decode cX10_compared 1 = .ok (.iload_n 1, 1) := by decide +kernel
theorem dX10_compared_2 : decode cX10_compared 2 = .ok (.invokevirtual 94, 3) := by decide +kernel
theorem dX10_compared_5 : decode cX10_compared 5 = .ok (.aload_n 0, 1) := by decide +kernel
theorem dX10_compared_6 : decode cX10_compared 6 = .ok (.iload_n 2, 1) := by decide +kernel
theorem dX10_compared_7 : decode cX10_compared 7 = .ok (.invokevirtual 94, 3) := by decide +kernel
theorem dX10_compared_10 : decode cX10_compared 10 = .ok (.if_icmp .eq 22, 3) := by decide +kernel
theorem dX10_compared_13 : decode cX10_compared 13 = .ok (.aload_n 0, 1) := by decide +kernel
theorem dX10_compared_14 : decode cX10_compared 14 = .ok (.iload_n 1, 1) := by decide +kernel
theorem dX10_compared_15 : decode cX10_compared 15 = .ok (.invokevirtual 94, 3) := by decide +kernel
theorem dX10_compared_18 : decode cX10_compared 18 = .ok (.aload_n 0, 1) := by decide +kernel
theorem dX10_compared_19 : decode cX10_compared 19 = .ok (.iload_n 2, 1) := by decide +kernel
theorem dX10_compared_20 : decode cX10_compared 20 = .ok (.invokevirtual 94, 3) := by decide +kernel
theorem dX10_compared_23 : decode cX10_compared 23 = .ok (.if_icmp .ge 7, 3) := by decide +kernel
theorem dX10_compared_26 : decode cX10_compared 26 = .ok (.iconst (-1), 1) := by decide +kernel
theorem dX10_compared_27 : decode cX10_compared 27 = .ok (.goto 4, 3) := by decide +kernel
theorem dX10_compared_30 : decode cX10_compared 30 = .ok (.iconst 1, 1) := by decide +kernel
theorem dX10_compared_31 : decode cX10_compared 31 = .ok (.ireturn, 1) := by decide +kernel
theorem dX10_compared_32 : decode cX10_compared 32 = .ok (.iconst 0, 1) := by decide +kernel
theorem dX10_compared_33 : decode cX10_compared 33 = .ok (.istore_n 3, 1) := by decide +kernel
theorem dX10_compared_34 : decode cX10_compared 34 = .ok (.iload_n 3, 1) := by decide +kernel
theorem dX10_compared_35 : decode cX10_compared 35 = .ok (.aload_n 0, 1) := by decide +kernel
theorem dX10_compared_36 : decode cX10_compared 36 = .ok (.iload_n 1, 1) := by decide +kernel
theorem dX10_compared_37 : decode cX10_compared 37 = .ok (.invokevirtual 94, 3) := by decide +kernel
theorem dX10_compared_40 : decode cX10_compared 40 = .ok (.if_icmp .ge 24, 3) := by decide +kernel
theorem dX10_compared_43 : decode cX10_compared 43 = .ok (.aload_n 0, 1) := by decide +kernel
theorem dX10_compared_44 : decode cX10_compared 44 = .ok (.iload_n 1, 1) := by decide +kernel
theorem dX10_compared_45 : decode cX10_compared 45 = .ok (.iload_n 3, 1) := by decide +kernel
theorem dX10_compared_46 : decode cX10_compared 46 = .ok (.invokevirtual 104, 3) := by decide +kernel
theorem dX10_compared_49 : decode cX10_compared 49 = .ok (.aload_n 0, 1) := by decide +kernel
theorem dX10_compared_50 : decode cX10_compared 50 = .ok (.iload_n 2, 1) := by decide +kernel
theorem dX10_compared_51 : decode cX10_compared 51 = .ok (.iload_n 3, 1) := by decide +kernel
theorem dX10_compared_52 : decode cX10_compared 52 = .ok (.invokevirtual 104, 3) := by decide +kernel
theorem dX10_compared_55 : decode cX10_compared 55 = .ok (.if_icmp .ne 9, 3) := by decide +kernel
theorem dX10_compared_58 : decode cX10_compared 58 = .ok (.iinc 3 1, 3) := by decide +kernel
theorem dX10_compared_61 : decode cX10_compared 61 = .ok (.goto (-27), 3) := by decide +kernel
theorem dX10_compared_64 : decode cX10_compared 64 = .ok (.iload_n 3, 1) := by decide +kernel
theorem dX10_compared_65 : decode cX10_compared 65 = .ok (.aload_n 0, 1) := by decide +kernel
theorem dX10_compared_66 : decode cX10_compared 66 = .ok (.iload_n 1, 1) := by decide +kernel
theorem dX10_compared_67 : decode cX10_compared 67 = .ok (.invokevirtual 94, 3) := by decide +kernel
theorem dX10_compared_70 : decode cX10_compared 70 = .ok (.if_icmp .ne 5, 3) := by decide +kernel
theorem dX10_compared_73 : decode cX10_compared 73 = .ok (.iconst 0, 1) := by decide +kernel
theorem dX10_compared_74 : decode cX10_compared 74 = .ok (.ireturn, 1) := by decide +kernel
theorem dX10_compared_75 : decode cX10_compared 75 = .ok (.aload_n 0, 1) := by decide +kernel
theorem dX10_compared_76 : decode cX10_compared 76 = .ok (.iload_n 1, 1) := by decide +kernel
theorem dX10_compared_77 : decode cX10_compared 77 = .ok (.iload_n 3, 1) := by decide +kernel
theorem dX10_compared_78 : decode cX10_compared 78 = .ok (.invokevirtual 104, 3) := by decide +kernel
theorem dX10_compared_81 : decode cX10_compared 81 = .ok (.aload_n 0, 1) := by decide +kernel
theorem dX10_compared_82 : decode cX10_compared 82 = .ok (.iload_n 2, 1) := by decide +kernel
theorem dX10_compared_83 : decode cX10_compared 83 = .ok (.iload_n 3, 1) := by decide +kernel
theorem dX10_compared_84 : decode cX10_compared 84 = .ok (.invokevirtual 104, 3) := by decide +kernel
theorem dX10_compared_87 : decode cX10_compared 87 = .ok (.if_icmp .ge 7, 3) := by decide +kernel
theorem dX10_compared_90 : decode cX10_compared 90 = .ok (.iconst (-1), 1) := by decide +kernel
theorem dX10_compared_91 : decode cX10_compared 91 = .ok (.goto 4, 3) := by decide +kernel
theorem dX10_compared_94 : decode cX10_compared 94 = .ok (.iconst 1, 1) := by decide +kernel
theorem dX10_compared_95 : decode cX10_compared 95 = .ok (.ireturn, 1) := by decide +kernel
theorem dX10_areEqual_0 : decode cX10_areEqual 0 = .ok (.aload_n 0, 1) := by decide +kernel
theorem dX10_areEqual_1 : decode cX10_areEqual 1 = .ok (.iconst 0, 1) := by decide +kernel
theorem dX10_areEqual_2 : decode cX10_areEqual 2 = .ok (.putfield 75, 3) := by decide +kernel
theorem dX10_areEqual_5 : decode cX10_areEqual 5 = .ok (.iload_n 1, 1) := by decide +kernel
theorem dX10_areEqual_6 : decode cX10_areEqual 6 = .ok (.iload_n 2, 1) := by decide +kernel
theorem dX10_areEqual_7 : decode cX10_areEqual 7 = .ok (.invokestatic 295, 3) := by decide +kernel
theorem dX10_areEqual_10 : decode cX10_areEqual 10 = .ok (.ifCond .eq 26, 3) := by decide +kernel
theorem dX10_areEqual_13 : decode cX10_areEqual 13 = .ok (.aload_n 0, 1) := by decide +kernel
theorem dX10_areEqual_14 : decode cX10_areEqual 14 = .ok (.iload_n 1, 1) := by decide +kernel
theorem dX10_areEqual_15 : decode cX10_areEqual 15 = .ok (.invokestatic 263, 3) := by decide +kernel
theorem dX10_areEqual_18 : decode cX10_areEqual 18 = .ok (.iload_n 2, 1) := by decide +kernel
theorem dX10_areEqual_19 : decode cX10_areEqual 19 = .ok (.invokestatic 263, 3) := by decide +kernel
theorem dX10_areEqual_22 : decode cX10_areEqual 22 = .ok (.invokevirtual 298, 3) := by decide +kernel
theorem dX10_areEqual_25 : decode cX10_areEqual 25 = .ok (.ifCond .ne 7, 3) := by decide +kernel
theorem dX10_areEqual_28 : decode cX10_areEqual 28 = .ok (.iconst 1, 1) := by decide +kernel
theorem dX10_areEqual_29 : decode cX10_areEqual 29 = .ok (.goto 21, 3) := by decide +kernel
theorem dX10_areEqual_32 : decode cX10_areEqual 32 = .ok (.iconst 0, 1) := by decide +kernel
theorem dX10_areEqual_33 : decode cX10_areEqual 33 = .ok (.goto 17, 3) := by decide +kernel
theorem dX10_areEqual_36 : decode cX10_areEqual 36 = .ok (.aload_n 0, 1) := by decide +kernel
theorem dX10_areEqual_37 : decode cX10_areEqual 37 = .ok (.iconst 1, 1) := by decide +kernel
theorem dX10_areEqual_38 : decode cX10_areEqual 38 = .ok (.invokevirtual 275, 3) := by decide +kernel
theorem dX10_areEqual_41 : decode cX10_areEqual 41 = .ok (.iconst 1, 1) := by decide +kernel
theorem dX10_areEqual_42 : decode cX10_areEqual 42 = .ok (.if_icmp .ne 7, 3) := by decide +kernel
theorem dX10_areEqual_45 : decode cX10_areEqual 45 = .ok (.iconst 1, 1) := by decide +kernel
theorem dX10_areEqual_46 : decode cX10_areEqual 46 = .ok (.goto 4, 3) := by decide +kernel
theorem dX10_areEqual_49 : decode cX10_areEqual 49 = .ok (.iconst 0, 1) := by decide +kernel
theorem dX10_areEqual_50 : decode cX10_areEqual 50 = .ok (.ireturn, 1) := by decide +kernel
theorem dX10_areInverse_0 : decode cX10_areInverse 0 = .ok (.aload_n 0, 1) := by decide +kernel
theorem dX10_areInverse_1 : decode cX10_areInverse 1 = .ok (.iconst 0, 1) := by decide +kernel
theorem dX10_areInverse_2 : decode cX10_areInverse 2 = .ok (.putfield 75, 3) := by decide +kernel
theorem dX10_areInverse_5 : decode cX10_areInverse 5 = .ok (.iload_n 1, 1) := by decide +kernel
theorem dX10_areInverse_6 : decode cX10_areInverse 6 = .ok (.iload_n 2, 1) := by decide +kernel
theorem dX10_areInverse_7 : decode cX10_areInverse 7 = .ok (.invokestatic 295, 3) := by decide +kernel
theorem dX10_areInverse_10 : decode cX10_areInverse 10 = .ok (.ifCond .ne 18, 3) := by decide +kernel
theorem dX10_areInverse_13 : decode cX10_areInverse 13 = .ok (.aload_n 0, 1) := by decide +kernel
theorem dX10_areInverse_14 : decode cX10_areInverse 14 = .ok (.iconst 1, 1) := by decide +kernel
theorem dX10_areInverse_15 : decode cX10_areInverse 15 = .ok (.invokevirtual 275, 3) := by decide +kernel
theorem dX10_areInverse_18 : decode cX10_areInverse 18 = .ok (.iconst 1, 1) := by decide +kernel
theorem dX10_areInverse_19 : decode cX10_areInverse 19 = .ok (.if_icmp .ne 7, 3) := by decide +kernel
theorem dX10_areInverse_22 : decode cX10_areInverse 22 = .ok (.iconst 1, 1) := by decide +kernel
theorem dX10_areInverse_23 : decode cX10_areInverse 23 = .ok (.goto 4, 3) := by decide +kernel
theorem dX10_areInverse_26 : decode cX10_areInverse 26 = .ok (.iconst 0, 1) := by decide +kernel
theorem dX10_areInverse_27 : decode cX10_areInverse 27 = .ok (.ireturn, 1) := by decide +kernel
theorem dX10_areInverse_28 : decode cX10_areInverse 28 = .ok (.aload_n 0, 1) := by decide +kernel
theorem dX10_areInverse_29 : decode cX10_areInverse 29 = .ok (.iload_n 1, 1) := by decide +kernel
theorem dX10_areInverse_30 : decode cX10_areInverse 30 = .ok (.invokestatic 263, 3) := by decide +kernel
theorem dX10_areInverse_33 : decode cX10_areInverse 33 = .ok (.iload_n 2, 1) := by decide +kernel
theorem dX10_areInverse_34 : decode cX10_areInverse 34 = .ok (.invokestatic 263, 3) := by decide +kernel
theorem dX10_areInverse_37 : decode cX10_areInverse 37 = .ok (.invokevirtual 301, 3) := by decide +kernel
theorem dX10_areInverse_40 : decode cX10_areInverse 40 = .ok (.aload_n 0, 1) := by decide +kernel
theorem dX10_areInverse_41 : decode cX10_areInverse 41 = .ok (.getfield 101, 3) := by decide +kernel
theorem dX10_areInverse_44 : decode cX10_areInverse 44 = .ok (.ifCond .ne 7, 3) := by decide +kernel
theorem dX10_areInverse_47 : decode cX10_areInverse 47 = .ok (.iconst 1, 1) := by decide +kernel
theorem dX10_areInverse_48 : decode cX10_areInverse 48 = .ok (.goto 4, 3) := by decide +kernel
theorem dX10_areInverse_51 : decode cX10_areInverse 51 = .ok (.iconst 0, 1) := by decide +kernel
theorem dX10_areInverse_52 : decode cX10_areInverse 52 = .ok (.ireturn, 1) := by decide +kernel
theorem dX10_compare_0 : decode cX10_compare 0 = .ok (.aload_n 0, 1) := by decide +kernel
theorem dX10_compare_1 : decode cX10_compare 1 = .ok (.iconst 0, 1) := by decide +kernel
theorem dX10_compare_2 : decode cX10_compare 2 = .ok (.putfield 75, 3) := by decide +kernel
theorem dX10_compare_5 : decode cX10_compare 5 = .ok (.iload_n 1, 1) := by decide +kernel
theorem dX10_compare_6 : decode cX10_compare 6 = .ok (.iload_n 2, 1) := by decide +kernel
theorem dX10_compare_7 : decode cX10_compare 7 = .ok (.invokestatic 295, 3) := by decide +kernel
theorem dX10_compare_10 : decode cX10_compare 10 = .ok (.ifCond .eq 18, 3) := by decide +kernel
theorem dX10_compare_13 : decode cX10_compare 13 = .ok (.aload_n 0, 1) := by decide +kernel
theorem dX10_compare_14 : decode cX10_compare 14 = .ok (.iload_n 1, 1) := by decide +kernel
theorem dX10_compare_15 : decode cX10_compare 15 = .ok (.invokestatic 263, 3) := by decide +kernel
theorem dX10_compare_18 : decode cX10_compare 18 = .ok (.iload_n 2, 1) := by decide +kernel
theorem dX10_compare_19 : decode cX10_compare 19 = .ok (.invokestatic 263, 3) := by decide +kernel
theorem dX10_compare_22 : decode cX10_compare 22 = .ok (.invokevirtual 298, 3) := by decide +kernel
theorem dX10_compare_25 : decode cX10_compare 25 = .ok (.goto 8, 3) := by decide +kernel
theorem dX10_compare_28 : decode cX10_compare 28 = .ok (.aload_n 0, 1) := by decide +kernel
theorem dX10_compare_29 : decode cX10_compare 29 = .ok (.iconst 1, 1) := by decide +kernel
theorem dX10_compare_30 : decode cX10_compare 30 = .ok (.invokevirtual 275, 3) := by decide +kernel
theorem dX10_compare_33 : decode cX10_compare 33 = .ok (.ireturn, 1) := by decide +kernel
theorem dX10_exponentSum_0 : decode cX10_exponentSum 0 = .ok (.aload_n 0, 1) := by decide +kernel
theorem dX10_exponentSum_1 : decode cX10_exponentSum 1 = .ok (.iconst 0, 1) := by decide +kernel
theorem dX10_exponentSum_2 : decode cX10_exponentSum 2 = .ok (.putfield 75, 3) := by decide +kernel
theorem dX10_exponentSum_5 : decode cX10_exponentSum 5 = .ok (.iload_n 1, 1) := by decide +kernel
theorem dX10_exponentSum_6 : decode cX10_exponentSum 6 = .ok (.invokestatic 90, 3) := by decide +kernel
theorem dX10_exponentSum_9 : decode cX10_exponentSum 9 = .ok (.ifCond .eq 11, 3) := by decide +kernel
theorem dX10_exponentSum_12 : decode cX10_exponentSum 12 = .ok (.aload_n 0, 1) := by decide +kernel
theorem dX10_exponentSum_13 : decode cX10_exponentSum 13 = .ok (.iload_n 2, 1) := by decide +kernel
theorem dX10_exponentSum_14 : decode cX10_exponentSum 14 = .ok (.invokevirtual 304, 3) := by decide +kernel
theorem dX10_exponentSum_17 : decode cX10_exponentSum 17 = .ok (.ifCond .ne 9, 3) := by decide +kernel
theorem dX10_exponentSum_20 : decode cX10_exponentSum 20 = .ok (.aload_n 0, 1) := by decide +kernel
theorem dX10_exponentSum_21 : decode cX10_exponentSum 21 = .ok (.iconst 1, 1) := by decide +kernel
theorem dX10_exponentSum_22 : decode cX10_exponentSum 22 = .ok (.invokevirtual 275, 3) := by decide +kernel
theorem dX10_exponentSum_25 : decode cX10_exponentSum 25 = .ok (.ireturn, 1) := by decide +kernel
theorem dX10_exponentSum_26 : decode cX10_exponentSum 26 = .ok (.iconst 0, 1) := by decide +kernel
theorem dX10_exponentSum_27 : decode cX10_exponentSum 27 = .ok (.istore_n 3, 1) := by decide +kernel
theorem dX10_exponentSum_28 : decode cX10_exponentSum 28 = .ok (.iconst 0, 1) := by decide +kernel
theorem dX10_exponentSum_29 : decode cX10_exponentSum 29 = .ok (.istore 4, 2) := by decide +kernel
theorem dX10_exponentSum_31 : decode cX10_exponentSum 31 = .ok (.iload 4, 2) := by decide +kernel
theorem dX10_exponentSum_33 : decode cX10_exponentSum 33 = .ok (.aload_n 0, 1) := by decide +kernel
theorem dX10_exponentSum_34 : decode cX10_exponentSum 34 = .ok (.iload_n 1, 1) := by decide +kernel
theorem dX10_exponentSum_35 : decode cX10_exponentSum 35 = .ok (.invokestatic 263, 3) := by decide +kernel
theorem dX10_exponentSum_38 : decode cX10_exponentSum 38 = .ok (.invokevirtual 94, 3) := by decide +kernel
theorem dX10_exponentSum_41 : decode cX10_exponentSum 41 = .ok (.if_icmp .ge 44, 3) := by decide +kernel
theorem dX10_exponentSum_44 : decode cX10_exponentSum 44 = .ok (.aload_n 0, 1) := by decide +kernel
theorem dX10_exponentSum_45 : decode cX10_exponentSum 45 = .ok (.iload_n 1, 1) := by decide +kernel
theorem dX10_exponentSum_46 : decode cX10_exponentSum 46 = .ok (.invokestatic 263, 3) := by decide +kernel
theorem dX10_exponentSum_49 : decode cX10_exponentSum 49 = .ok (.iload 4, 2) := by decide +kernel
theorem dX10_exponentSum_51 : decode cX10_exponentSum 51 = .ok (.invokevirtual 104, 3) := by decide +kernel
theorem dX10_exponentSum_54 : decode cX10_exponentSum 54 = .ok (.istore 5, 2) := by decide +kernel
theorem dX10_exponentSum_56 : decode cX10_exponentSum 56 = .ok (.iload 5, 2) := by decide +kernel
theorem dX10_exponentSum_58 : decode cX10_exponentSum 58 = .ok (.iconst 2, 1) := by decide +kernel
theorem dX10_exponentSum_59 : decode cX10_exponentSum 59 = .ok (.idiv, 1) := by decide +kernel
theorem dX10_exponentSum_60 : decode cX10_exponentSum 60 = .ok (.iload_n 2, 1) := by decide +kernel
theorem dX10_exponentSum_61 : decode cX10_exponentSum 61 = .ok (.if_icmp .ne 18, 3) := by decide +kernel
theorem dX10_exponentSum_64 : decode cX10_exponentSum 64 = .ok (.iload_n 3, 1) := by decide +kernel
theorem dX10_exponentSum_65 : decode cX10_exponentSum 65 = .ok (.iload 5, 2) := by decide +kernel
theorem dX10_exponentSum_67 : decode cX10_exponentSum 67 = .ok (.iconst 2, 1) := by decide +kernel
theorem dX10_exponentSum_68 : decode cX10_exponentSum 68 = .ok (.irem, 1) := by decide +kernel
theorem dX10_exponentSum_69 : decode cX10_exponentSum 69 = .ok (.ifCond .ne 7, 3) := by decide +kernel
theorem dX10_exponentSum_72 : decode cX10_exponentSum 72 = .ok (.iconst 1, 1) := by decide +kernel
theorem dX10_exponentSum_73 : decode cX10_exponentSum 73 = .ok (.goto 4, 3) := by decide +kernel
theorem dX10_exponentSum_76 : decode cX10_exponentSum 76 = .ok (.iconst (-1), 1) := by decide +kernel
theorem dX10_exponentSum_77 : decode cX10_exponentSum 77 = .ok (.iadd, 1) := by decide +kernel
theorem dX10_exponentSum_78 : decode cX10_exponentSum 78 = .ok (.istore_n 3, 1) := by decide +kernel
theorem dX10_exponentSum_79 : decode cX10_exponentSum 79 = .ok (.iinc 4 1, 3) := by decide +kernel
theorem dX10_exponentSum_82 : decode cX10_exponentSum 82 = .ok (.goto (-51), 3) := by decide +kernel
theorem dX10_exponentSum_85 : decode cX10_exponentSum 85 = .ok (.iload_n 3, 1) := by decide +kernel
theorem dX10_exponentSum_86 : decode cX10_exponentSum 86 = .ok (.ireturn, 1) := by decide +kernel
theorem dX10_commonPrefix_0 : decode cX10_commonPrefix 0 = .ok (.aload_n 0, 1) := by decide +kernel
theorem dX10_commonPrefix_1 : decode cX10_commonPrefix 1 = .ok (.iconst 0, 1) := by decide +kernel
theorem dX10_commonPrefix_2 : decode cX10_commonPrefix 2 = .ok (.putfield 75, 3) := by decide +kernel
theorem dX10_commonPrefix_5 : decode cX10_commonPrefix 5 = .ok (.iload_n 1, 1) := by decide +kernel
theorem dX10_commonPrefix_6 : decode cX10_commonPrefix 6 = .ok (.iload_n 2, 1) := by decide +kernel
theorem dX10_commonPrefix_7 : decode cX10_commonPrefix 7 = .ok (.invokestatic 295, 3) := by decide +kernel
theorem dX10_commonPrefix_10 : decode cX10_commonPrefix 10 = .ok (.ifCond .ne 9, 3) := by decide +kernel
theorem dX10_commonPrefix_13 : decode cX10_commonPrefix 13 = .ok (.aload_n 0, 1) := by decide +kernel
theorem dX10_commonPrefix_14 : decode cX10_commonPrefix 14 = .ok (.iconst 1, 1) := by decide +kernel
theorem dX10_commonPrefix_15 : decode cX10_commonPrefix 15 = .ok (.invokevirtual 275, 3) := by decide +kernel
theorem dX10_commonPrefix_18 : decode cX10_commonPrefix 18 = .ok (.ireturn, 1) := by decide +kernel
theorem dX10_commonPrefix_19 : decode cX10_commonPrefix 19 = .ok (.aload_n 0, 1) := by decide +kernel
theorem dX10_commonPrefix_20 : decode cX10_commonPrefix 20 = .ok (.iload_n 1, 1) := by decide +kernel
theorem dX10_commonPrefix_21 : decode cX10_commonPrefix 21 = .ok (.invokestatic 263, 3) := by decide +kernel
theorem dX10_commonPrefix_24 : decode cX10_commonPrefix 24 = .ok (.invokevirtual 94, 3) := by decide +kernel
theorem dX10_commonPrefix_27 : decode cX10_commonPrefix 27 = .ok (.aload_n 0, 1) := by decide +kernel
theorem dX10_commonPrefix_28 : decode cX10_commonPrefix 28 = .ok (.iload_n 2, 1) := by decide +kernel
theorem dX10_commonPrefix_29 : decode cX10_commonPrefix 29 = .ok (.invokestatic 263, 3) := by decide +kernel
theorem dX10_commonPrefix_32 : decode cX10_commonPrefix 32 = .ok (.invokevirtual 94, 3) := by decide +kernel
theorem dX10_commonPrefix_35 : decode cX10_commonPrefix 35 = .ok (.invokestatic 152, 3) := by decide +kernel
theorem dX10_commonPrefix_38 : decode cX10_commonPrefix 38 = .ok (.istore_n 3, 1) := by decide +kernel
theorem dX10_commonPrefix_39 : decode cX10_commonPrefix 39 = .ok (.iconst 0, 1) := by decide +kernel
theorem dX10_commonPrefix_40 : decode cX10_commonPrefix 40 = .ok (.istore 4, 2) := by decide +kernel
theorem dX10_commonPrefix_42 : decode cX10_commonPrefix 42 = .ok (.iload 4, 2) := by decide +kernel
theorem dX10_commonPrefix_44 : decode cX10_commonPrefix 44 = .ok (.iload_n 3, 1) := by decide +kernel
theorem dX10_commonPrefix_45 : decode cX10_commonPrefix 45 = .ok (.if_icmp .ge 32, 3) := by decide +kernel
theorem dX10_commonPrefix_48 : decode cX10_commonPrefix 48 = .ok (.aload_n 0, 1) := by decide +kernel
theorem dX10_commonPrefix_49 : decode cX10_commonPrefix 49 = .ok (.iload_n 1, 1) := by decide +kernel
theorem dX10_commonPrefix_50 : decode cX10_commonPrefix 50 = .ok (.invokestatic 263, 3) := by decide +kernel
theorem dX10_commonPrefix_53 : decode cX10_commonPrefix 53 = .ok (.iload 4, 2) := by decide +kernel
theorem dX10_commonPrefix_55 : decode cX10_commonPrefix 55 = .ok (.invokevirtual 104, 3) := by decide +kernel
theorem dX10_commonPrefix_58 : decode cX10_commonPrefix 58 = .ok (.aload_n 0, 1) := by decide +kernel
theorem dX10_commonPrefix_59 : decode cX10_commonPrefix 59 = .ok (.iload_n 2, 1) := by decide +kernel
theorem dX10_commonPrefix_60 : decode cX10_commonPrefix 60 = .ok (.invokestatic 263, 3) := by decide +kernel
theorem dX10_commonPrefix_63 : decode cX10_commonPrefix 63 = .ok (.iload 4, 2) := by decide +kernel
theorem dX10_commonPrefix_65 : decode cX10_commonPrefix 65 = .ok (.invokevirtual 104, 3) := by decide +kernel
theorem dX10_commonPrefix_68 : decode cX10_commonPrefix 68 = .ok (.if_icmp .ne 9, 3) := by decide +kernel
theorem dX10_commonPrefix_71 : decode cX10_commonPrefix 71 = .ok (.iinc 4 1, 3) := by decide +kernel
theorem dX10_commonPrefix_74 : decode cX10_commonPrefix 74 = .ok (.goto (-32), 3) := by decide +kernel
theorem dX10_commonPrefix_77 : decode cX10_commonPrefix 77 = .ok (.iload 4, 2) := by decide +kernel
theorem dX10_commonPrefix_79 : decode cX10_commonPrefix 79 = .ok (.ireturn, 1) := by decide +kernel
theorem dX10_cancellation_0 : decode cX10_cancellation 0 = .ok (.aload_n 0, 1) := by decide +kernel
theorem dX10_cancellation_1 : decode cX10_cancellation 1 = .ok (.iconst 0, 1) := by decide +kernel
theorem dX10_cancellation_2 : decode cX10_cancellation 2 = .ok (.putfield 75, 3) := by decide +kernel
theorem dX10_cancellation_5 : decode cX10_cancellation 5 = .ok (.iload_n 1, 1) := by decide +kernel
theorem dX10_cancellation_6 : decode cX10_cancellation 6 = .ok (.iload_n 2, 1) := by decide +kernel
theorem dX10_cancellation_7 : decode cX10_cancellation 7 = .ok (.invokestatic 295, 3) := by decide +kernel
theorem dX10_cancellation_10 : decode cX10_cancellation 10 = .ok (.ifCond .ne 9, 3) := by decide +kernel
theorem dX10_cancellation_13 : decode cX10_cancellation 13 = .ok (.aload_n 0, 1) := by decide +kernel
theorem dX10_cancellation_14 : decode cX10_cancellation 14 = .ok (.iconst 1, 1) := by decide +kernel
theorem dX10_cancellation_15 : decode cX10_cancellation 15 = .ok (.invokevirtual 275, 3) := by decide +kernel
theorem dX10_cancellation_18 : decode cX10_cancellation 18 = .ok (.ireturn, 1) := by decide +kernel
theorem dX10_cancellation_19 : decode cX10_cancellation 19 = .ok (.aload_n 0, 1) := by decide +kernel
theorem dX10_cancellation_20 : decode cX10_cancellation 20 = .ok (.iload_n 1, 1) := by decide +kernel
theorem dX10_cancellation_21 : decode cX10_cancellation 21 = .ok (.invokestatic 263, 3) := by decide +kernel
theorem dX10_cancellation_24 : decode cX10_cancellation 24 = .ok (.iload_n 2, 1) := by decide +kernel
theorem dX10_cancellation_25 : decode cX10_cancellation 25 = .ok (.invokestatic 263, 3) := by decide +kernel
theorem dX10_cancellation_28 : decode cX10_cancellation 28 = .ok (.invokevirtual 301, 3) := by decide +kernel
theorem dX10_cancellation_31 : decode cX10_cancellation 31 = .ok (.aload_n 0, 1) := by decide +kernel
theorem dX10_cancellation_32 : decode cX10_cancellation 32 = .ok (.iload_n 1, 1) := by decide +kernel
theorem dX10_cancellation_33 : decode cX10_cancellation 33 = .ok (.invokestatic 263, 3) := by decide +kernel
theorem dX10_cancellation_36 : decode cX10_cancellation 36 = .ok (.invokevirtual 94, 3) := by decide +kernel
theorem dX10_cancellation_39 : decode cX10_cancellation 39 = .ok (.aload_n 0, 1) := by decide +kernel
theorem dX10_cancellation_40 : decode cX10_cancellation 40 = .ok (.iload_n 2, 1) := by decide +kernel
theorem dX10_cancellation_41 : decode cX10_cancellation 41 = .ok (.invokestatic 263, 3) := by decide +kernel
theorem dX10_cancellation_44 : decode cX10_cancellation 44 = .ok (.invokevirtual 94, 3) := by decide +kernel
theorem dX10_cancellation_47 : decode cX10_cancellation 47 = .ok (.iadd, 1) := by decide +kernel
theorem dX10_cancellation_48 : decode cX10_cancellation 48 = .ok (.aload_n 0, 1) := by decide +kernel
theorem dX10_cancellation_49 : decode cX10_cancellation 49 = .ok (.getfield 101, 3) := by decide +kernel
theorem dX10_cancellation_52 : decode cX10_cancellation 52 = .ok (.isub, 1) := by decide +kernel
theorem dX10_cancellation_53 : decode cX10_cancellation 53 = .ok (.iconst 2, 1) := by decide +kernel
theorem dX10_cancellation_54 : decode cX10_cancellation 54 = .ok (.idiv, 1) := by decide +kernel
theorem dX10_cancellation_55 : decode cX10_cancellation 55 = .ok (.ireturn, 1) := by decide +kernel
