/-! rows that decode -/
theorem dX6_init_0 : decode cX6_init 0 = .ok (.aload_n 0, 1) := by decide +kernel
theorem dX6_init_1 : decode cX6_init 1 = .ok (.invokespecial 3, 3) := by decide +kernel
theorem dX6_init_4 : decode cX6_init 4 = .ok (.aload_n 0, 1) := by decide +kernel
theorem dX6_init_5 : decode cX6_init 5 = .ok (.new 9, 3) := by decide +kernel
theorem dX6_init_8 : decode cX6_init 8 = .ok (.dup, 1) := by decide +kernel
theorem dX6_init_9 : decode cX6_init 9 = .ok (.invokespecial 11, 3) := by decide +kernel
theorem dX6_init_12 : decode cX6_init 12 = .ok (.putfield 12, 3) := by decide +kernel
theorem dX6_init_15 : decode cX6_init 15 = .ok (.aload_n 0, 1) := by decide +kernel
theorem dX6_init_16 : decode cX6_init 16 = .ok (.new 18, 3) := by decide +kernel
theorem dX6_init_19 : decode cX6_init 19 = .ok (.dup, 1) := by decide +kernel
theorem dX6_init_20 : decode cX6_init 20 = .ok (.bipush 120, 2) := by decide +kernel
theorem dX6_init_22 : decode cX6_init 22 = .ok (.invokespecial 20, 3) := by decide +kernel
theorem dX6_init_25 : decode cX6_init 25 = .ok (.putfield 23, 3) := by decide +kernel
theorem dX6_init_28 : decode cX6_init 28 = .ok (.aload_n 0, 1) := by decide +kernel
theorem dX6_init_29 : decode cX6_init 29 = .ok (.iconst 0, 1) := by decide +kernel
theorem dX6_init_30 : decode cX6_init 30 = .ok (.putfield 27, 3) := by decide +kernel
theorem dX6_init_33 : decode cX6_init 33 = .ok (.aload_n 0, 1) := by decide +kernel
theorem dX6_init_34 : decode cX6_init 34 = .ok (.iconst (-1), 1) := by decide +kernel
theorem dX6_init_35 : decode cX6_init 35 = .ok (.putfield 31, 3) := by decide +kernel
theorem dX6_init_38 : decode cX6_init 38 = .ok (.aload_n 0, 1) := by decide +kernel
theorem dX6_init_39 : decode cX6_init 39 = .ok (.iconst 0, 1) := by decide +kernel
theorem dX6_init_40 : decode cX6_init 40 = .ok (.newarray .int, 2) := by decide +kernel
theorem dX6_init_42 : decode cX6_init 42 = .ok (.putfield 34, 3) := by decide +kernel
theorem dX6_init_45 : decode cX6_init 45 = .ok (.return_, 1) := by decide +kernel
theorem dX6_parse_0 : decode cX6_parse 0 = .ok (.aload_n 0, 1) := by decide +kernel
theorem dX6_parse_1 : decode cX6_parse 1 = .ok (.aload_n 1, 1) := by decide +kernel
theorem dX6_parse_2 : decode cX6_parse 2 = .ok (.putfield 34, 3) := by decide +kernel
theorem dX6_parse_5 : decode cX6_parse 5 = .ok (.aload_n 0, 1) := by decide +kernel
theorem dX6_parse_6 : decode cX6_parse 6 = .ok (.iload_n 2, 1) := by decide +kernel
theorem dX6_parse_7 : decode cX6_parse 7 = .ok (.aload_n 1, 1) := by decide +kernel
theorem dX6_parse_8 : decode cX6_parse 8 = .ok (.arraylength, 1) := by decide +kernel
theorem dX6_parse_9 : decode cX6_parse 9 = .ok (.invokestatic 38, 3) := by decide +kernel
theorem dX6_parse_12 : decode cX6_parse 12 = .ok (.putfield 44, 3) := by decide +kernel
theorem dX6_parse_15 : decode cX6_parse 15 = .ok (.aload_n 0, 1) := by decide +kernel
theorem dX6_parse_16 : decode cX6_parse 16 = .ok (.iconst 0, 1) := by decide +kernel
theorem dX6_parse_17 : decode cX6_parse 17 = .ok (.putfield 47, 3) := by decide +kernel
theorem dX6_parse_20 : decode cX6_parse 20 = .ok (.aload_n 0, 1) := by decide +kernel
theorem dX6_parse_21 : decode cX6_parse 21 = .ok (.iconst 0, 1) := by decide +kernel
theorem dX6_parse_22 : decode cX6_parse 22 = .ok (.putfield 27, 3) := by decide +kernel
theorem dX6_parse_25 : decode cX6_parse 25 = .ok (.aload_n 0, 1) := by decide +kernel
theorem dX6_parse_26 : decode cX6_parse 26 = .ok (.iconst (-1), 1) := by decide +kernel
theorem dX6_parse_27 : decode cX6_parse 27 = .ok (.putfield 31, 3) := by decide +kernel
theorem dX6_parse_30 : decode cX6_parse 30 = .ok (.aload_n 0, 1) := by decide +kernel
theorem dX6_parse_31 : decode cX6_parse 31 = .ok (.invokevirtual 50, 3) := by decide +kernel
theorem dX6_parse_34 : decode cX6_parse 34 = .ok (.aload_n 0, 1) := by decide +kernel
theorem dX6_parse_35 : decode cX6_parse 35 = .ok (.invokevirtual 53, 3) := by decide +kernel
theorem dX6_parse_38 : decode cX6_parse 38 = .ok (.ifCond .ne 5, 3) := by decide +kernel
theorem dX6_parse_41 : decode cX6_parse 41 = .ok (.iconst 0, 1) := by decide +kernel
theorem dX6_parse_42 : decode cX6_parse 42 = .ok (.ireturn, 1) := by decide +kernel
theorem dX6_parse_43 : decode cX6_parse 43 = .ok (.iconst 0, 1) := by decide +kernel
theorem dX6_parse_44 : decode cX6_parse 44 = .ok (.istore_n 3, 1) := by decide +kernel
theorem dX6_parse_45 : decode cX6_parse 45 = .ok (.iload_n 3, 1) := by decide +kernel
theorem dX6_parse_46 : decode cX6_parse 46 = .ok (.sipush 600, 3) := by decide +kernel
theorem dX6_parse_49 : decode cX6_parse 49 = .ok (.if_icmp .ge 25, 3) := by decide +kernel
theorem dX6_parse_52 : decode cX6_parse 52 = .ok (.aload_n 0, 1) := by decide +kernel
theorem dX6_parse_53 : decode cX6_parse 53 = .ok (.getfield 57, 3) := by decide +kernel
theorem dX6_parse_56 : decode cX6_parse 56 = .ok (.ifCond .eq 18, 3) := by decide +kernel
theorem dX6_parse_59 : decode cX6_parse 59 = .ok (.aload_n 0, 1) := by decide +kernel
theorem dX6_parse_60 : decode cX6_parse 60 = .ok (.invokevirtual 60, 3) := by decide +kernel
theorem dX6_parse_63 : decode cX6_parse 63 = .ok (.ifCond .ne 5, 3) := by decide +kernel
theorem dX6_parse_66 : decode cX6_parse 66 = .ok (.iconst 0, 1) := by decide +kernel
theorem dX6_parse_67 : decode cX6_parse 67 = .ok (.ireturn, 1) := by decide +kernel
theorem dX6_parse_68 : decode cX6_parse 68 = .ok (.iinc 3 1, 3) := by decide +kernel
theorem dX6_parse_71 : decode cX6_parse 71 = .ok (.goto (-26), 3) := by decide +kernel
theorem dX6_parse_74 : decode cX6_parse 74 = .ok (.iconst 1, 1) := by decide +kernel
theorem dX6_parse_75 : decode cX6_parse 75 = .ok (.ireturn, 1) := by decide +kernel
theorem dX6_readRank_0 : decode cX6_readRank 0 = .ok (.aload_n 0, 1) := by decide +kernel
theorem dX6_readRank_1 : decode cX6_readRank 1 = .ok (.ldc 63, 2) := by decide +kernel
theorem dX6_readRank_3 : decode cX6_readRank 3 = .ok (.invokevirtual 65, 3) := by decide +kernel
theorem dX6_readRank_6 : decode cX6_readRank 6 = .ok (.ifCond .ne 9, 3) := by decide +kernel
theorem dX6_readRank_9 : decode cX6_readRank 9 = .ok (.aload_n 0, 1) := by decide +kernel
theorem dX6_readRank_10 : decode cX6_readRank 10 = .ok (.iconst 1, 1) := by decide +kernel
theorem dX6_readRank_11 : decode cX6_readRank 11 = .ok (.invokevirtual 69, 3) := by decide +kernel
theorem dX6_readRank_14 : decode cX6_readRank 14 = .ok (.ireturn, 1) := by decide +kernel
theorem dX6_readRank_15 : decode cX6_readRank 15 = .ok (.aload_n 0, 1) := by decide +kernel
theorem dX6_readRank_16 : decode cX6_readRank 16 = .ok (.invokevirtual 50, 3) := by decide +kernel
theorem dX6_readRank_19 : decode cX6_readRank 19 = .ok (.aload_n 0, 1) := by decide +kernel
theorem dX6_readRank_20 : decode cX6_readRank 20 = .ok (.iconst 1, 1) := by decide +kernel
theorem dX6_readRank_21 : decode cX6_readRank 21 = .ok (.iconst 4, 1) := by decide +kernel
theorem dX6_readRank_22 : decode cX6_readRank 22 = .ok (.invokevirtual 73, 3) := by decide +kernel
theorem dX6_readRank_25 : decode cX6_readRank 25 = .ok (.ifCond .ne 5, 3) := by decide +kernel
theorem dX6_readRank_28 : decode cX6_readRank 28 = .ok (.iconst 0, 1) := by decide +kernel
theorem dX6_readRank_29 : decode cX6_readRank 29 = .ok (.ireturn, 1) := by decide +kernel
theorem dX6_readRank_30 : decode cX6_readRank 30 = .ok (.aload_n 0, 1) := by decide +kernel
theorem dX6_readRank_31 : decode cX6_readRank 31 = .ok (.invokevirtual 77, 3) := by decide +kernel
theorem dX6_readRank_34 : decode cX6_readRank 34 = .ok (.istore_n 1, 1) := by decide +kernel
theorem dX6_readRank_35 : decode cX6_readRank 35 = .ok (.aload_n 0, 1) := by decide +kernel
theorem dX6_readRank_36 : decode cX6_readRank 36 = .ok (.invokevirtual 50, 3) := by decide +kernel
theorem dX6_readRank_39 : decode cX6_readRank 39 = .ok (.aload_n 0, 1) := by decide +kernel
theorem dX6_readRank_40 : decode cX6_readRank 40 = .ok (.invokevirtual 81, 3) := by decide +kernel
theorem dX6_readRank_43 : decode cX6_readRank 43 = .ok (.ifCond .ne 5, 3) := by decide +kernel
theorem dX6_readRank_46 : decode cX6_readRank 46 = .ok (.iconst 0, 1) := by decide +kernel
theorem dX6_readRank_47 : decode cX6_readRank 47 = .ok (.ireturn, 1) := by decide +kernel
theorem dX6_readRank_48 : decode cX6_readRank 48 = .ok (.aload_n 0, 1) := by decide +kernel
theorem dX6_readRank_49 : decode cX6_readRank 49 = .ok (.getfield 12, 3) := by decide +kernel
theorem dX6_readRank_52 : decode cX6_readRank 52 = .ok (.iload_n 1, 1) := by decide +kernel
theorem dX6_readRank_53 : decode cX6_readRank 53 = .ok (.invokevirtual 84, 3) := by decide +kernel
theorem dX6_readRank_56 : decode cX6_readRank 56 = .ok (.iconst 1, 1) := by decide +kernel
theorem dX6_readRank_57 : decode cX6_readRank 57 = .ok (.ireturn, 1) := by decide +kernel
theorem dX6_readStatement_0 : decode cX6_readStatement 0 = .ok (.aload_n 0, 1) := by decide +kernel
theorem dX6_readStatement_1 : decode cX6_readStatement 1 = .ok (.ldc 87, 2) := by decide +kernel
theorem dX6_readStatement_3 : decode cX6_readStatement 3 = .ok (.invokevirtual 65, 3) := by decide +kernel
theorem dX6_readStatement_6 : decode cX6_readStatement 6 = .ok (.ifCond .eq 12, 3) := by decide +kernel
theorem dX6_readStatement_9 : decode cX6_readStatement 9 = .ok (.aload_n 0, 1) := by decide +kernel
theorem dX6_readStatement_10 : decode cX6_readStatement 10 = .ok (.invokevirtual 50, 3) := by decide +kernel
theorem dX6_readStatement_13 : decode cX6_readStatement 13 = .ok (.aload_n 0, 1) := by decide +kernel
theorem dX6_readStatement_14 : decode cX6_readStatement 14 = .ok (.invokevirtual 89, 3) := by decide +kernel
theorem dX6_readStatement_17 : decode cX6_readStatement 17 = .ok (.ireturn, 1) := by decide +kernel
theorem dX6_readStatement_18 : decode cX6_readStatement 18 = .ok (.aload_n 0, 1) := by decide +kernel
theorem dX6_readStatement_19 : decode cX6_readStatement 19 = .ok (.ldc 92, 2) := by decide +kernel
theorem dX6_readStatement_21 : decode cX6_readStatement 21 = .ok (.invokevirtual 65, 3) := by decide +kernel
theorem dX6_readStatement_24 : decode cX6_readStatement 24 = .ok (.ifCond .eq 12, 3) := by decide +kernel
theorem dX6_readStatement_27 : decode cX6_readStatement 27 = .ok (.aload_n 0, 1) := by decide +kernel
theorem dX6_readStatement_28 : decode cX6_readStatement 28 = .ok (.invokevirtual 50, 3) := by decide +kernel
theorem dX6_readStatement_31 : decode cX6_readStatement 31 = .ok (.aload_n 0, 1) := by decide +kernel
theorem dX6_readStatement_32 : decode cX6_readStatement 32 = .ok (.invokevirtual 94, 3) := by decide +kernel
theorem dX6_readStatement_35 : decode cX6_readStatement 35 = .ok (.ireturn, 1) := by decide +kernel
theorem dX6_readStatement_36 : decode cX6_readStatement 36 = .ok (.aload_n 0, 1) := by decide +kernel
theorem dX6_readStatement_37 : decode cX6_readStatement 37 = .ok (.iconst 1, 1) := by decide +kernel
theorem dX6_readStatement_38 : decode cX6_readStatement 38 = .ok (.invokevirtual 69, 3) := by decide +kernel
theorem dX6_readStatement_41 : decode cX6_readStatement 41 = .ok (.ireturn, 1) := by decide +kernel
theorem dX6_readSet_0 : decode cX6_readSet 0 = .ok (.aload_n 0, 1) := by decide +kernel
theorem dX6_readSet_1 : decode cX6_readSet 1 = .ok (.iconst 0, 1) := by decide +kernel
theorem dX6_readSet_2 : decode cX6_readSet 2 = .ok (.bipush 7, 2) := by decide +kernel
theorem dX6_readSet_4 : decode cX6_readSet 4 = .ok (.invokevirtual 73, 3) := by decide +kernel
theorem dX6_readSet_7 : decode cX6_readSet 7 = .ok (.ifCond .ne 5, 3) := by decide +kernel
theorem dX6_readSet_10 : decode cX6_readSet 10 = .ok (.iconst 0, 1) := by decide +kernel
theorem dX6_readSet_11 : decode cX6_readSet 11 = .ok (.ireturn, 1) := by decide +kernel
theorem dX6_readSet_12 : decode cX6_readSet 12 = .ok (.aload_n 0, 1) := by decide +kernel
theorem dX6_readSet_13 : decode cX6_readSet 13 = .ok (.invokevirtual 77, 3) := by decide +kernel
theorem dX6_readSet_16 : decode cX6_readSet 16 = .ok (.istore_n 1, 1) := by decide +kernel
theorem dX6_readSet_17 : decode cX6_readSet 17 = .ok (.aload_n 0, 1) := by decide +kernel
theorem dX6_readSet_18 : decode cX6_readSet 18 = .ok (.invokevirtual 50, 3) := by decide +kernel
theorem dX6_readSet_21 : decode cX6_readSet 21 = .ok (.aload_n 0, 1) := by decide +kernel
theorem dX6_readSet_22 : decode cX6_readSet 22 = .ok (.getfield 23, 3) := by decide +kernel
theorem dX6_readSet_25 : decode cX6_readSet 25 = .ok (.invokevirtual 97, 3) := by decide +kernel
theorem dX6_readSet_28 : decode cX6_readSet 28 = .ok (.aload_n 0, 1) := by decide +kernel
theorem dX6_readSet_29 : decode cX6_readSet 29 = .ok (.invokevirtual 100, 3) := by decide +kernel
theorem dX6_readSet_32 : decode cX6_readSet 32 = .ok (.ifCond .ne 5, 3) := by decide +kernel
theorem dX6_readSet_35 : decode cX6_readSet 35 = .ok (.iconst 0, 1) := by decide +kernel
theorem dX6_readSet_36 : decode cX6_readSet 36 = .ok (.ireturn, 1) := by decide +kernel
theorem dX6_readSet_37 : decode cX6_readSet 37 = .ok (.iconst 0, 1) := by decide +kernel
theorem dX6_readSet_38 : decode cX6_readSet 38 = .ok (.istore_n 2, 1) := by decide +kernel
theorem dX6_readSet_39 : decode cX6_readSet 39 = .ok (.iload_n 2, 1) := by decide +kernel
theorem dX6_readSet_40 : decode cX6_readSet 40 = .ok (.sipush 600, 3) := by decide +kernel
theorem dX6_readSet_43 : decode cX6_readSet 43 = .ok (.if_icmp .ge 26, 3) := by decide +kernel
theorem dX6_readSet_46 : decode cX6_readSet 46 = .ok (.aload_n 0, 1) := by decide +kernel
theorem dX6_readSet_47 : decode cX6_readSet 47 = .ok (.getfield 57, 3) := by decide +kernel
theorem dX6_readSet_50 : decode cX6_readSet 50 = .ok (.iconst 3, 1) := by decide +kernel
theorem dX6_readSet_51 : decode cX6_readSet 51 = .ok (.if_icmp .eq 18, 3) := by decide +kernel
theorem dX6_readSet_54 : decode cX6_readSet 54 = .ok (.aload_n 0, 1) := by decide +kernel
theorem dX6_readSet_55 : decode cX6_readSet 55 = .ok (.invokevirtual 100, 3) := by decide +kernel
theorem dX6_readSet_58 : decode cX6_readSet 58 = .ok (.ifCond .ne 5, 3) := by decide +kernel
theorem dX6_readSet_61 : decode cX6_readSet 61 = .ok (.iconst 0, 1) := by decide +kernel
theorem dX6_readSet_62 : decode cX6_readSet 62 = .ok (.ireturn, 1) := by decide +kernel
theorem dX6_readSet_63 : decode cX6_readSet 63 = .ok (.iinc 2 1, 3) := by decide +kernel
theorem dX6_readSet_66 : decode cX6_readSet 66 = .ok (.goto (-27), 3) := by decide +kernel
theorem dX6_readSet_69 : decode cX6_readSet 69 = .ok (.aload_n 0, 1) := by decide +kernel
theorem dX6_readSet_70 : decode cX6_readSet 70 = .ok (.getfield 12, 3) := by decide +kernel
theorem dX6_readSet_73 : decode cX6_readSet 73 = .ok (.getfield 103, 3) := by decide +kernel
theorem dX6_readSet_76 : decode cX6_readSet 76 = .ok (.iload_n 1, 1) := by decide +kernel
theorem dX6_readSet_77 : decode cX6_readSet 77 = .ok (.aaload, 1) := by decide +kernel
theorem dX6_readSet_78 : decode cX6_readSet 78 = .ok (.aload_n 0, 1) := by decide +kernel
theorem dX6_readSet_79 : decode cX6_readSet 79 = .ok (.getfield 23, 3) := by decide +kernel
theorem dX6_readSet_82 : decode cX6_readSet 82 = .ok (.invokevirtual 107, 3) := by decide +kernel
theorem dX6_readSet_85 : decode cX6_readSet 85 = .ok (.aload_n 0, 1) := by decide +kernel
theorem dX6_readSet_86 : decode cX6_readSet 86 = .ok (.invokevirtual 81, 3) := by decide +kernel
theorem dX6_readSet_89 : decode cX6_readSet 89 = .ok (.ireturn, 1) := by decide +kernel
theorem dX6_readJoin_0 : decode cX6_readJoin 0 = .ok (.aload_n 0, 1) := by decide +kernel
theorem dX6_readJoin_1 : decode cX6_readJoin 1 = .ok (.iconst 0, 1) := by decide +kernel
theorem dX6_readJoin_2 : decode cX6_readJoin 2 = .ok (.iconst 1, 1) := by decide +kernel
theorem dX6_readJoin_3 : decode cX6_readJoin 3 = .ok (.invokevirtual 73, 3) := by decide +kernel
theorem dX6_readJoin_6 : decode cX6_readJoin 6 = .ok (.ifCond .ne 5, 3) := by decide +kernel
theorem dX6_readJoin_9 : decode cX6_readJoin 9 = .ok (.iconst 0, 1) := by decide +kernel
theorem dX6_readJoin_10 : decode cX6_readJoin 10 = .ok (.ireturn, 1) := by decide +kernel
theorem dX6_readJoin_11 : decode cX6_readJoin 11 = .ok (.aload_n 0, 1) := by decide +kernel
theorem dX6_readJoin_12 : decode cX6_readJoin 12 = .ok (.invokevirtual 77, 3) := by decide +kernel
theorem dX6_readJoin_15 : decode cX6_readJoin 15 = .ok (.istore_n 1, 1) := by decide +kernel
theorem dX6_readJoin_16 : decode cX6_readJoin 16 = .ok (.aload_n 0, 1) := by decide +kernel
theorem dX6_readJoin_17 : decode cX6_readJoin 17 = .ok (.getfield 12, 3) := by decide +kernel
theorem dX6_readJoin_20 : decode cX6_readJoin 20 = .ok (.getfield 111, 3) := by decide +kernel
theorem dX6_readJoin_23 : decode cX6_readJoin 23 = .ok (.iload_n 1, 1) := by decide +kernel
theorem dX6_readJoin_24 : decode cX6_readJoin 24 = .ok (.iaload, 1) := by decide +kernel
theorem dX6_readJoin_25 : decode cX6_readJoin 25 = .ok (.bipush 6, 2) := by decide +kernel
theorem dX6_readJoin_27 : decode cX6_readJoin 27 = .ok (.if_icmp .lt 9, 3) := by decide +kernel
theorem dX6_readJoin_30 : decode cX6_readJoin 30 = .ok (.aload_n 0, 1) := by decide +kernel
theorem dX6_readJoin_31 : decode cX6_readJoin 31 = .ok (.iconst 5, 1) := by decide +kernel
theorem dX6_readJoin_32 : decode cX6_readJoin 32 = .ok (.invokevirtual 69, 3) := by decide +kernel
theorem dX6_readJoin_35 : decode cX6_readJoin 35 = .ok (.ireturn, 1) := by decide +kernel
theorem dX6_readJoin_36 : decode cX6_readJoin 36 = .ok (.aload_n 0, 1) := by decide +kernel
theorem dX6_readJoin_37 : decode cX6_readJoin 37 = .ok (.invokevirtual 50, 3) := by decide +kernel
theorem dX6_readJoin_40 : decode cX6_readJoin 40 = .ok (.aload_n 0, 1) := by decide +kernel
theorem dX6_readJoin_41 : decode cX6_readJoin 41 = .ok (.iconst 0, 1) := by decide +kernel
theorem dX6_readJoin_42 : decode cX6_readJoin 42 = .ok (.bipush 7, 2) := by decide +kernel
theorem dX6_readJoin_44 : decode cX6_readJoin 44 = .ok (.invokevirtual 73, 3) := by decide +kernel
theorem dX6_readJoin_47 : decode cX6_readJoin 47 = .ok (.ifCond .ne 5, 3) := by decide +kernel
theorem dX6_readJoin_50 : decode cX6_readJoin 50 = .ok (.iconst 0, 1) := by decide +kernel
theorem dX6_readJoin_51 : decode cX6_readJoin 51 = .ok (.ireturn, 1) := by decide +kernel
theorem dX6_readJoin_52 : decode cX6_readJoin 52 = .ok (.aload_n 0, 1) := by decide +kernel
theorem dX6_readJoin_53 : decode cX6_readJoin 53 = .ok (.invokevirtual 77, 3) := by decide +kernel
theorem dX6_readJoin_56 : decode cX6_readJoin 56 = .ok (.istore_n 2, 1) := by decide +kernel
theorem dX6_readJoin_57 : decode cX6_readJoin 57 = .ok (.aload_n 0, 1) := by decide +kernel
theorem dX6_readJoin_58 : decode cX6_readJoin 58 = .ok (.invokevirtual 50, 3) := by decide +kernel
theorem dX6_readJoin_61 : decode cX6_readJoin 61 = .ok (.aload_n 0, 1) := by decide +kernel
theorem dX6_readJoin_62 : decode cX6_readJoin 62 = .ok (.getfield 12, 3) := by decide +kernel
theorem dX6_readJoin_65 : decode cX6_readJoin 65 = .ok (.iload_n 1, 1) := by decide +kernel
theorem dX6_readJoin_66 : decode cX6_readJoin 66 = .ok (.aload_n 0, 1) := by decide +kernel
theorem dX6_readJoin_67 : decode cX6_readJoin 67 = .ok (.getfield 12, 3) := by decide +kernel
theorem dX6_readJoin_70 : decode cX6_readJoin 70 = .ok (.getfield 103, 3) := by decide +kernel
theorem dX6_readJoin_73 : decode cX6_readJoin 73 = .ok (.iload_n 2, 1) := by decide +kernel
theorem dX6_readJoin_74 : decode cX6_readJoin 74 = .ok (.aaload, 1) := by decide +kernel
theorem dX6_readJoin_75 : decode cX6_readJoin 75 = .ok (.invokevirtual 114, 3) := by decide +kernel
theorem dX6_readJoin_78 : decode cX6_readJoin 78 = .ok (.aload_n 0, 1) := by decide +kernel
theorem dX6_readJoin_79 : decode cX6_readJoin 79 = .ok (.invokevirtual 81, 3) := by decide +kernel
theorem dX6_readJoin_82 : decode cX6_readJoin 82 = .ok (.ireturn, 1) := by decide +kernel
theorem dX6_readSemicolon_0 : decode cX6_readSemicolon 0 = .ok (.aload_n 0, 1) := by decide +kernel
theorem dX6_readSemicolon_1 : decode cX6_readSemicolon 1 = .ok (.getfield 57, 3) := by decide +kernel
theorem dX6_readSemicolon_4 : decode cX6_readSemicolon 4 = .ok (.iconst 3, 1) := by decide +kernel
theorem dX6_readSemicolon_5 : decode cX6_readSemicolon 5 = .ok (.if_icmp .eq 9, 3) := by decide +kernel
theorem dX6_readSemicolon_8 : decode cX6_readSemicolon 8 = .ok (.aload_n 0, 1) := by decide +kernel
theorem dX6_readSemicolon_9 : decode cX6_readSemicolon 9 = .ok (.iconst 1, 1) := by decide +kernel
theorem dX6_readSemicolon_10 : decode cX6_readSemicolon 10 = .ok (.invokevirtual 69, 3) := by decide +kernel
theorem dX6_readSemicolon_13 : decode cX6_readSemicolon 13 = .ok (.ireturn, 1) := by decide +kernel
theorem dX6_readSemicolon_14 : decode cX6_readSemicolon 14 = .ok (.aload_n 0, 1) := by decide +kernel
theorem dX6_readSemicolon_15 : decode cX6_readSemicolon 15 = .ok (.invokevirtual 50, 3) := by decide +kernel
theorem dX6_readSemicolon_18 : decode cX6_readSemicolon 18 = .ok (.iconst 1, 1) := by decide +kernel
theorem dX6_readSemicolon_19 : decode cX6_readSemicolon 19 = .ok (.ireturn, 1) := by decide +kernel
theorem dX6_readItem_0 : decode cX6_readItem 0 = .ok (.aload_n 0, 1) := by decide +kernel
theorem dX6_readItem_1 : decode cX6_readItem 1 = .ok (.getfield 57, 3) := by decide +kernel
theorem dX6_readItem_4 : decode cX6_readItem 4 = .ok (.iconst 2, 1) := by decide +kernel
theorem dX6_readItem_5 : decode cX6_readItem 5 = .ok (.if_icmp .ne 36, 3) := by decide +kernel
theorem dX6_readItem_8 : decode cX6_readItem 8 = .ok (.aload_n 0, 1) := by decide +kernel
theorem dX6_readItem_9 : decode cX6_readItem 9 = .ok (.getfield 47, 3) := by decide +kernel
theorem dX6_readItem_12 : decode cX6_readItem 12 = .ok (.aload_n 0, 1) := by decide +kernel
theorem dX6_readItem_13 : decode cX6_readItem 13 = .ok (.getfield 118, 3) := by decide +kernel
theorem dX6_readItem_16 : decode cX6_readItem 16 = .ok (.isub, 1) := by decide +kernel
theorem dX6_readItem_17 : decode cX6_readItem 17 = .ok (.iconst 1, 1) := by decide +kernel
theorem dX6_readItem_18 : decode cX6_readItem 18 = .ok (.if_icmp .ne 17, 3) := by decide +kernel
theorem dX6_readItem_21 : decode cX6_readItem 21 = .ok (.aload_n 0, 1) := by decide +kernel
theorem dX6_readItem_22 : decode cX6_readItem 22 = .ok (.getfield 34, 3) := by decide +kernel
theorem dX6_readItem_25 : decode cX6_readItem 25 = .ok (.aload_n 0, 1) := by decide +kernel
theorem dX6_readItem_26 : decode cX6_readItem 26 = .ok (.getfield 118, 3) := by decide +kernel
theorem dX6_readItem_29 : decode cX6_readItem 29 = .ok (.iaload, 1) := by decide +kernel
theorem dX6_readItem_30 : decode cX6_readItem 30 = .ok (.bipush 49, 2) := by decide +kernel
theorem dX6_readItem_32 : decode cX6_readItem 32 = .ok (.if_icmp .eq 54, 3) := by decide +kernel
theorem dX6_readItem_35 : decode cX6_readItem 35 = .ok (.aload_n 0, 1) := by decide +kernel
theorem dX6_readItem_36 : decode cX6_readItem 36 = .ok (.iconst 1, 1) := by decide +kernel
theorem dX6_readItem_37 : decode cX6_readItem 37 = .ok (.invokevirtual 69, 3) := by decide +kernel
theorem dX6_readItem_40 : decode cX6_readItem 40 = .ok (.ireturn, 1) := by decide +kernel
theorem dX6_readItem_41 : decode cX6_readItem 41 = .ok (.aload_n 0, 1) := by decide +kernel
theorem dX6_readItem_42 : decode cX6_readItem 42 = .ok (.getfield 57, 3) := by decide +kernel
theorem dX6_readItem_45 : decode cX6_readItem 45 = .ok (.iconst 1, 1) := by decide +kernel
theorem dX6_readItem_46 : decode cX6_readItem 46 = .ok (.if_icmp .eq 9, 3) := by decide +kernel
theorem dX6_readItem_49 : decode cX6_readItem 49 = .ok (.aload_n 0, 1) := by decide +kernel
theorem dX6_readItem_50 : decode cX6_readItem 50 = .ok (.iconst 1, 1) := by decide +kernel
theorem dX6_readItem_51 : decode cX6_readItem 51 = .ok (.invokevirtual 69, 3) := by decide +kernel
theorem dX6_readItem_54 : decode cX6_readItem 54 = .ok (.ireturn, 1) := by decide +kernel
theorem dX6_readItem_55 : decode cX6_readItem 55 = .ok (.aload_n 0, 1) := by decide +kernel
theorem dX6_readItem_56 : decode cX6_readItem 56 = .ok (.invokevirtual 121, 3) := by decide +kernel
theorem dX6_readItem_59 : decode cX6_readItem 59 = .ok (.ifCond .ne 9, 3) := by decide +kernel
theorem dX6_readItem_62 : decode cX6_readItem 62 = .ok (.aload_n 0, 1) := by decide +kernel
theorem dX6_readItem_63 : decode cX6_readItem 63 = .ok (.iconst 3, 1) := by decide +kernel
theorem dX6_readItem_64 : decode cX6_readItem 64 = .ok (.invokevirtual 69, 3) := by decide +kernel
theorem dX6_readItem_67 : decode cX6_readItem 67 = .ok (.ireturn, 1) := by decide +kernel
theorem dX6_readItem_68 : decode cX6_readItem 68 = .ok (.aload_n 0, 1) := by decide +kernel
theorem dX6_readItem_69 : decode cX6_readItem 69 = .ok (.getfield 23, 3) := by decide +kernel
theorem dX6_readItem_72 : decode cX6_readItem 72 = .ok (.getfield 124, 3) := by decide +kernel
theorem dX6_readItem_75 : decode cX6_readItem 75 = .ok (.bipush 60, 2) := by decide +kernel
theorem dX6_readItem_77 : decode cX6_readItem 77 = .ok (.if_icmp .le 9, 3) := by decide +kernel
theorem dX6_readItem_80 : decode cX6_readItem 80 = .ok (.aload_n 0, 1) := by decide +kernel
theorem dX6_readItem_81 : decode cX6_readItem 81 = .ok (.iconst 4, 1) := by decide +kernel
theorem dX6_readItem_82 : decode cX6_readItem 82 = .ok (.invokevirtual 69, 3) := by decide +kernel
theorem dX6_readItem_85 : decode cX6_readItem 85 = .ok (.ireturn, 1) := by decide +kernel
theorem dX6_readItem_86 : decode cX6_readItem 86 = .ok (.aload_n 0, 1) := by decide +kernel
theorem dX6_readItem_87 : decode cX6_readItem 87 = .ok (.invokevirtual 50, 3) := by decide +kernel
theorem dX6_readItem_90 : decode cX6_readItem 90 = .ok (.iconst 1, 1) := by decide +kernel
theorem dX6_readItem_91 : decode cX6_readItem 91 = .ok (.ireturn, 1) := by decide +kernel
theorem dX6_multiplyByToken_0 : decode cX6_multiplyByToken 0 = .ok (.aload_n 0, 1) := by decide +kernel
theorem dX6_multiplyByToken_1 : decode cX6_multiplyByToken 1 = .ok (.getfield 118, 3) := by decide +kernel
theorem dX6_multiplyByToken_4 : decode cX6_multiplyByToken 4 = .ok (.istore_n 1, 1) := by decide +kernel
theorem dX6_multiplyByToken_5 : decode cX6_multiplyByToken 5 = .ok (.iload_n 1, 1) := by decide +kernel
theorem dX6_multiplyByToken_6 : decode cX6_multiplyByToken 6 = .ok (.aload_n 0, 1) := by decide +kernel
theorem dX6_multiplyByToken_7 : decode cX6_multiplyByToken 7 = .ok (.getfield 47, 3) := by decide +kernel
theorem dX6_multiplyByToken_10 : decode cX6_multiplyByToken 10 = .ok (.if_icmp .ge 41, 3) := by decide +kernel
theorem dX6_multiplyByToken_13 : decode cX6_multiplyByToken 13 = .ok (.aload_n 0, 1) := by decide +kernel
theorem dX6_multiplyByToken_14 : decode cX6_multiplyByToken 14 = .ok (.getfield 34, 3) := by decide +kernel
theorem dX6_multiplyByToken_17 : decode cX6_multiplyByToken 17 = .ok (.iload_n 1, 1) := by decide +kernel
theorem dX6_multiplyByToken_18 : decode cX6_multiplyByToken 18 = .ok (.iaload, 1) := by decide +kernel
theorem dX6_multiplyByToken_19 : decode cX6_multiplyByToken 19 = .ok (.aload_n 0, 1) := by decide +kernel
theorem dX6_multiplyByToken_20 : decode cX6_multiplyByToken 20 = .ok (.getfield 12, 3) := by decide +kernel
theorem dX6_multiplyByToken_23 : decode cX6_multiplyByToken 23 = .ok (.getfield 125, 3) := by decide +kernel
theorem dX6_multiplyByToken_26 : decode cX6_multiplyByToken 26 = .ok (.invokestatic 127, 3) := by decide +kernel
theorem dX6_multiplyByToken_29 : decode cX6_multiplyByToken 29 = .ok (.istore_n 2, 1) := by decide +kernel
theorem dX6_multiplyByToken_30 : decode cX6_multiplyByToken 30 = .ok (.iload_n 2, 1) := by decide +kernel
theorem dX6_multiplyByToken_31 : decode cX6_multiplyByToken 31 = .ok (.iconst (-1), 1) := by decide +kernel
theorem dX6_multiplyByToken_32 : decode cX6_multiplyByToken 32 = .ok (.if_icmp .ne 5, 3) := by decide +kernel
theorem dX6_multiplyByToken_35 : decode cX6_multiplyByToken 35 = .ok (.iconst 0, 1) := by decide +kernel
theorem dX6_multiplyByToken_36 : decode cX6_multiplyByToken 36 = .ok (.ireturn, 1) := by decide +kernel
theorem dX6_multiplyByToken_37 : decode cX6_multiplyByToken 37 = .ok (.aload_n 0, 1) := by decide +kernel
theorem dX6_multiplyByToken_38 : decode cX6_multiplyByToken 38 = .ok (.getfield 23, 3) := by decide +kernel
theorem dX6_multiplyByToken_41 : decode cX6_multiplyByToken 41 = .ok (.iload_n 2, 1) := by decide +kernel
theorem dX6_multiplyByToken_42 : decode cX6_multiplyByToken 42 = .ok (.invokevirtual 130, 3) := by decide +kernel
theorem dX6_multiplyByToken_45 : decode cX6_multiplyByToken 45 = .ok (.iinc 1 1, 3) := by decide +kernel
theorem dX6_multiplyByToken_48 : decode cX6_multiplyByToken 48 = .ok (.goto (-43), 3) := by decide +kernel
theorem dX6_multiplyByToken_51 : decode cX6_multiplyByToken 51 = .ok (.iconst 1, 1) := by decide +kernel
theorem dX6_multiplyByToken_52 : decode cX6_multiplyByToken 52 = .ok (.ireturn, 1) := by decide +kernel
theorem dX6_isKeyword_0 : decode cX6_isKeyword 0 = .ok (.aload_n 1, 1) := by decide +kernel
theorem dX6_isKeyword_1 : decode cX6_isKeyword 1 = .ok (.invokevirtual 133, 3) := by decide +kernel
theorem dX6_isKeyword_4 : decode cX6_isKeyword 4 = .ok (.istore_n 2, 1) := by decide +kernel
theorem dX6_isKeyword_5 : decode cX6_isKeyword 5 = .ok (.aload_n 0, 1) := by decide +kernel
theorem dX6_isKeyword_6 : decode cX6_isKeyword 6 = .ok (.getfield 57, 3) := by decide +kernel
theorem dX6_isKeyword_9 : decode cX6_isKeyword 9 = .ok (.iconst 1, 1) := by decide +kernel
theorem dX6_isKeyword_10 : decode cX6_isKeyword 10 = .ok (.if_icmp .ne 16, 3) := by decide +kernel
theorem dX6_isKeyword_13 : decode cX6_isKeyword 13 = .ok (.aload_n 0, 1) := by decide +kernel
theorem dX6_isKeyword_14 : decode cX6_isKeyword 14 = .ok (.getfield 47, 3) := by decide +kernel
theorem dX6_isKeyword_17 : decode cX6_isKeyword 17 = .ok (.aload_n 0, 1) := by decide +kernel
theorem dX6_isKeyword_18 : decode cX6_isKeyword 18 = .ok (.getfield 118, 3) := by decide +kernel
theorem dX6_isKeyword_21 : decode cX6_isKeyword 21 = .ok (.isub, 1) := by decide +kernel
theorem dX6_isKeyword_22 : decode cX6_isKeyword 22 = .ok (.iload_n 2, 1) := by decide +kernel
theorem dX6_isKeyword_23 : decode cX6_isKeyword 23 = .ok (.if_icmp .eq 5, 3) := by decide +kernel
theorem dX6_isKeyword_26 : decode cX6_isKeyword 26 = .ok (.iconst 0, 1) := by decide +kernel
theorem dX6_isKeyword_27 : decode cX6_isKeyword 27 = .ok (.ireturn, 1) := by decide +kernel
theorem dX6_isKeyword_28 : decode cX6_isKeyword 28 = .ok (.iconst 0, 1) := by decide +kernel
theorem dX6_isKeyword_29 : decode cX6_isKeyword 29 = .ok (.istore_n 3, 1) := by decide +kernel
theorem dX6_isKeyword_30 : decode cX6_isKeyword 30 = .ok (.iload_n 3, 1) := by decide +kernel
theorem dX6_isKeyword_31 : decode cX6_isKeyword 31 = .ok (.iload_n 2, 1) := by decide +kernel
theorem dX6_isKeyword_32 : decode cX6_isKeyword 32 = .ok (.if_icmp .ge 30, 3) := by decide +kernel
theorem dX6_isKeyword_35 : decode cX6_isKeyword 35 = .ok (.aload_n 0, 1) := by decide +kernel
theorem dX6_isKeyword_36 : decode cX6_isKeyword 36 = .ok (.getfield 34, 3) := by decide +kernel
theorem dX6_isKeyword_39 : decode cX6_isKeyword 39 = .ok (.aload_n 0, 1) := by decide +kernel
theorem dX6_isKeyword_40 : decode cX6_isKeyword 40 = .ok (.getfield 118, 3) := by decide +kernel
theorem dX6_isKeyword_43 : decode cX6_isKeyword 43 = .ok (.iload_n 3, 1) := by decide +kernel
theorem dX6_isKeyword_44 : decode cX6_isKeyword 44 = .ok (.iadd, 1) := by decide +kernel
theorem dX6_isKeyword_45 : decode cX6_isKeyword 45 = .ok (.iaload, 1) := by decide +kernel
theorem dX6_isKeyword_46 : decode cX6_isKeyword 46 = .ok (.aload_n 1, 1) := by decide +kernel
theorem dX6_isKeyword_47 : decode cX6_isKeyword 47 = .ok (.iload_n 3, 1) := by decide +kernel
theorem dX6_isKeyword_48 : decode cX6_isKeyword 48 = .ok (.invokevirtual 137, 3) := by decide +kernel
theorem dX6_isKeyword_51 : decode cX6_isKeyword 51 = .ok (.if_icmp .eq 5, 3) := by decide +kernel
theorem dX6_isKeyword_54 : decode cX6_isKeyword 54 = .ok (.iconst 0, 1) := by decide +kernel
theorem dX6_isKeyword_55 : decode cX6_isKeyword 55 = .ok (.ireturn, 1) := by decide +kernel
theorem dX6_isKeyword_56 : decode cX6_isKeyword 56 = .ok (.iinc 3 1, 3) := by decide +kernel
theorem dX6_isKeyword_59 : decode cX6_isKeyword 59 = .ok (.goto (-29), 3) := by decide +kernel
theorem dX6_isKeyword_62 : decode cX6_isKeyword 62 = .ok (.iconst 1, 1) := by decide +kernel
theorem dX6_isKeyword_63 : decode cX6_isKeyword 63 = .ok (.ireturn, 1) := by decide +kernel
theorem dX6_isNumberIn_0 : decode cX6_isNumberIn 0 = .ok (.aload_n 0, 1) := by decide +kernel
theorem dX6_isNumberIn_1 : decode cX6_isNumberIn 1 = .ok (.getfield 57, 3) := by decide +kernel
theorem dX6_isNumberIn_4 : decode cX6_isNumberIn 4 = .ok (.iconst 2, 1) := by decide +kernel
theorem dX6_isNumberIn_5 : decode cX6_isNumberIn 5 = .ok (.if_icmp .eq 9, 3) := by decide +kernel
theorem dX6_isNumberIn_8 : decode cX6_isNumberIn 8 = .ok (.aload_n 0, 1) := by decide +kernel
theorem dX6_isNumberIn_9 : decode cX6_isNumberIn 9 = .ok (.iconst 1, 1) := by decide +kernel
theorem dX6_isNumberIn_10 : decode cX6_isNumberIn 10 = .ok (.invokevirtual 69, 3) := by decide +kernel
theorem dX6_isNumberIn_13 : decode cX6_isNumberIn 13 = .ok (.ireturn, 1) := by decide +kernel
theorem dX6_isNumberIn_14 : decode cX6_isNumberIn 14 = .ok (.aload_n 0, 1) := by decide +kernel
theorem dX6_isNumberIn_15 : decode cX6_isNumberIn 15 = .ok (.invokevirtual 77, 3) := by decide +kernel
theorem dX6_isNumberIn_18 : decode cX6_isNumberIn 18 = .ok (.istore_n 3, 1) := by decide +kernel
theorem dX6_isNumberIn_19 : decode cX6_isNumberIn 19 = .ok (.iload_n 3, 1) := by decide +kernel
theorem dX6_isNumberIn_20 : decode cX6_isNumberIn 20 = .ok (.iload_n 1, 1) := by decide +kernel
theorem dX6_isNumberIn_21 : decode cX6_isNumberIn 21 = .ok (.if_icmp .lt 8, 3) := by decide +kernel
theorem dX6_isNumberIn_24 : decode cX6_isNumberIn 24 = .ok (.iload_n 3, 1) := by decide +kernel
theorem dX6_isNumberIn_25 : decode cX6_isNumberIn 25 = .ok (.iload_n 2, 1) := by decide +kernel
theorem dX6_isNumberIn_26 : decode cX6_isNumberIn 26 = .ok (.if_icmp .le 9, 3) := by decide +kernel
theorem dX6_isNumberIn_29 : decode cX6_isNumberIn 29 = .ok (.aload_n 0, 1) := by decide +kernel
theorem dX6_isNumberIn_30 : decode cX6_isNumberIn 30 = .ok (.iconst 2, 1) := by decide +kernel
theorem dX6_isNumberIn_31 : decode cX6_isNumberIn 31 = .ok (.invokevirtual 69, 3) := by decide +kernel
theorem dX6_isNumberIn_34 : decode cX6_isNumberIn 34 = .ok (.ireturn, 1) := by decide +kernel
theorem dX6_isNumberIn_35 : decode cX6_isNumberIn 35 = .ok (.iconst 1, 1) := by decide +kernel
theorem dX6_isNumberIn_36 : decode cX6_isNumberIn 36 = .ok (.ireturn, 1) := by decide +kernel
theorem dX6_numberValue_0 : decode cX6_numberValue 0 = .ok (.iconst 0, 1) := by decide +kernel
theorem dX6_numberValue_1 : decode cX6_numberValue 1 = .ok (.istore_n 1, 1) := by decide +kernel
theorem dX6_numberValue_2 : decode cX6_numberValue 2 = .ok (.aload_n 0, 1) := by decide +kernel
theorem dX6_numberValue_3 : decode cX6_numberValue 3 = .ok (.getfield 118, 3) := by decide +kernel
theorem dX6_numberValue_6 : decode cX6_numberValue 6 = .ok (.istore_n 2, 1) := by decide +kernel
theorem dX6_numberValue_7 : decode cX6_numberValue 7 = .ok (.iload_n 2, 1) := by decide +kernel
theorem dX6_numberValue_8 : decode cX6_numberValue 8 = .ok (.aload_n 0, 1) := by decide +kernel
theorem dX6_numberValue_9 : decode cX6_numberValue 9 = .ok (.getfield 47, 3) := by decide +kernel
theorem dX6_numberValue_12 : decode cX6_numberValue 12 = .ok (.if_icmp .ge 24, 3) := by decide +kernel
theorem dX6_numberValue_15 : decode cX6_numberValue 15 = .ok (.bipush 10, 2) := by decide +kernel
theorem dX6_numberValue_17 : decode cX6_numberValue 17 = .ok (.iload_n 1, 1) := by decide +kernel
theorem dX6_numberValue_18 : decode cX6_numberValue 18 = .ok (.imul, 1) := by decide +kernel
theorem dX6_numberValue_19 : decode cX6_numberValue 19 = .ok (.aload_n 0, 1) := by decide +kernel
theorem dX6_numberValue_20 : decode cX6_numberValue 20 = .ok (.getfield 34, 3) := by decide +kernel
theorem dX6_numberValue_23 : decode cX6_numberValue 23 = .ok (.iload_n 2, 1) := by decide +kernel
theorem dX6_numberValue_24 : decode cX6_numberValue 24 = .ok (.iaload, 1) := by decide +kernel
theorem dX6_numberValue_25 : decode cX6_numberValue 25 = .ok (.iadd, 1) := by decide +kernel
theorem dX6_numberValue_26 : decode cX6_numberValue 26 = .ok (.bipush 48, 2) := by decide +kernel
theorem dX6_numberValue_28 : decode cX6_numberValue 28 = .ok (.isub, 1) := by decide +kernel
theorem dX6_numberValue_29 : decode cX6_numberValue 29 = .ok (.istore_n 1, 1) := by decide +kernel
theorem dX6_numberValue_30 : decode cX6_numberValue 30 = .ok (.iinc 2 1, 3) := by decide +kernel
theorem dX6_numberValue_33 : decode cX6_numberValue 33 = .ok (.goto (-26), 3) := by decide +kernel
theorem dX6_numberValue_36 : decode cX6_numberValue 36 = .ok (.iload_n 1, 1) := by decide +kernel
theorem dX6_numberValue_37 : decode cX6_numberValue 37 = .ok (.ireturn, 1) := by decide +kernel
theorem dX6_fail_0 : decode cX6_fail 0 = .ok (.aload_n 0, 1) := by decide +kernel
theorem dX6_fail_1 : decode cX6_fail 1 = .ok (.iload_n 1, 1) := by decide +kernel
theorem dX6_fail_2 : decode cX6_fail 2 = .ok (.putfield 27, 3) := by decide +kernel
theorem dX6_fail_5 : decode cX6_fail 5 = .ok (.aload_n 0, 1) := by decide +kernel
theorem dX6_fail_6 : decode cX6_fail 6 = .ok (.aload_n 0, 1) := by decide +kernel
theorem dX6_fail_7 : decode cX6_fail 7 = .ok (.getfield 118, 3) := by decide +kernel
theorem dX6_fail_10 : decode cX6_fail 10 = .ok (.putfield 31, 3) := by decide +kernel
theorem dX6_fail_13 : decode cX6_fail 13 = .ok (.iconst 0, 1) := by decide +kernel
theorem dX6_fail_14 : decode cX6_fail 14 = .ok (.ireturn, 1) := by decide +kernel
theorem dX6_advance_0 : decode cX6_advance 0 = .ok (.aload_n 0, 1) := by decide +kernel
theorem dX6_advance_1 : decode cX6_advance 1 = .ok (.aload_n 0, 1) := by decide +kernel
theorem dX6_advance_2 : decode cX6_advance 2 = .ok (.getfield 47, 3) := by decide +kernel
theorem dX6_advance_5 : decode cX6_advance 5 = .ok (.putfield 118, 3) := by decide +kernel
theorem dX6_advance_8 : decode cX6_advance 8 = .ok (.aload_n 0, 1) := by decide +kernel
theorem dX6_advance_9 : decode cX6_advance 9 = .ok (.getfield 118, 3) := by decide +kernel
theorem dX6_advance_12 : decode cX6_advance 12 = .ok (.aload_n 0, 1) := by decide +kernel
theorem dX6_advance_13 : decode cX6_advance 13 = .ok (.getfield 44, 3) := by decide +kernel
theorem dX6_advance_16 : decode cX6_advance 16 = .ok (.if_icmp .ge 44, 3) := by decide +kernel
theorem dX6_advance_19 : decode cX6_advance 19 = .ok (.aload_n 0, 1) := by decide +kernel
theorem dX6_advance_20 : decode cX6_advance 20 = .ok (.getfield 34, 3) := by decide +kernel
theorem dX6_advance_23 : decode cX6_advance 23 = .ok (.aload_n 0, 1) := by decide +kernel
theorem dX6_advance_24 : decode cX6_advance 24 = .ok (.getfield 118, 3) := by decide +kernel
theorem dX6_advance_27 : decode cX6_advance 27 = .ok (.iaload, 1) := by decide +kernel
theorem dX6_advance_28 : decode cX6_advance 28 = .ok (.bipush 32, 2) := by decide +kernel
theorem dX6_advance_30 : decode cX6_advance 30 = .ok (.if_icmp .eq 17, 3) := by decide +kernel
theorem dX6_advance_33 : decode cX6_advance 33 = .ok (.aload_n 0, 1) := by decide +kernel
theorem dX6_advance_34 : decode cX6_advance 34 = .ok (.getfield 34, 3) := by decide +kernel
theorem dX6_advance_37 : decode cX6_advance 37 = .ok (.aload_n 0, 1) := by decide +kernel
theorem dX6_advance_38 : decode cX6_advance 38 = .ok (.getfield 118, 3) := by decide +kernel
theorem dX6_advance_41 : decode cX6_advance 41 = .ok (.iaload, 1) := by decide +kernel
theorem dX6_advance_42 : decode cX6_advance 42 = .ok (.bipush 10, 2) := by decide +kernel
theorem dX6_advance_44 : decode cX6_advance 44 = .ok (.if_icmp .ne 16, 3) := by decide +kernel
theorem dX6_advance_47 : decode cX6_advance 47 = .ok (.aload_n 0, 1) := by decide +kernel
theorem dX6_advance_48 : decode cX6_advance 48 = .ok (.dup, 1) := by decide +kernel
theorem dX6_advance_49 : decode cX6_advance 49 = .ok (.getfield 118, 3) := by decide +kernel
theorem dX6_advance_52 : decode cX6_advance 52 = .ok (.iconst 1, 1) := by decide +kernel
theorem dX6_advance_53 : decode cX6_advance 53 = .ok (.iadd, 1) := by decide +kernel
theorem dX6_advance_54 : decode cX6_advance 54 = .ok (.putfield 118, 3) := by decide +kernel
theorem dX6_advance_57 : decode cX6_advance 57 = .ok (.goto (-49), 3) := by decide +kernel
theorem dX6_advance_60 : decode cX6_advance 60 = .ok (.aload_n 0, 1) := by decide +kernel
theorem dX6_advance_61 : decode cX6_advance 61 = .ok (.aload_n 0, 1) := by decide +kernel
theorem dX6_advance_62 : decode cX6_advance 62 = .ok (.getfield 118, 3) := by decide +kernel
theorem dX6_advance_65 : decode cX6_advance 65 = .ok (.putfield 47, 3) := by decide +kernel
theorem dX6_advance_68 : decode cX6_advance 68 = .ok (.aload_n 0, 1) := by decide +kernel
theorem dX6_advance_69 : decode cX6_advance 69 = .ok (.getfield 118, 3) := by decide +kernel
theorem dX6_advance_72 : decode cX6_advance 72 = .ok (.aload_n 0, 1) := by decide +kernel
theorem dX6_advance_73 : decode cX6_advance 73 = .ok (.getfield 44, 3) := by decide +kernel
theorem dX6_advance_76 : decode cX6_advance 76 = .ok (.if_icmp .lt 11, 3) := by decide +kernel
theorem dX6_advance_79 : decode cX6_advance 79 = .ok (.aload_n 0, 1) := by decide +kernel
theorem dX6_advance_80 : decode cX6_advance 80 = .ok (.iconst 0, 1) := by decide +kernel
theorem dX6_advance_81 : decode cX6_advance 81 = .ok (.putfield 57, 3) := by decide +kernel
theorem dX6_advance_84 : decode cX6_advance 84 = .ok (.goto 195, 3) := by decide +kernel
theorem dX6_advance_87 : decode cX6_advance 87 = .ok (.aload_n 0, 1) := by decide +kernel
theorem dX6_advance_88 : decode cX6_advance 88 = .ok (.getfield 34, 3) := by decide +kernel
theorem dX6_advance_91 : decode cX6_advance 91 = .ok (.aload_n 0, 1) := by decide +kernel
theorem dX6_advance_92 : decode cX6_advance 92 = .ok (.getfield 118, 3) := by decide +kernel
theorem dX6_advance_95 : decode cX6_advance 95 = .ok (.iaload, 1) := by decide +kernel
theorem dX6_advance_96 : decode cX6_advance 96 = .ok (.invokestatic 141, 3) := by decide +kernel
theorem dX6_advance_99 : decode cX6_advance 99 = .ok (.ifCond .eq 68, 3) := by decide +kernel
theorem dX6_advance_102 : decode cX6_advance 102 = .ok (.aload_n 0, 1) := by decide +kernel
theorem dX6_advance_103 : decode cX6_advance 103 = .ok (.getfield 47, 3) := by decide +kernel
theorem dX6_advance_106 : decode cX6_advance 106 = .ok (.aload_n 0, 1) := by decide +kernel
theorem dX6_advance_107 : decode cX6_advance 107 = .ok (.getfield 44, 3) := by decide +kernel
theorem dX6_advance_110 : decode cX6_advance 110 = .ok (.if_icmp .ge 31, 3) := by decide +kernel
theorem dX6_advance_113 : decode cX6_advance 113 = .ok (.aload_n 0, 1) := by decide +kernel
theorem dX6_advance_114 : decode cX6_advance 114 = .ok (.getfield 34, 3) := by decide +kernel
theorem dX6_advance_117 : decode cX6_advance 117 = .ok (.aload_n 0, 1) := by decide +kernel
theorem dX6_advance_118 : decode cX6_advance 118 = .ok (.getfield 47, 3) := by decide +kernel
theorem dX6_advance_121 : decode cX6_advance 121 = .ok (.iaload, 1) := by decide +kernel
theorem dX6_advance_122 : decode cX6_advance 122 = .ok (.invokestatic 141, 3) := by decide +kernel
theorem dX6_advance_125 : decode cX6_advance 125 = .ok (.ifCond .eq 16, 3) := by decide +kernel
theorem dX6_advance_128 : decode cX6_advance 128 = .ok (.aload_n 0, 1) := by decide +kernel
theorem dX6_advance_129 : decode cX6_advance 129 = .ok (.dup, 1) := by decide +kernel
theorem dX6_advance_130 : decode cX6_advance 130 = .ok (.getfield 47, 3) := by decide +kernel
theorem dX6_advance_133 : decode cX6_advance 133 = .ok (.iconst 1, 1) := by decide +kernel
theorem dX6_advance_134 : decode cX6_advance 134 = .ok (.iadd, 1) := by decide +kernel
theorem dX6_advance_135 : decode cX6_advance 135 = .ok (.putfield 47, 3) := by decide +kernel
theorem dX6_advance_138 : decode cX6_advance 138 = .ok (.goto (-36), 3) := by decide +kernel
theorem dX6_advance_141 : decode cX6_advance 141 = .ok (.aload_n 0, 1) := by decide +kernel
theorem dX6_advance_142 : decode cX6_advance 142 = .ok (.aload_n 0, 1) := by decide +kernel
theorem dX6_advance_143 : decode cX6_advance 143 = .ok (.getfield 47, 3) := by decide +kernel
theorem dX6_advance_146 : decode cX6_advance 146 = .ok (.aload_n 0, 1) := by decide +kernel
theorem dX6_advance_147 : decode cX6_advance 147 = .ok (.getfield 118, 3) := by decide +kernel
theorem dX6_advance_150 : decode cX6_advance 150 = .ok (.isub, 1) := by decide +kernel
theorem dX6_advance_151 : decode cX6_advance 151 = .ok (.bipush 60, 2) := by decide +kernel
theorem dX6_advance_153 : decode cX6_advance 153 = .ok (.if_icmp .le 7, 3) := by decide +kernel
theorem dX6_advance_156 : decode cX6_advance 156 = .ok (.iconst 4, 1) := by decide +kernel
theorem dX6_advance_157 : decode cX6_advance 157 = .ok (.goto 4, 3) := by decide +kernel
theorem dX6_advance_160 : decode cX6_advance 160 = .ok (.iconst 1, 1) := by decide +kernel
theorem dX6_advance_161 : decode cX6_advance 161 = .ok (.putfield 57, 3) := by decide +kernel
theorem dX6_advance_164 : decode cX6_advance 164 = .ok (.goto 115, 3) := by decide +kernel
theorem dX6_advance_167 : decode cX6_advance 167 = .ok (.aload_n 0, 1) := by decide +kernel
theorem dX6_advance_168 : decode cX6_advance 168 = .ok (.getfield 34, 3) := by decide +kernel
theorem dX6_advance_171 : decode cX6_advance 171 = .ok (.aload_n 0, 1) := by decide +kernel
theorem dX6_advance_172 : decode cX6_advance 172 = .ok (.getfield 118, 3) := by decide +kernel
theorem dX6_advance_175 : decode cX6_advance 175 = .ok (.iaload, 1) := by decide +kernel
theorem dX6_advance_176 : decode cX6_advance 176 = .ok (.invokestatic 144, 3) := by decide +kernel
theorem dX6_advance_179 : decode cX6_advance 179 = .ok (.ifCond .eq 67, 3) := by decide +kernel
theorem dX6_advance_182 : decode cX6_advance 182 = .ok (.aload_n 0, 1) := by decide +kernel
theorem dX6_advance_183 : decode cX6_advance 183 = .ok (.getfield 47, 3) := by decide +kernel
theorem dX6_advance_186 : decode cX6_advance 186 = .ok (.aload_n 0, 1) := by decide +kernel
theorem dX6_advance_187 : decode cX6_advance 187 = .ok (.getfield 44, 3) := by decide +kernel
theorem dX6_advance_190 : decode cX6_advance 190 = .ok (.if_icmp .ge 31, 3) := by decide +kernel
theorem dX6_advance_193 : decode cX6_advance 193 = .ok (.aload_n 0, 1) := by decide +kernel
theorem dX6_advance_194 : decode cX6_advance 194 = .ok (.getfield 34, 3) := by decide +kernel
theorem dX6_advance_197 : decode cX6_advance 197 = .ok (.aload_n 0, 1) := by decide +kernel
theorem dX6_advance_198 : decode cX6_advance 198 = .ok (.getfield 47, 3) := by decide +kernel
theorem dX6_advance_201 : decode cX6_advance 201 = .ok (.iaload, 1) := by decide +kernel
theorem dX6_advance_202 : decode cX6_advance 202 = .ok (.invokestatic 144, 3) := by decide +kernel
theorem dX6_advance_205 : decode cX6_advance 205 = .ok (.ifCond .eq 16, 3) := by decide +kernel
theorem dX6_advance_208 : decode cX6_advance 208 = .ok (.aload_n 0, 1) := by decide +kernel
theorem dX6_advance_209 : decode cX6_advance 209 = .ok (.dup, 1) := by decide +kernel
theorem dX6_advance_210 : decode cX6_advance 210 = .ok (.getfield 47, 3) := by decide +kernel
theorem dX6_advance_213 : decode cX6_advance 213 = .ok (.iconst 1, 1) := by decide +kernel
theorem dX6_advance_214 : decode cX6_advance 214 = .ok (.iadd, 1) := by decide +kernel
theorem dX6_advance_215 : decode cX6_advance 215 = .ok (.putfield 47, 3) := by decide +kernel
theorem dX6_advance_218 : decode cX6_advance 218 = .ok (.goto (-36), 3) := by decide +kernel
theorem dX6_advance_221 : decode cX6_advance 221 = .ok (.aload_n 0, 1) := by decide +kernel
theorem dX6_advance_222 : decode cX6_advance 222 = .ok (.aload_n 0, 1) := by decide +kernel
theorem dX6_advance_223 : decode cX6_advance 223 = .ok (.getfield 47, 3) := by decide +kernel
theorem dX6_advance_226 : decode cX6_advance 226 = .ok (.aload_n 0, 1) := by decide +kernel
theorem dX6_advance_227 : decode cX6_advance 227 = .ok (.getfield 118, 3) := by decide +kernel
theorem dX6_advance_230 : decode cX6_advance 230 = .ok (.isub, 1) := by decide +kernel
theorem dX6_advance_231 : decode cX6_advance 231 = .ok (.iconst 2, 1) := by decide +kernel
theorem dX6_advance_232 : decode cX6_advance 232 = .ok (.if_icmp .le 7, 3) := by decide +kernel
theorem dX6_advance_235 : decode cX6_advance 235 = .ok (.iconst 4, 1) := by decide +kernel
theorem dX6_advance_236 : decode cX6_advance 236 = .ok (.goto 4, 3) := by decide +kernel
theorem dX6_advance_239 : decode cX6_advance 239 = .ok (.iconst 2, 1) := by decide +kernel
theorem dX6_advance_240 : decode cX6_advance 240 = .ok (.putfield 57, 3) := by decide +kernel
theorem dX6_advance_243 : decode cX6_advance 243 = .ok (.goto 36, 3) := by decide +kernel
theorem dX6_advance_246 : decode cX6_advance 246 = .ok (.aload_n 0, 1) := by decide +kernel
theorem dX6_advance_247 : decode cX6_advance 247 = .ok (.aload_n 0, 1) := by decide +kernel
theorem dX6_advance_248 : decode cX6_advance 248 = .ok (.getfield 34, 3) := by decide +kernel
theorem dX6_advance_251 : decode cX6_advance 251 = .ok (.aload_n 0, 1) := by decide +kernel
theorem dX6_advance_252 : decode cX6_advance 252 = .ok (.getfield 118, 3) := by decide +kernel
theorem dX6_advance_255 : decode cX6_advance 255 = .ok (.iaload, 1) := by decide +kernel
theorem dX6_advance_256 : decode cX6_advance 256 = .ok (.bipush 59, 2) := by decide +kernel
theorem dX6_advance_258 : decode cX6_advance 258 = .ok (.if_icmp .ne 7, 3) := by decide +kernel
theorem dX6_advance_261 : decode cX6_advance 261 = .ok (.iconst 3, 1) := by decide +kernel
theorem dX6_advance_262 : decode cX6_advance 262 = .ok (.goto 4, 3) := by decide +kernel
theorem dX6_advance_265 : decode cX6_advance 265 = .ok (.iconst 4, 1) := by decide +kernel
theorem dX6_advance_266 : decode cX6_advance 266 = .ok (.putfield 57, 3) := by decide +kernel
theorem dX6_advance_269 : decode cX6_advance 269 = .ok (.aload_n 0, 1) := by decide +kernel
theorem dX6_advance_270 : decode cX6_advance 270 = .ok (.dup, 1) := by decide +kernel
theorem dX6_advance_271 : decode cX6_advance 271 = .ok (.getfield 47, 3) := by decide +kernel
theorem dX6_advance_274 : decode cX6_advance 274 = .ok (.iconst 1, 1) := by decide +kernel
theorem dX6_advance_275 : decode cX6_advance 275 = .ok (.iadd, 1) := by decide +kernel
theorem dX6_advance_276 : decode cX6_advance 276 = .ok (.putfield 47, 3) := by decide +kernel
theorem dX6_advance_279 : decode cX6_advance 279 = .ok (.return_, 1) := by decide +kernel
theorem dX6_isLetter_0 : decode cX6_isLetter 0 = .ok (.iload_n 0, 1) := by decide +kernel
theorem dX6_isLetter_1 : decode cX6_isLetter 1 = .ok (.bipush 97, 2) := by decide +kernel
theorem dX6_isLetter_3 : decode cX6_isLetter 3 = .ok (.if_icmp .lt 9, 3) := by decide +kernel
theorem dX6_isLetter_6 : decode cX6_isLetter 6 = .ok (.iload_n 0, 1) := by decide +kernel
theorem dX6_isLetter_7 : decode cX6_isLetter 7 = .ok (.bipush 122, 2) := by decide +kernel
theorem dX6_isLetter_9 : decode cX6_isLetter 9 = .ok (.if_icmp .le 15, 3) := by decide +kernel
theorem dX6_isLetter_12 : decode cX6_isLetter 12 = .ok (.iload_n 0, 1) := by decide +kernel
theorem dX6_isLetter_13 : decode cX6_isLetter 13 = .ok (.bipush 65, 2) := by decide +kernel
theorem dX6_isLetter_15 : decode cX6_isLetter 15 = .ok (.if_icmp .lt 13, 3) := by decide +kernel
theorem dX6_isLetter_18 : decode cX6_isLetter 18 = .ok (.iload_n 0, 1) := by decide +kernel
theorem dX6_isLetter_19 : decode cX6_isLetter 19 = .ok (.bipush 90, 2) := by decide +kernel
theorem dX6_isLetter_21 : decode cX6_isLetter 21 = .ok (.if_icmp .gt 7, 3) := by decide +kernel
theorem dX6_isLetter_24 : decode cX6_isLetter 24 = .ok (.iconst 1, 1) := by decide +kernel
theorem dX6_isLetter_25 : decode cX6_isLetter 25 = .ok (.goto 4, 3) := by decide +kernel
theorem dX6_isLetter_28 : decode cX6_isLetter 28 = .ok (.iconst 0, 1) := by decide +kernel
theorem dX6_isLetter_29 : decode cX6_isLetter 29 = .ok (.ireturn, 1) := by decide +kernel
theorem dX6_isDigit_0 : decode cX6_isDigit 0 = .ok (.iload_n 0, 1) := by decide +kernel
theorem dX6_isDigit_1 : decode cX6_isDigit 1 = .ok (.bipush 48, 2) := by decide +kernel
theorem dX6_isDigit_3 : decode cX6_isDigit 3 = .ok (.if_icmp .lt 13, 3) := by decide +kernel
theorem dX6_isDigit_6 : decode cX6_isDigit 6 = .ok (.iload_n 0, 1) := by decide +kernel
theorem dX6_isDigit_7 : decode cX6_isDigit 7 = .ok (.bipush 57, 2) := by decide +kernel
theorem dX6_isDigit_9 : decode cX6_isDigit 9 = .ok (.if_icmp .gt 7, 3) := by decide +kernel
theorem dX6_isDigit_12 : decode cX6_isDigit 12 = .ok (.iconst 1, 1) := by decide +kernel
theorem dX6_isDigit_13 : decode cX6_isDigit 13 = .ok (.goto 4, 3) := by decide +kernel
theorem dX6_isDigit_16 : decode cX6_isDigit 16 = .ok (.iconst 0, 1) := by decide +kernel
theorem dX6_isDigit_17 : decode cX6_isDigit 17 = .ok (.ireturn, 1) := by decide +kernel

