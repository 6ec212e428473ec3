/-! rows that decode -/
theorem dX10_writesWork_0 : decode cX10_writesWork 0 = .ok (.aload_n 0, 1) := by decide +kernel
theorem dX10_writesWork_1 : decode cX10_writesWork 1 = .ok (.iconst 0, 1) := by decide +kernel
theorem dX10_writesWork_2 : decode cX10_writesWork 2 = .ok (.putfield 371, 3) := by decide +kernel
theorem dX10_writesWork_5 : decode cX10_writesWork 5 = .ok (.iconst 0, 1) := by decide +kernel
theorem dX10_writesWork_6 : decode cX10_writesWork 6 = .ok (.istore_n 1, 1) := by decide +kernel
theorem dX10_writesWork_7 : decode cX10_writesWork 7 = .ok (.iload_n 1, 1) := by decide +kernel
theorem dX10_writesWork_8 : decode cX10_writesWork 8 = .ok (.aload_n 0, 1) := by decide +kernel
theorem dX10_writesWork_9 : decode cX10_writesWork 9 = .ok (.getfield 101, 3) := by decide +kernel
theorem dX10_writesWork_12 : decode cX10_writesWork 12 = .ok (.if_icmp .ge 22, 3) := by decide +kernel
theorem dX10_writesWork_15 : decode cX10_writesWork 15 = .ok (.aload_n 0, 1) := by decide +kernel
theorem dX10_writesWork_16 : decode cX10_writesWork 16 = .ok (.aload_n 0, 1) := by decide +kernel
theorem dX10_writesWork_17 : decode cX10_writesWork 17 = .ok (.getfield 21, 3) := by decide +kernel
theorem dX10_writesWork_20 : decode cX10_writesWork 20 = .ok (.iload_n 1, 1) := by decide +kernel
theorem dX10_writesWork_21 : decode cX10_writesWork 21 = .ok (.iaload, 1) := by decide +kernel
theorem dX10_writesWork_22 : decode cX10_writesWork 22 = .ok (.invokestatic 291, 3) := by decide +kernel
theorem dX10_writesWork_25 : decode cX10_writesWork 25 = .ok (.invokevirtual 374, 3) := by decide +kernel
theorem dX10_writesWork_28 : decode cX10_writesWork 28 = .ok (.iinc 1 1, 3) := by decide +kernel
theorem dX10_writesWork_31 : decode cX10_writesWork 31 = .ok (.goto (-24), 3) := by decide +kernel
theorem dX10_writesWork_34 : decode cX10_writesWork 34 = .ok (.aload_n 0, 1) := by decide +kernel
theorem dX10_writesWork_35 : decode cX10_writesWork 35 = .ok (.getfield 371, 3) := by decide +kernel
theorem dX10_writesWork_38 : decode cX10_writesWork 38 = .ok (.ireturn, 1) := by decide +kernel
theorem dX10_isUsed_0 : decode cX10_isUsed 0 = .ok (.aload_n 0, 1) := by decide +kernel
theorem dX10_isUsed_1 : decode cX10_isUsed 1 = .ok (.iload_n 1, 1) := by decide +kernel
theorem dX10_isUsed_2 : decode cX10_isUsed 2 = .ok (.iload_n 2, 1) := by decide +kernel
theorem dX10_isUsed_3 : decode cX10_isUsed 3 = .ok (.iload_n 3, 1) := by decide +kernel
theorem dX10_isUsed_4 : decode cX10_isUsed 4 = .ok (.invokevirtual 184, 3) := by decide +kernel
theorem dX10_isUsed_7 : decode cX10_isUsed 7 = .ok (.istore 4, 2) := by decide +kernel
theorem dX10_isUsed_9 : decode cX10_isUsed 9 = .ok (.sipush 361, 3) := by decide +kernel
theorem dX10_isUsed_12 : decode cX10_isUsed 12 = .ok (.iload_n 1, 1) := by decide +kernel
theorem dX10_isUsed_13 : decode cX10_isUsed 13 = .ok (.imul, 1) := by decide +kernel
theorem dX10_isUsed_14 : decode cX10_isUsed 14 = .ok (.iload_n 2, 1) := by decide +kernel
theorem dX10_isUsed_15 : decode cX10_isUsed 15 = .ok (.iadd, 1) := by decide +kernel
theorem dX10_isUsed_16 : decode cX10_isUsed 16 = .ok (.istore 5, 2) := by decide +kernel
theorem dX10_isUsed_18 : decode cX10_isUsed 18 = .ok (.sipush 361, 3) := by decide +kernel
theorem dX10_isUsed_21 : decode cX10_isUsed 21 = .ok (.iload_n 1, 1) := by decide +kernel
theorem dX10_isUsed_22 : decode cX10_isUsed 22 = .ok (.imul, 1) := by decide +kernel
theorem dX10_isUsed_23 : decode cX10_isUsed 23 = .ok (.iload 4, 2) := by decide +kernel
theorem dX10_isUsed_25 : decode cX10_isUsed 25 = .ok (.iadd, 1) := by decide +kernel
theorem dX10_isUsed_26 : decode cX10_isUsed 26 = .ok (.istore 6, 2) := by decide +kernel
theorem dX10_isUsed_28 : decode cX10_isUsed 28 = .ok (.iload 4, 2) := by decide +kernel
theorem dX10_isUsed_30 : decode cX10_isUsed 30 = .ok (.ifCond .le 25, 3) := by decide +kernel
theorem dX10_isUsed_33 : decode cX10_isUsed 33 = .ok (.aload_n 0, 1) := by decide +kernel
theorem dX10_isUsed_34 : decode cX10_isUsed 34 = .ok (.getfield 47, 3) := by decide +kernel
theorem dX10_isUsed_37 : decode cX10_isUsed 37 = .ok (.iload 6, 2) := by decide +kernel
theorem dX10_isUsed_39 : decode cX10_isUsed 39 = .ok (.iaload, 1) := by decide +kernel
theorem dX10_isUsed_40 : decode cX10_isUsed 40 = .ok (.iload_n 2, 1) := by decide +kernel
theorem dX10_isUsed_41 : decode cX10_isUsed 41 = .ok (.if_icmp .ne 14, 3) := by decide +kernel
theorem dX10_isUsed_44 : decode cX10_isUsed 44 = .ok (.aload_n 0, 1) := by decide +kernel
theorem dX10_isUsed_45 : decode cX10_isUsed 45 = .ok (.getfield 50, 3) := by decide +kernel
theorem dX10_isUsed_48 : decode cX10_isUsed 48 = .ok (.iload 6, 2) := by decide +kernel
theorem dX10_isUsed_50 : decode cX10_isUsed 50 = .ok (.iaload, 1) := by decide +kernel
theorem dX10_isUsed_51 : decode cX10_isUsed 51 = .ok (.iload_n 3, 1) := by decide +kernel
theorem dX10_isUsed_52 : decode cX10_isUsed 52 = .ok (.if_icmp .eq 32, 3) := by decide +kernel
theorem dX10_isUsed_55 : decode cX10_isUsed 55 = .ok (.iload_n 2, 1) := by decide +kernel
theorem dX10_isUsed_56 : decode cX10_isUsed 56 = .ok (.ifCond .le 32, 3) := by decide +kernel
theorem dX10_isUsed_59 : decode cX10_isUsed 59 = .ok (.aload_n 0, 1) := by decide +kernel
theorem dX10_isUsed_60 : decode cX10_isUsed 60 = .ok (.getfield 47, 3) := by decide +kernel
theorem dX10_isUsed_63 : decode cX10_isUsed 63 = .ok (.iload 5, 2) := by decide +kernel
theorem dX10_isUsed_65 : decode cX10_isUsed 65 = .ok (.iaload, 1) := by decide +kernel
theorem dX10_isUsed_66 : decode cX10_isUsed 66 = .ok (.iload 4, 2) := by decide +kernel
theorem dX10_isUsed_68 : decode cX10_isUsed 68 = .ok (.if_icmp .ne 20, 3) := by decide +kernel
theorem dX10_isUsed_71 : decode cX10_isUsed 71 = .ok (.aload_n 0, 1) := by decide +kernel
theorem dX10_isUsed_72 : decode cX10_isUsed 72 = .ok (.getfield 50, 3) := by decide +kernel
theorem dX10_isUsed_75 : decode cX10_isUsed 75 = .ok (.iload 5, 2) := by decide +kernel
theorem dX10_isUsed_77 : decode cX10_isUsed 77 = .ok (.iaload, 1) := by decide +kernel
theorem dX10_isUsed_78 : decode cX10_isUsed 78 = .ok (.iload_n 3, 1) := by decide +kernel
theorem dX10_isUsed_79 : decode cX10_isUsed 79 = .ok (.iconst 1, 1) := by decide +kernel
theorem dX10_isUsed_80 : decode cX10_isUsed 80 = .ok (.ixor, 1) := by decide +kernel
theorem dX10_isUsed_81 : decode cX10_isUsed 81 = .ok (.if_icmp .ne 7, 3) := by decide +kernel
theorem dX10_isUsed_84 : decode cX10_isUsed 84 = .ok (.iconst 1, 1) := by decide +kernel
theorem dX10_isUsed_85 : decode cX10_isUsed 85 = .ok (.goto 4, 3) := by decide +kernel
theorem dX10_isUsed_88 : decode cX10_isUsed 88 = .ok (.iconst 0, 1) := by decide +kernel
theorem dX10_isUsed_89 : decode cX10_isUsed 89 = .ok (.ireturn, 1) := by decide +kernel
theorem dX10_writesBasisWord_0 : decode cX10_writesBasisWord 0 = .ok (.aload_n 0, 1) := by decide +kernel
theorem dX10_writesBasisWord_1 : decode cX10_writesBasisWord 1 = .ok (.invokevirtual 112, 3) := by decide +kernel
theorem dX10_writesBasisWord_4 : decode cX10_writesBasisWord 4 = .ok (.aload_n 0, 1) := by decide +kernel
theorem dX10_writesBasisWord_5 : decode cX10_writesBasisWord 5 = .ok (.iload_n 1, 1) := by decide +kernel
theorem dX10_writesBasisWord_6 : decode cX10_writesBasisWord 6 = .ok (.iload_n 2, 1) := by decide +kernel
theorem dX10_writesBasisWord_7 : decode cX10_writesBasisWord 7 = .ok (.invokevirtual 380, 3) := by decide +kernel
theorem dX10_writesBasisWord_10 : decode cX10_writesBasisWord 10 = .ok (.aload_n 0, 1) := by decide +kernel
theorem dX10_writesBasisWord_11 : decode cX10_writesBasisWord 11 = .ok (.iload_n 3, 1) := by decide +kernel
theorem dX10_writesBasisWord_12 : decode cX10_writesBasisWord 12 = .ok (.invokevirtual 108, 3) := by decide +kernel
theorem dX10_writesBasisWord_15 : decode cX10_writesBasisWord 15 = .ok (.aload_n 0, 1) := by decide +kernel
theorem dX10_writesBasisWord_16 : decode cX10_writesBasisWord 16 = .ok (.iload_n 1, 1) := by decide +kernel
theorem dX10_writesBasisWord_17 : decode cX10_writesBasisWord 17 = .ok (.iload_n 2, 1) := by decide +kernel
theorem dX10_writesBasisWord_18 : decode cX10_writesBasisWord 18 = .ok (.iload_n 3, 1) := by decide +kernel
theorem dX10_writesBasisWord_19 : decode cX10_writesBasisWord 19 = .ok (.invokevirtual 184, 3) := by decide +kernel
theorem dX10_writesBasisWord_22 : decode cX10_writesBasisWord 22 = .ok (.istore 4, 2) := by decide +kernel
theorem dX10_writesBasisWord_24 : decode cX10_writesBasisWord 24 = .ok (.iload 4, 2) := by decide +kernel
theorem dX10_writesBasisWord_26 : decode cX10_writesBasisWord 26 = .ok (.ifCond .eq 40, 3) := by decide +kernel
theorem dX10_writesBasisWord_29 : decode cX10_writesBasisWord 29 = .ok (.aload_n 0, 1) := by decide +kernel
theorem dX10_writesBasisWord_30 : decode cX10_writesBasisWord 30 = .ok (.aload_n 0, 1) := by decide +kernel
theorem dX10_writesBasisWord_31 : decode cX10_writesBasisWord 31 = .ok (.getfield 50, 3) := by decide +kernel
theorem dX10_writesBasisWord_34 : decode cX10_writesBasisWord 34 = .ok (.sipush 361, 3) := by decide +kernel
theorem dX10_writesBasisWord_37 : decode cX10_writesBasisWord 37 = .ok (.iload_n 1, 1) := by decide +kernel
theorem dX10_writesBasisWord_38 : decode cX10_writesBasisWord 38 = .ok (.imul, 1) := by decide +kernel
theorem dX10_writesBasisWord_39 : decode cX10_writesBasisWord 39 = .ok (.iload 4, 2) := by decide +kernel
theorem dX10_writesBasisWord_41 : decode cX10_writesBasisWord 41 = .ok (.iadd, 1) := by decide +kernel
theorem dX10_writesBasisWord_42 : decode cX10_writesBasisWord 42 = .ok (.iaload, 1) := by decide +kernel
theorem dX10_writesBasisWord_43 : decode cX10_writesBasisWord 43 = .ok (.iconst 1, 1) := by decide +kernel
theorem dX10_writesBasisWord_44 : decode cX10_writesBasisWord 44 = .ok (.ixor, 1) := by decide +kernel
theorem dX10_writesBasisWord_45 : decode cX10_writesBasisWord 45 = .ok (.invokevirtual 108, 3) := by decide +kernel
theorem dX10_writesBasisWord_48 : decode cX10_writesBasisWord 48 = .ok (.aload_n 0, 1) := by decide +kernel
theorem dX10_writesBasisWord_49 : decode cX10_writesBasisWord 49 = .ok (.getfield 47, 3) := by decide +kernel
theorem dX10_writesBasisWord_52 : decode cX10_writesBasisWord 52 = .ok (.sipush 361, 3) := by decide +kernel
theorem dX10_writesBasisWord_55 : decode cX10_writesBasisWord 55 = .ok (.iload_n 1, 1) := by decide +kernel
theorem dX10_writesBasisWord_56 : decode cX10_writesBasisWord 56 = .ok (.imul, 1) := by decide +kernel
theorem dX10_writesBasisWord_57 : decode cX10_writesBasisWord 57 = .ok (.iload 4, 2) := by decide +kernel
theorem dX10_writesBasisWord_59 : decode cX10_writesBasisWord 59 = .ok (.iadd, 1) := by decide +kernel
theorem dX10_writesBasisWord_60 : decode cX10_writesBasisWord 60 = .ok (.iaload, 1) := by decide +kernel
theorem dX10_writesBasisWord_61 : decode cX10_writesBasisWord 61 = .ok (.istore 4, 2) := by decide +kernel
theorem dX10_writesBasisWord_63 : decode cX10_writesBasisWord 63 = .ok (.goto (-39), 3) := by decide +kernel
theorem dX10_writesBasisWord_66 : decode cX10_writesBasisWord 66 = .ok (.aload_n 0, 1) := by decide +kernel
theorem dX10_writesBasisWord_67 : decode cX10_writesBasisWord 67 = .ok (.invokevirtual 383, 3) := by decide +kernel
theorem dX10_writesBasisWord_70 : decode cX10_writesBasisWord 70 = .ok (.ireturn, 1) := by decide +kernel
theorem dX10_formatBasisWord_0 : decode cX10_formatBasisWord 0 = .ok (.aload_n 0, 1) := by decide +kernel
theorem dX10_formatBasisWord_1 : decode cX10_formatBasisWord 1 = .ok (.iconst 0, 1) := by decide +kernel
theorem dX10_formatBasisWord_2 : decode cX10_formatBasisWord 2 = .ok (.putfield 75, 3) := by decide +kernel
theorem dX10_formatBasisWord_5 : decode cX10_formatBasisWord 5 = .ok (.iload_n 1, 1) := by decide +kernel
theorem dX10_formatBasisWord_6 : decode cX10_formatBasisWord 6 = .ok (.invokestatic 330, 3) := by decide +kernel
theorem dX10_formatBasisWord_9 : decode cX10_formatBasisWord 9 = .ok (.ifCond .eq 7, 3) := by decide +kernel
theorem dX10_formatBasisWord_12 : decode cX10_formatBasisWord 12 = .ok (.iload_n 2, 1) := by decide +kernel
theorem dX10_formatBasisWord_13 : decode cX10_formatBasisWord 13 = .ok (.ifCond .ge 9, 3) := by decide +kernel
theorem dX10_formatBasisWord_16 : decode cX10_formatBasisWord 16 = .ok (.aload_n 0, 1) := by decide +kernel
theorem dX10_formatBasisWord_17 : decode cX10_formatBasisWord 17 = .ok (.iconst 1, 1) := by decide +kernel
theorem dX10_formatBasisWord_18 : decode cX10_formatBasisWord 18 = .ok (.invokevirtual 275, 3) := by decide +kernel
theorem dX10_formatBasisWord_21 : decode cX10_formatBasisWord 21 = .ok (.ireturn, 1) := by decide +kernel
theorem dX10_formatBasisWord_22 : decode cX10_formatBasisWord 22 = .ok (.aload_n 0, 1) := by decide +kernel
theorem dX10_formatBasisWord_23 : decode cX10_formatBasisWord 23 = .ok (.iload_n 1, 1) := by decide +kernel
theorem dX10_formatBasisWord_24 : decode cX10_formatBasisWord 24 = .ok (.invokevirtual 197, 3) := by decide +kernel
theorem dX10_formatBasisWord_27 : decode cX10_formatBasisWord 27 = .ok (.iload_n 2, 1) := by decide +kernel
theorem dX10_formatBasisWord_28 : decode cX10_formatBasisWord 28 = .ok (.istore_n 3, 1) := by decide +kernel
theorem dX10_formatBasisWord_29 : decode cX10_formatBasisWord 29 = .ok (.iconst 0, 1) := by decide +kernel
theorem dX10_formatBasisWord_30 : decode cX10_formatBasisWord 30 = .ok (.istore 4, 2) := by decide +kernel
theorem dX10_formatBasisWord_32 : decode cX10_formatBasisWord 32 = .ok (.iload 4, 2) := by decide +kernel
theorem dX10_formatBasisWord_34 : decode cX10_formatBasisWord 34 = .ok (.aload_n 0, 1) := by decide +kernel
theorem dX10_formatBasisWord_35 : decode cX10_formatBasisWord 35 = .ok (.getfield 44, 3) := by decide +kernel
theorem dX10_formatBasisWord_38 : decode cX10_formatBasisWord 38 = .ok (.iload_n 1, 1) := by decide +kernel
theorem dX10_formatBasisWord_39 : decode cX10_formatBasisWord 39 = .ok (.iaload, 1) := by decide +kernel
theorem dX10_formatBasisWord_40 : decode cX10_formatBasisWord 40 = .ok (.if_icmp .ge 70, 3) := by decide +kernel
theorem dX10_formatBasisWord_43 : decode cX10_formatBasisWord 43 = .ok (.iconst 0, 1) := by decide +kernel
theorem dX10_formatBasisWord_44 : decode cX10_formatBasisWord 44 = .ok (.istore 5, 2) := by decide +kernel
theorem dX10_formatBasisWord_46 : decode cX10_formatBasisWord 46 = .ok (.iload 5, 2) := by decide +kernel
theorem dX10_formatBasisWord_48 : decode cX10_formatBasisWord 48 = .ok (.bipush 8, 2) := by decide +kernel
theorem dX10_formatBasisWord_50 : decode cX10_formatBasisWord 50 = .ok (.if_icmp .ge 54, 3) := by decide +kernel
theorem dX10_formatBasisWord_53 : decode cX10_formatBasisWord 53 = .ok (.aload_n 0, 1) := by decide +kernel
theorem dX10_formatBasisWord_54 : decode cX10_formatBasisWord 54 = .ok (.iload_n 1, 1) := by decide +kernel
theorem dX10_formatBasisWord_55 : decode cX10_formatBasisWord 55 = .ok (.iload 4, 2) := by decide +kernel
theorem dX10_formatBasisWord_57 : decode cX10_formatBasisWord 57 = .ok (.iload 5, 2) := by decide +kernel
theorem dX10_formatBasisWord_59 : decode cX10_formatBasisWord 59 = .ok (.invokevirtual 184, 3) := by decide +kernel
theorem dX10_formatBasisWord_62 : decode cX10_formatBasisWord 62 = .ok (.iconst (-1), 1) := by decide +kernel
theorem dX10_formatBasisWord_63 : decode cX10_formatBasisWord 63 = .ok (.if_icmp .eq 35, 3) := by decide +kernel
theorem dX10_formatBasisWord_66 : decode cX10_formatBasisWord 66 = .ok (.aload_n 0, 1) := by decide +kernel
theorem dX10_formatBasisWord_67 : decode cX10_formatBasisWord 67 = .ok (.iload_n 1, 1) := by decide +kernel
theorem dX10_formatBasisWord_68 : decode cX10_formatBasisWord 68 = .ok (.iload 4, 2) := by decide +kernel
theorem dX10_formatBasisWord_70 : decode cX10_formatBasisWord 70 = .ok (.iload 5, 2) := by decide +kernel
theorem dX10_formatBasisWord_72 : decode cX10_formatBasisWord 72 = .ok (.invokevirtual 386, 3) := by decide +kernel
theorem dX10_formatBasisWord_75 : decode cX10_formatBasisWord 75 = .ok (.ifCond .eq 6, 3) := by decide +kernel
theorem dX10_formatBasisWord_78 : decode cX10_formatBasisWord 78 = .ok (.goto 20, 3) := by decide +kernel
theorem dX10_formatBasisWord_81 : decode cX10_formatBasisWord 81 = .ok (.iload_n 3, 1) := by decide +kernel
theorem dX10_formatBasisWord_82 : decode cX10_formatBasisWord 82 = .ok (.ifCond .ne 13, 3) := by decide +kernel
theorem dX10_formatBasisWord_85 : decode cX10_formatBasisWord 85 = .ok (.aload_n 0, 1) := by decide +kernel
theorem dX10_formatBasisWord_86 : decode cX10_formatBasisWord 86 = .ok (.iload_n 1, 1) := by decide +kernel
theorem dX10_formatBasisWord_87 : decode cX10_formatBasisWord 87 = .ok (.iload 4, 2) := by decide +kernel
theorem dX10_formatBasisWord_89 : decode cX10_formatBasisWord 89 = .ok (.iload 5, 2) := by decide +kernel
theorem dX10_formatBasisWord_91 : decode cX10_formatBasisWord 91 = .ok (.invokevirtual 389, 3) := by decide +kernel
theorem dX10_formatBasisWord_94 : decode cX10_formatBasisWord 94 = .ok (.ireturn, 1) := by decide +kernel
theorem dX10_formatBasisWord_95 : decode cX10_formatBasisWord 95 = .ok (.iinc 3 (-1), 3) := by decide +kernel
theorem dX10_formatBasisWord_98 : decode cX10_formatBasisWord 98 = .ok (.iinc 5 2, 3) := by decide +kernel
theorem dX10_formatBasisWord_101 : decode cX10_formatBasisWord 101 = .ok (.goto (-55), 3) := by decide +kernel
theorem dX10_formatBasisWord_104 : decode cX10_formatBasisWord 104 = .ok (.iinc 4 1, 3) := by decide +kernel
theorem dX10_formatBasisWord_107 : decode cX10_formatBasisWord 107 = .ok (.goto (-75), 3) := by decide +kernel
theorem dX10_formatBasisWord_110 : decode cX10_formatBasisWord 110 = .ok (.aload_n 0, 1) := by decide +kernel
theorem dX10_formatBasisWord_111 : decode cX10_formatBasisWord 111 = .ok (.iconst 1, 1) := by decide +kernel
theorem dX10_formatBasisWord_112 : decode cX10_formatBasisWord 112 = .ok (.invokevirtual 275, 3) := by decide +kernel
theorem dX10_formatBasisWord_115 : decode cX10_formatBasisWord 115 = .ok (.ireturn, 1) := by decide +kernel
theorem dX10_formatRepresentative_0 : decode cX10_formatRepresentative 0 = .ok (.aload_n 0, 1) := by decide +kernel
theorem dX10_formatRepresentative_1 : decode cX10_formatRepresentative 1 = .ok (.iconst 0, 1) := by decide +kernel
theorem dX10_formatRepresentative_2 : decode cX10_formatRepresentative 2 = .ok (.putfield 75, 3) := by decide +kernel
theorem dX10_formatRepresentative_5 : decode cX10_formatRepresentative 5 = .ok (.aload_n 0, 1) := by decide +kernel
theorem dX10_formatRepresentative_6 : decode cX10_formatRepresentative 6 = .ok (.iload_n 1, 1) := by decide +kernel
theorem dX10_formatRepresentative_7 : decode cX10_formatRepresentative 7 = .ok (.iload_n 2, 1) := by decide +kernel
theorem dX10_formatRepresentative_8 : decode cX10_formatRepresentative 8 = .ok (.invokevirtual 333, 3) := by decide +kernel
theorem dX10_formatRepresentative_11 : decode cX10_formatRepresentative 11 = .ok (.ifCond .ne 9, 3) := by decide +kernel
theorem dX10_formatRepresentative_14 : decode cX10_formatRepresentative 14 = .ok (.aload_n 0, 1) := by decide +kernel
theorem dX10_formatRepresentative_15 : decode cX10_formatRepresentative 15 = .ok (.iconst 1, 1) := by decide +kernel
theorem dX10_formatRepresentative_16 : decode cX10_formatRepresentative 16 = .ok (.invokevirtual 275, 3) := by decide +kernel
theorem dX10_formatRepresentative_19 : decode cX10_formatRepresentative 19 = .ok (.ireturn, 1) := by decide +kernel
theorem dX10_formatRepresentative_20 : decode cX10_formatRepresentative 20 = .ok (.aload_n 0, 1) := by decide +kernel
theorem dX10_formatRepresentative_21 : decode cX10_formatRepresentative 21 = .ok (.invokevirtual 112, 3) := by decide +kernel
theorem dX10_formatRepresentative_24 : decode cX10_formatRepresentative 24 = .ok (.aload_n 0, 1) := by decide +kernel
theorem dX10_formatRepresentative_25 : decode cX10_formatRepresentative 25 = .ok (.iload_n 1, 1) := by decide +kernel
theorem dX10_formatRepresentative_26 : decode cX10_formatRepresentative 26 = .ok (.iload_n 2, 1) := by decide +kernel
theorem dX10_formatRepresentative_27 : decode cX10_formatRepresentative 27 = .ok (.invokevirtual 380, 3) := by decide +kernel
theorem dX10_formatRepresentative_30 : decode cX10_formatRepresentative 30 = .ok (.aload_n 0, 1) := by decide +kernel
theorem dX10_formatRepresentative_31 : decode cX10_formatRepresentative 31 = .ok (.invokevirtual 383, 3) := by decide +kernel
theorem dX10_formatRepresentative_34 : decode cX10_formatRepresentative 34 = .ok (.ireturn, 1) := by decide +kernel
theorem dX10_formattedCharacter_0 : decode cX10_formattedCharacter 0 = .ok (.aload_n 0, 1) := by decide +kernel
theorem dX10_formattedCharacter_1 : decode cX10_formattedCharacter 1 = .ok (.iconst 0, 1) := by decide +kernel
theorem dX10_formattedCharacter_2 : decode cX10_formattedCharacter 2 = .ok (.putfield 75, 3) := by decide +kernel
theorem dX10_formattedCharacter_5 : decode cX10_formattedCharacter 5 = .ok (.iload_n 1, 1) := by decide +kernel
theorem dX10_formattedCharacter_6 : decode cX10_formattedCharacter 6 = .ok (.ifCond .lt 11, 3) := by decide +kernel
theorem dX10_formattedCharacter_9 : decode cX10_formattedCharacter 9 = .ok (.iload_n 1, 1) := by decide +kernel
theorem dX10_formattedCharacter_10 : decode cX10_formattedCharacter 10 = .ok (.aload_n 0, 1) := by decide +kernel
theorem dX10_formattedCharacter_11 : decode cX10_formattedCharacter 11 = .ok (.getfield 371, 3) := by decide +kernel
theorem dX10_formattedCharacter_14 : decode cX10_formattedCharacter 14 = .ok (.if_icmp .lt 12, 3) := by decide +kernel
theorem dX10_formattedCharacter_17 : decode cX10_formattedCharacter 17 = .ok (.aload_n 0, 1) := by decide +kernel
theorem dX10_formattedCharacter_18 : decode cX10_formattedCharacter 18 = .ok (.iconst 1, 1) := by decide +kernel
theorem dX10_formattedCharacter_19 : decode cX10_formattedCharacter 19 = .ok (.invokevirtual 275, 3) := by decide +kernel
theorem dX10_formattedCharacter_22 : decode cX10_formattedCharacter 22 = .ok (.i2c, 1) := by decide +kernel
theorem dX10_formattedCharacter_23 : decode cX10_formattedCharacter 23 = .ok (.goto 9, 3) := by decide +kernel
theorem dX10_formattedCharacter_26 : decode cX10_formattedCharacter 26 = .ok (.aload_n 0, 1) := by decide +kernel
theorem dX10_formattedCharacter_27 : decode cX10_formattedCharacter 27 = .ok (.getfield 17, 3) := by decide +kernel
theorem dX10_formattedCharacter_30 : decode cX10_formattedCharacter 30 = .ok (.iload_n 1, 1) := by decide +kernel
theorem dX10_formattedCharacter_31 : decode cX10_formattedCharacter 31 = .ok (.caload, 1) := by decide +kernel
theorem dX10_formattedCharacter_32 : decode cX10_formattedCharacter 32 = .ok (.ireturn, 1) := by decide +kernel
