/-! rows that decode -/
theorem dX0_init_0 : decode cX0_init 0 = .ok (.aload_n 0, 1) := by decide +kernel
theorem dX0_init_1 : decode cX0_init 1 = .ok (.invokespecial 3, 3) := by decide +kernel
theorem dX0_init_4 : decode cX0_init 4 = .ok (.aload_n 0, 1) := by decide +kernel
theorem dX0_init_5 : decode cX0_init 5 = .ok (.sipush 2840, 3) := by decide +kernel
theorem dX0_init_8 : decode cX0_init 8 = .ok (.newarray .int, 2) := by decide +kernel
theorem dX0_init_10 : decode cX0_init 10 = .ok (.putfield 9, 3) := by decide +kernel
theorem dX0_init_13 : decode cX0_init 13 = .ok (.aload_n 0, 1) := by decide +kernel
theorem dX0_init_14 : decode cX0_init 14 = .ok (.sipush 355, 3) := by decide +kernel
theorem dX0_init_17 : decode cX0_init 17 = .ok (.newarray .int, 2) := by decide +kernel
theorem dX0_init_19 : decode cX0_init 19 = .ok (.putfield 15, 3) := by decide +kernel
theorem dX0_init_22 : decode cX0_init 22 = .ok (.aload_n 0, 1) := by decide +kernel
theorem dX0_init_23 : decode cX0_init 23 = .ok (.sipush 2841, 3) := by decide +kernel
theorem dX0_init_26 : decode cX0_init 26 = .ok (.newarray .int, 2) := by decide +kernel
theorem dX0_init_28 : decode cX0_init 28 = .ok (.putfield 18, 3) := by decide +kernel
theorem dX0_init_31 : decode cX0_init 31 = .ok (.aload_n 0, 1) := by decide +kernel
theorem dX0_init_32 : decode cX0_init 32 = .ok (.sipush 2841, 3) := by decide +kernel
theorem dX0_init_35 : decode cX0_init 35 = .ok (.newarray .int, 2) := by decide +kernel
theorem dX0_init_37 : decode cX0_init 37 = .ok (.putfield 21, 3) := by decide +kernel
theorem dX0_init_40 : decode cX0_init 40 = .ok (.aload_n 0, 1) := by decide +kernel
theorem dX0_init_41 : decode cX0_init 41 = .ok (.sipush 355, 3) := by decide +kernel
theorem dX0_init_44 : decode cX0_init 44 = .ok (.newarray .int, 2) := by decide +kernel
theorem dX0_init_46 : decode cX0_init 46 = .ok (.putfield 24, 3) := by decide +kernel
theorem dX0_init_49 : decode cX0_init 49 = .ok (.aload_n 0, 1) := by decide +kernel
theorem dX0_init_50 : decode cX0_init 50 = .ok (.sipush 355, 3) := by decide +kernel
theorem dX0_init_53 : decode cX0_init 53 = .ok (.newarray .int, 2) := by decide +kernel
theorem dX0_init_55 : decode cX0_init 55 = .ok (.putfield 27, 3) := by decide +kernel
theorem dX0_init_58 : decode cX0_init 58 = .ok (.return_, 1) := by decide +kernel
theorem dX0_fold_0 : decode cX0_fold 0 = .ok (.aload_n 0, 1) := by decide +kernel
theorem dX0_fold_1 : decode cX0_fold 1 = .ok (.getfield 9, 3) := by decide +kernel
theorem dX0_fold_4 : decode cX0_fold 4 = .ok (.iconst (-1), 1) := by decide +kernel
theorem dX0_fold_5 : decode cX0_fold 5 = .ok (.invokestatic 30, 3) := by decide +kernel
theorem dX0_fold_8 : decode cX0_fold 8 = .ok (.aload_n 0, 1) := by decide +kernel
theorem dX0_fold_9 : decode cX0_fold 9 = .ok (.iconst 0, 1) := by decide +kernel
theorem dX0_fold_10 : decode cX0_fold 10 = .ok (.putfield 36, 3) := by decide +kernel
theorem dX0_fold_13 : decode cX0_fold 13 = .ok (.aload_n 0, 1) := by decide +kernel
theorem dX0_fold_14 : decode cX0_fold 14 = .ok (.invokevirtual 40, 3) := by decide +kernel
theorem dX0_fold_17 : decode cX0_fold 17 = .ok (.pop, 1) := by decide +kernel
theorem dX0_fold_18 : decode cX0_fold 18 = .ok (.iconst 0, 1) := by decide +kernel
theorem dX0_fold_19 : decode cX0_fold 19 = .ok (.istore 4, 2) := by decide +kernel
theorem dX0_fold_21 : decode cX0_fold 21 = .ok (.iload 4, 2) := by decide +kernel
theorem dX0_fold_23 : decode cX0_fold 23 = .ok (.aload_n 1, 1) := by decide +kernel
theorem dX0_fold_24 : decode cX0_fold 24 = .ok (.getfield 44, 3) := by decide +kernel
theorem dX0_fold_27 : decode cX0_fold 27 = .ok (.iload_n 2, 1) := by decide +kernel
theorem dX0_fold_28 : decode cX0_fold 28 = .ok (.iaload, 1) := by decide +kernel
theorem dX0_fold_29 : decode cX0_fold 29 = .ok (.if_icmp .ge 24, 3) := by decide +kernel
theorem dX0_fold_32 : decode cX0_fold 32 = .ok (.aload_n 0, 1) := by decide +kernel
theorem dX0_fold_33 : decode cX0_fold 33 = .ok (.aload_n 1, 1) := by decide +kernel
theorem dX0_fold_34 : decode cX0_fold 34 = .ok (.iload_n 2, 1) := by decide +kernel
theorem dX0_fold_35 : decode cX0_fold 35 = .ok (.iload 4, 2) := by decide +kernel
theorem dX0_fold_37 : decode cX0_fold 37 = .ok (.invokevirtual 49, 3) := by decide +kernel
theorem dX0_fold_40 : decode cX0_fold 40 = .ok (.invokevirtual 53, 3) := by decide +kernel
theorem dX0_fold_43 : decode cX0_fold 43 = .ok (.aload_n 0, 1) := by decide +kernel
theorem dX0_fold_44 : decode cX0_fold 44 = .ok (.invokevirtual 57, 3) := by decide +kernel
theorem dX0_fold_47 : decode cX0_fold 47 = .ok (.iinc 4 1, 3) := by decide +kernel
theorem dX0_fold_50 : decode cX0_fold 50 = .ok (.goto (-29), 3) := by decide +kernel
theorem dX0_fold_53 : decode cX0_fold 53 = .ok (.aload_n 0, 1) := by decide +kernel
theorem dX0_fold_54 : decode cX0_fold 54 = .ok (.aload_n 3, 1) := by decide +kernel
theorem dX0_fold_55 : decode cX0_fold 55 = .ok (.invokevirtual 60, 3) := by decide +kernel
theorem dX0_fold_58 : decode cX0_fold 58 = .ok (.return_, 1) := by decide +kernel
theorem dX0_makeVertex_0 : decode cX0_makeVertex 0 = .ok (.aload_n 0, 1) := by decide +kernel
theorem dX0_makeVertex_1 : decode cX0_makeVertex 1 = .ok (.getfield 36, 3) := by decide +kernel
theorem dX0_makeVertex_4 : decode cX0_makeVertex 4 = .ok (.sipush 355, 3) := by decide +kernel
theorem dX0_makeVertex_7 : decode cX0_makeVertex 7 = .ok (.if_icmp .lt 5, 3) := by decide +kernel
theorem dX0_makeVertex_10 : decode cX0_makeVertex 10 = .ok (.iconst 0, 1) := by decide +kernel
theorem dX0_makeVertex_11 : decode cX0_makeVertex 11 = .ok (.ireturn, 1) := by decide +kernel
theorem dX0_makeVertex_12 : decode cX0_makeVertex 12 = .ok (.aload_n 0, 1) := by decide +kernel
theorem dX0_makeVertex_13 : decode cX0_makeVertex 13 = .ok (.getfield 15, 3) := by decide +kernel
theorem dX0_makeVertex_16 : decode cX0_makeVertex 16 = .ok (.aload_n 0, 1) := by decide +kernel
theorem dX0_makeVertex_17 : decode cX0_makeVertex 17 = .ok (.getfield 36, 3) := by decide +kernel
theorem dX0_makeVertex_20 : decode cX0_makeVertex 20 = .ok (.aload_n 0, 1) := by decide +kernel
theorem dX0_makeVertex_21 : decode cX0_makeVertex 21 = .ok (.getfield 36, 3) := by decide +kernel
theorem dX0_makeVertex_24 : decode cX0_makeVertex 24 = .ok (.iastore, 1) := by decide +kernel
theorem dX0_makeVertex_25 : decode cX0_makeVertex 25 = .ok (.aload_n 0, 1) := by decide +kernel
theorem dX0_makeVertex_26 : decode cX0_makeVertex 26 = .ok (.dup, 1) := by decide +kernel
theorem dX0_makeVertex_27 : decode cX0_makeVertex 27 = .ok (.getfield 36, 3) := by decide +kernel
theorem dX0_makeVertex_30 : decode cX0_makeVertex 30 = .ok (.iconst 1, 1) := by decide +kernel
theorem dX0_makeVertex_31 : decode cX0_makeVertex 31 = .ok (.iadd, 1) := by decide +kernel
theorem dX0_makeVertex_32 : decode cX0_makeVertex 32 = .ok (.putfield 36, 3) := by decide +kernel
theorem dX0_makeVertex_35 : decode cX0_makeVertex 35 = .ok (.aload_n 0, 1) := by decide +kernel
theorem dX0_makeVertex_36 : decode cX0_makeVertex 36 = .ok (.getfield 36, 3) := by decide +kernel
theorem dX0_makeVertex_39 : decode cX0_makeVertex 39 = .ok (.iconst 1, 1) := by decide +kernel
theorem dX0_makeVertex_40 : decode cX0_makeVertex 40 = .ok (.isub, 1) := by decide +kernel
theorem dX0_makeVertex_41 : decode cX0_makeVertex 41 = .ok (.ireturn, 1) := by decide +kernel
theorem dX0_addClosedPath_0 : decode cX0_addClosedPath 0 = .ok (.iconst 0, 1) := by decide +kernel
theorem dX0_addClosedPath_1 : decode cX0_addClosedPath 1 = .ok (.istore_n 2, 1) := by decide +kernel
theorem dX0_addClosedPath_2 : decode cX0_addClosedPath 2 = .ok (.aload_n 1, 1) := by decide +kernel
theorem dX0_addClosedPath_3 : decode cX0_addClosedPath 3 = .ok (.getfield 64, 3) := by decide +kernel
theorem dX0_addClosedPath_6 : decode cX0_addClosedPath 6 = .ok (.iconst 1, 1) := by decide +kernel
theorem dX0_addClosedPath_7 : decode cX0_addClosedPath 7 = .ok (.isub, 1) := by decide +kernel
theorem dX0_addClosedPath_8 : decode cX0_addClosedPath 8 = .ok (.istore_n 3, 1) := by decide +kernel
theorem dX0_addClosedPath_9 : decode cX0_addClosedPath 9 = .ok (.iconst 0, 1) := by decide +kernel
theorem dX0_addClosedPath_10 : decode cX0_addClosedPath 10 = .ok (.istore 4, 2) := by decide +kernel
theorem dX0_addClosedPath_12 : decode cX0_addClosedPath 12 = .ok (.iload 4, 2) := by decide +kernel
theorem dX0_addClosedPath_14 : decode cX0_addClosedPath 14 = .ok (.iload_n 3, 1) := by decide +kernel
theorem dX0_addClosedPath_15 : decode cX0_addClosedPath 15 = .ok (.if_icmp .ge 56, 3) := by decide +kernel
theorem dX0_addClosedPath_18 : decode cX0_addClosedPath 18 = .ok (.aload_n 1, 1) := by decide +kernel
theorem dX0_addClosedPath_19 : decode cX0_addClosedPath 19 = .ok (.getfield 69, 3) := by decide +kernel
theorem dX0_addClosedPath_22 : decode cX0_addClosedPath 22 = .ok (.iload 4, 2) := by decide +kernel
theorem dX0_addClosedPath_24 : decode cX0_addClosedPath 24 = .ok (.iaload, 1) := by decide +kernel
theorem dX0_addClosedPath_25 : decode cX0_addClosedPath 25 = .ok (.istore 5, 2) := by decide +kernel
theorem dX0_addClosedPath_27 : decode cX0_addClosedPath 27 = .ok (.aload_n 0, 1) := by decide +kernel
theorem dX0_addClosedPath_28 : decode cX0_addClosedPath 28 = .ok (.getfield 9, 3) := by decide +kernel
theorem dX0_addClosedPath_31 : decode cX0_addClosedPath 31 = .ok (.iload_n 2, 1) := by decide +kernel
theorem dX0_addClosedPath_32 : decode cX0_addClosedPath 32 = .ok (.bipush 8, 2) := by decide +kernel
theorem dX0_addClosedPath_34 : decode cX0_addClosedPath 34 = .ok (.imul, 1) := by decide +kernel
theorem dX0_addClosedPath_35 : decode cX0_addClosedPath 35 = .ok (.iload 5, 2) := by decide +kernel
theorem dX0_addClosedPath_37 : decode cX0_addClosedPath 37 = .ok (.iadd, 1) := by decide +kernel
theorem dX0_addClosedPath_38 : decode cX0_addClosedPath 38 = .ok (.iaload, 1) := by decide +kernel
theorem dX0_addClosedPath_39 : decode cX0_addClosedPath 39 = .ok (.istore 6, 2) := by decide +kernel
theorem dX0_addClosedPath_41 : decode cX0_addClosedPath 41 = .ok (.iload 6, 2) := by decide +kernel
theorem dX0_addClosedPath_43 : decode cX0_addClosedPath 43 = .ok (.iconst (-1), 1) := by decide +kernel
theorem dX0_addClosedPath_44 : decode cX0_addClosedPath 44 = .ok (.if_icmp .ne 18, 3) := by decide +kernel
theorem dX0_addClosedPath_47 : decode cX0_addClosedPath 47 = .ok (.aload_n 0, 1) := by decide +kernel
theorem dX0_addClosedPath_48 : decode cX0_addClosedPath 48 = .ok (.invokevirtual 40, 3) := by decide +kernel
theorem dX0_addClosedPath_51 : decode cX0_addClosedPath 51 = .ok (.istore 6, 2) := by decide +kernel
theorem dX0_addClosedPath_53 : decode cX0_addClosedPath 53 = .ok (.aload_n 0, 1) := by decide +kernel
theorem dX0_addClosedPath_54 : decode cX0_addClosedPath 54 = .ok (.iload_n 2, 1) := by decide +kernel
theorem dX0_addClosedPath_55 : decode cX0_addClosedPath 55 = .ok (.iload 5, 2) := by decide +kernel
theorem dX0_addClosedPath_57 : decode cX0_addClosedPath 57 = .ok (.iload 6, 2) := by decide +kernel
theorem dX0_addClosedPath_59 : decode cX0_addClosedPath 59 = .ok (.invokevirtual 72, 3) := by decide +kernel
theorem dX0_addClosedPath_62 : decode cX0_addClosedPath 62 = .ok (.iload 6, 2) := by decide +kernel
theorem dX0_addClosedPath_64 : decode cX0_addClosedPath 64 = .ok (.istore_n 2, 1) := by decide +kernel
theorem dX0_addClosedPath_65 : decode cX0_addClosedPath 65 = .ok (.iinc 4 1, 3) := by decide +kernel
theorem dX0_addClosedPath_68 : decode cX0_addClosedPath 68 = .ok (.goto (-56), 3) := by decide +kernel
theorem dX0_addClosedPath_71 : decode cX0_addClosedPath 71 = .ok (.iload_n 3, 1) := by decide +kernel
theorem dX0_addClosedPath_72 : decode cX0_addClosedPath 72 = .ok (.ifCond .lt 15, 3) := by decide +kernel
theorem dX0_addClosedPath_75 : decode cX0_addClosedPath 75 = .ok (.aload_n 0, 1) := by decide +kernel
theorem dX0_addClosedPath_76 : decode cX0_addClosedPath 76 = .ok (.iload_n 2, 1) := by decide +kernel
theorem dX0_addClosedPath_77 : decode cX0_addClosedPath 77 = .ok (.aload_n 1, 1) := by decide +kernel
theorem dX0_addClosedPath_78 : decode cX0_addClosedPath 78 = .ok (.getfield 69, 3) := by decide +kernel
theorem dX0_addClosedPath_81 : decode cX0_addClosedPath 81 = .ok (.iload_n 3, 1) := by decide +kernel
theorem dX0_addClosedPath_82 : decode cX0_addClosedPath 82 = .ok (.iaload, 1) := by decide +kernel
theorem dX0_addClosedPath_83 : decode cX0_addClosedPath 83 = .ok (.iconst 0, 1) := by decide +kernel
theorem dX0_addClosedPath_84 : decode cX0_addClosedPath 84 = .ok (.invokevirtual 72, 3) := by decide +kernel
theorem dX0_addClosedPath_87 : decode cX0_addClosedPath 87 = .ok (.return_, 1) := by decide +kernel
theorem dX0_connect_0 : decode cX0_connect 0 = .ok (.aload_n 0, 1) := by decide +kernel
theorem dX0_connect_1 : decode cX0_connect 1 = .ok (.getfield 9, 3) := by decide +kernel
theorem dX0_connect_4 : decode cX0_connect 4 = .ok (.iload_n 1, 1) := by decide +kernel
theorem dX0_connect_5 : decode cX0_connect 5 = .ok (.bipush 8, 2) := by decide +kernel
theorem dX0_connect_7 : decode cX0_connect 7 = .ok (.imul, 1) := by decide +kernel
theorem dX0_connect_8 : decode cX0_connect 8 = .ok (.iload_n 2, 1) := by decide +kernel
theorem dX0_connect_9 : decode cX0_connect 9 = .ok (.iadd, 1) := by decide +kernel
theorem dX0_connect_10 : decode cX0_connect 10 = .ok (.iaload, 1) := by decide +kernel
theorem dX0_connect_11 : decode cX0_connect 11 = .ok (.istore 4, 2) := by decide +kernel
theorem dX0_connect_13 : decode cX0_connect 13 = .ok (.aload_n 0, 1) := by decide +kernel
theorem dX0_connect_14 : decode cX0_connect 14 = .ok (.getfield 9, 3) := by decide +kernel
theorem dX0_connect_17 : decode cX0_connect 17 = .ok (.iload_n 3, 1) := by decide +kernel
theorem dX0_connect_18 : decode cX0_connect 18 = .ok (.bipush 8, 2) := by decide +kernel
theorem dX0_connect_20 : decode cX0_connect 20 = .ok (.imul, 1) := by decide +kernel
theorem dX0_connect_21 : decode cX0_connect 21 = .ok (.iload_n 2, 1) := by decide +kernel
theorem dX0_connect_22 : decode cX0_connect 22 = .ok (.iconst 1, 1) := by decide +kernel
theorem dX0_connect_23 : decode cX0_connect 23 = .ok (.ixor, 1) := by decide +kernel
theorem dX0_connect_24 : decode cX0_connect 24 = .ok (.iadd, 1) := by decide +kernel
theorem dX0_connect_25 : decode cX0_connect 25 = .ok (.iaload, 1) := by decide +kernel
theorem dX0_connect_26 : decode cX0_connect 26 = .ok (.istore 5, 2) := by decide +kernel
theorem dX0_connect_28 : decode cX0_connect 28 = .ok (.iload 4, 2) := by decide +kernel
theorem dX0_connect_30 : decode cX0_connect 30 = .ok (.iconst (-1), 1) := by decide +kernel
theorem dX0_connect_31 : decode cX0_connect 31 = .ok (.if_icmp .eq 13, 3) := by decide +kernel
theorem dX0_connect_34 : decode cX0_connect 34 = .ok (.aload_n 0, 1) := by decide +kernel
theorem dX0_connect_35 : decode cX0_connect 35 = .ok (.iload 4, 2) := by decide +kernel
theorem dX0_connect_37 : decode cX0_connect 37 = .ok (.iload_n 3, 1) := by decide +kernel
theorem dX0_connect_38 : decode cX0_connect 38 = .ok (.invokevirtual 76, 3) := by decide +kernel
theorem dX0_connect_41 : decode cX0_connect 41 = .ok (.goto 45, 3) := by decide +kernel
theorem dX0_connect_44 : decode cX0_connect 44 = .ok (.iload 5, 2) := by decide +kernel
theorem dX0_connect_46 : decode cX0_connect 46 = .ok (.iconst (-1), 1) := by decide +kernel
theorem dX0_connect_47 : decode cX0_connect 47 = .ok (.if_icmp .eq 13, 3) := by decide +kernel
theorem dX0_connect_50 : decode cX0_connect 50 = .ok (.aload_n 0, 1) := by decide +kernel
theorem dX0_connect_51 : decode cX0_connect 51 = .ok (.iload 5, 2) := by decide +kernel
theorem dX0_connect_53 : decode cX0_connect 53 = .ok (.iload_n 1, 1) := by decide +kernel
theorem dX0_connect_54 : decode cX0_connect 54 = .ok (.invokevirtual 76, 3) := by decide +kernel
theorem dX0_connect_57 : decode cX0_connect 57 = .ok (.goto 29, 3) := by decide +kernel
theorem dX0_connect_60 : decode cX0_connect 60 = .ok (.aload_n 0, 1) := by decide +kernel
theorem dX0_connect_61 : decode cX0_connect 61 = .ok (.getfield 9, 3) := by decide +kernel
theorem dX0_connect_64 : decode cX0_connect 64 = .ok (.iload_n 1, 1) := by decide +kernel
theorem dX0_connect_65 : decode cX0_connect 65 = .ok (.bipush 8, 2) := by decide +kernel
theorem dX0_connect_67 : decode cX0_connect 67 = .ok (.imul, 1) := by decide +kernel
theorem dX0_connect_68 : decode cX0_connect 68 = .ok (.iload_n 2, 1) := by decide +kernel
theorem dX0_connect_69 : decode cX0_connect 69 = .ok (.iadd, 1) := by decide +kernel
theorem dX0_connect_70 : decode cX0_connect 70 = .ok (.iload_n 3, 1) := by decide +kernel
theorem dX0_connect_71 : decode cX0_connect 71 = .ok (.iastore, 1) := by decide +kernel
theorem dX0_connect_72 : decode cX0_connect 72 = .ok (.aload_n 0, 1) := by decide +kernel
theorem dX0_connect_73 : decode cX0_connect 73 = .ok (.getfield 9, 3) := by decide +kernel
theorem dX0_connect_76 : decode cX0_connect 76 = .ok (.iload_n 3, 1) := by decide +kernel
theorem dX0_connect_77 : decode cX0_connect 77 = .ok (.bipush 8, 2) := by decide +kernel
theorem dX0_connect_79 : decode cX0_connect 79 = .ok (.imul, 1) := by decide +kernel
theorem dX0_connect_80 : decode cX0_connect 80 = .ok (.iload_n 2, 1) := by decide +kernel
theorem dX0_connect_81 : decode cX0_connect 81 = .ok (.iconst 1, 1) := by decide +kernel
theorem dX0_connect_82 : decode cX0_connect 82 = .ok (.ixor, 1) := by decide +kernel
theorem dX0_connect_83 : decode cX0_connect 83 = .ok (.iadd, 1) := by decide +kernel
theorem dX0_connect_84 : decode cX0_connect 84 = .ok (.iload_n 1, 1) := by decide +kernel
theorem dX0_connect_85 : decode cX0_connect 85 = .ok (.iastore, 1) := by decide +kernel
theorem dX0_connect_86 : decode cX0_connect 86 = .ok (.return_, 1) := by decide +kernel
theorem dX0_putCoincidence_0 : decode cX0_putCoincidence 0 = .ok (.aload_n 0, 1) := by decide +kernel
theorem dX0_putCoincidence_1 : decode cX0_putCoincidence 1 = .ok (.getfield 80, 3) := by decide +kernel
theorem dX0_putCoincidence_4 : decode cX0_putCoincidence 4 = .ok (.sipush 2841, 3) := by decide +kernel
theorem dX0_putCoincidence_7 : decode cX0_putCoincidence 7 = .ok (.if_icmp .ge 33, 3) := by decide +kernel
theorem dX0_putCoincidence_10 : decode cX0_putCoincidence 10 = .ok (.aload_n 0, 1) := by decide +kernel
theorem dX0_putCoincidence_11 : decode cX0_putCoincidence 11 = .ok (.getfield 18, 3) := by decide +kernel
theorem dX0_putCoincidence_14 : decode cX0_putCoincidence 14 = .ok (.aload_n 0, 1) := by decide +kernel
theorem dX0_putCoincidence_15 : decode cX0_putCoincidence 15 = .ok (.getfield 80, 3) := by decide +kernel
theorem dX0_putCoincidence_18 : decode cX0_putCoincidence 18 = .ok (.iload_n 1, 1) := by decide +kernel
theorem dX0_putCoincidence_19 : decode cX0_putCoincidence 19 = .ok (.iastore, 1) := by decide +kernel
theorem dX0_putCoincidence_20 : decode cX0_putCoincidence 20 = .ok (.aload_n 0, 1) := by decide +kernel
theorem dX0_putCoincidence_21 : decode cX0_putCoincidence 21 = .ok (.getfield 21, 3) := by decide +kernel
theorem dX0_putCoincidence_24 : decode cX0_putCoincidence 24 = .ok (.aload_n 0, 1) := by decide +kernel
theorem dX0_putCoincidence_25 : decode cX0_putCoincidence 25 = .ok (.getfield 80, 3) := by decide +kernel
theorem dX0_putCoincidence_28 : decode cX0_putCoincidence 28 = .ok (.iload_n 2, 1) := by decide +kernel
theorem dX0_putCoincidence_29 : decode cX0_putCoincidence 29 = .ok (.iastore, 1) := by decide +kernel
theorem dX0_putCoincidence_30 : decode cX0_putCoincidence 30 = .ok (.aload_n 0, 1) := by decide +kernel
theorem dX0_putCoincidence_31 : decode cX0_putCoincidence 31 = .ok (.dup, 1) := by decide +kernel
theorem dX0_putCoincidence_32 : decode cX0_putCoincidence 32 = .ok (.getfield 80, 3) := by decide +kernel
theorem dX0_putCoincidence_35 : decode cX0_putCoincidence 35 = .ok (.iconst 1, 1) := by decide +kernel
theorem dX0_putCoincidence_36 : decode cX0_putCoincidence 36 = .ok (.iadd, 1) := by decide +kernel
theorem dX0_putCoincidence_37 : decode cX0_putCoincidence 37 = .ok (.putfield 80, 3) := by decide +kernel
theorem dX0_putCoincidence_40 : decode cX0_putCoincidence 40 = .ok (.return_, 1) := by decide +kernel
theorem dX0_mergeCoincidences_0 : decode cX0_mergeCoincidences 0 = .ok (.iconst 0, 1) := by decide +kernel
theorem dX0_mergeCoincidences_1 : decode cX0_mergeCoincidences 1 = .ok (.istore_n 1, 1) := by decide +kernel
theorem dX0_mergeCoincidences_2 : decode cX0_mergeCoincidences 2 = .ok (.iload_n 1, 1) := by decide +kernel
theorem dX0_mergeCoincidences_3 : decode cX0_mergeCoincidences 3 = .ok (.aload_n 0, 1) := by decide +kernel
theorem dX0_mergeCoincidences_4 : decode cX0_mergeCoincidences 4 = .ok (.getfield 80, 3) := by decide +kernel
theorem dX0_mergeCoincidences_7 : decode cX0_mergeCoincidences 7 = .ok (.if_icmp .ge 57, 3) := by decide +kernel
theorem dX0_mergeCoincidences_10 : decode cX0_mergeCoincidences 10 = .ok (.iload_n 1, 1) := by decide +kernel
theorem dX0_mergeCoincidences_11 : decode cX0_mergeCoincidences 11 = .ok (.sipush 2841, 3) := by decide +kernel
theorem dX0_mergeCoincidences_14 : decode cX0_mergeCoincidences 14 = .ok (.if_icmp .ge 50, 3) := by decide +kernel
theorem dX0_mergeCoincidences_17 : decode cX0_mergeCoincidences 17 = .ok (.aload_n 0, 1) := by decide +kernel
theorem dX0_mergeCoincidences_18 : decode cX0_mergeCoincidences 18 = .ok (.aload_n 0, 1) := by decide +kernel
theorem dX0_mergeCoincidences_19 : decode cX0_mergeCoincidences 19 = .ok (.getfield 18, 3) := by decide +kernel
theorem dX0_mergeCoincidences_22 : decode cX0_mergeCoincidences 22 = .ok (.iload_n 1, 1) := by decide +kernel
theorem dX0_mergeCoincidences_23 : decode cX0_mergeCoincidences 23 = .ok (.iaload, 1) := by decide +kernel
theorem dX0_mergeCoincidences_24 : decode cX0_mergeCoincidences 24 = .ok (.invokevirtual 83, 3) := by decide +kernel
theorem dX0_mergeCoincidences_27 : decode cX0_mergeCoincidences 27 = .ok (.istore_n 2, 1) := by decide +kernel
theorem dX0_mergeCoincidences_28 : decode cX0_mergeCoincidences 28 = .ok (.aload_n 0, 1) := by decide +kernel
theorem dX0_mergeCoincidences_29 : decode cX0_mergeCoincidences 29 = .ok (.aload_n 0, 1) := by decide +kernel
theorem dX0_mergeCoincidences_30 : decode cX0_mergeCoincidences 30 = .ok (.getfield 21, 3) := by decide +kernel
theorem dX0_mergeCoincidences_33 : decode cX0_mergeCoincidences 33 = .ok (.iload_n 1, 1) := by decide +kernel
theorem dX0_mergeCoincidences_34 : decode cX0_mergeCoincidences 34 = .ok (.iaload, 1) := by decide +kernel
theorem dX0_mergeCoincidences_35 : decode cX0_mergeCoincidences 35 = .ok (.invokevirtual 83, 3) := by decide +kernel
theorem dX0_mergeCoincidences_38 : decode cX0_mergeCoincidences 38 = .ok (.istore_n 3, 1) := by decide +kernel
theorem dX0_mergeCoincidences_39 : decode cX0_mergeCoincidences 39 = .ok (.iload_n 2, 1) := by decide +kernel
theorem dX0_mergeCoincidences_40 : decode cX0_mergeCoincidences 40 = .ok (.iload_n 3, 1) := by decide +kernel
theorem dX0_mergeCoincidences_41 : decode cX0_mergeCoincidences 41 = .ok (.if_icmp .eq 17, 3) := by decide +kernel
theorem dX0_mergeCoincidences_44 : decode cX0_mergeCoincidences 44 = .ok (.aload_n 0, 1) := by decide +kernel
theorem dX0_mergeCoincidences_45 : decode cX0_mergeCoincidences 45 = .ok (.iload_n 2, 1) := by decide +kernel
theorem dX0_mergeCoincidences_46 : decode cX0_mergeCoincidences 46 = .ok (.iload_n 3, 1) := by decide +kernel
theorem dX0_mergeCoincidences_47 : decode cX0_mergeCoincidences 47 = .ok (.invokestatic 87, 3) := by decide +kernel
theorem dX0_mergeCoincidences_50 : decode cX0_mergeCoincidences 50 = .ok (.iload_n 2, 1) := by decide +kernel
theorem dX0_mergeCoincidences_51 : decode cX0_mergeCoincidences 51 = .ok (.iload_n 3, 1) := by decide +kernel
theorem dX0_mergeCoincidences_52 : decode cX0_mergeCoincidences 52 = .ok (.invokestatic 93, 3) := by decide +kernel
theorem dX0_mergeCoincidences_55 : decode cX0_mergeCoincidences 55 = .ok (.invokevirtual 96, 3) := by decide +kernel
theorem dX0_mergeCoincidences_58 : decode cX0_mergeCoincidences 58 = .ok (.iinc 1 1, 3) := by decide +kernel
theorem dX0_mergeCoincidences_61 : decode cX0_mergeCoincidences 61 = .ok (.goto (-59), 3) := by decide +kernel
theorem dX0_mergeCoincidences_64 : decode cX0_mergeCoincidences 64 = .ok (.aload_n 0, 1) := by decide +kernel
theorem dX0_mergeCoincidences_65 : decode cX0_mergeCoincidences 65 = .ok (.iconst 0, 1) := by decide +kernel
theorem dX0_mergeCoincidences_66 : decode cX0_mergeCoincidences 66 = .ok (.putfield 80, 3) := by decide +kernel
theorem dX0_mergeCoincidences_69 : decode cX0_mergeCoincidences 69 = .ok (.return_, 1) := by decide +kernel
theorem dX0_survivorOf_0 : decode cX0_survivorOf 0 = .ok (.iload_n 1, 1) := by decide +kernel
theorem dX0_survivorOf_1 : decode cX0_survivorOf 1 = .ok (.istore_n 2, 1) := by decide +kernel
theorem dX0_survivorOf_2 : decode cX0_survivorOf 2 = .ok (.iconst 0, 1) := by decide +kernel
theorem dX0_survivorOf_3 : decode cX0_survivorOf 3 = .ok (.istore_n 3, 1) := by decide +kernel
theorem dX0_survivorOf_4 : decode cX0_survivorOf 4 = .ok (.iload_n 3, 1) := by decide +kernel
theorem dX0_survivorOf_5 : decode cX0_survivorOf 5 = .ok (.sipush 355, 3) := by decide +kernel
theorem dX0_survivorOf_8 : decode cX0_survivorOf 8 = .ok (.if_icmp .ge 43, 3) := by decide +kernel
theorem dX0_survivorOf_11 : decode cX0_survivorOf 11 = .ok (.aload_n 0, 1) := by decide +kernel
theorem dX0_survivorOf_12 : decode cX0_survivorOf 12 = .ok (.getfield 15, 3) := by decide +kernel
theorem dX0_survivorOf_15 : decode cX0_survivorOf 15 = .ok (.iload_n 2, 1) := by decide +kernel
theorem dX0_survivorOf_16 : decode cX0_survivorOf 16 = .ok (.iaload, 1) := by decide +kernel
theorem dX0_survivorOf_17 : decode cX0_survivorOf 17 = .ok (.iload_n 2, 1) := by decide +kernel
theorem dX0_survivorOf_18 : decode cX0_survivorOf 18 = .ok (.if_icmp .eq 33, 3) := by decide +kernel
theorem dX0_survivorOf_21 : decode cX0_survivorOf 21 = .ok (.aload_n 0, 1) := by decide +kernel
theorem dX0_survivorOf_22 : decode cX0_survivorOf 22 = .ok (.getfield 15, 3) := by decide +kernel
theorem dX0_survivorOf_25 : decode cX0_survivorOf 25 = .ok (.iload_n 2, 1) := by decide +kernel
theorem dX0_survivorOf_26 : decode cX0_survivorOf 26 = .ok (.aload_n 0, 1) := by decide +kernel
theorem dX0_survivorOf_27 : decode cX0_survivorOf 27 = .ok (.getfield 15, 3) := by decide +kernel
theorem dX0_survivorOf_30 : decode cX0_survivorOf 30 = .ok (.aload_n 0, 1) := by decide +kernel
theorem dX0_survivorOf_31 : decode cX0_survivorOf 31 = .ok (.getfield 15, 3) := by decide +kernel
theorem dX0_survivorOf_34 : decode cX0_survivorOf 34 = .ok (.iload_n 2, 1) := by decide +kernel
theorem dX0_survivorOf_35 : decode cX0_survivorOf 35 = .ok (.iaload, 1) := by decide +kernel
theorem dX0_survivorOf_36 : decode cX0_survivorOf 36 = .ok (.iaload, 1) := by decide +kernel
theorem dX0_survivorOf_37 : decode cX0_survivorOf 37 = .ok (.iastore, 1) := by decide +kernel
theorem dX0_survivorOf_38 : decode cX0_survivorOf 38 = .ok (.aload_n 0, 1) := by decide +kernel
theorem dX0_survivorOf_39 : decode cX0_survivorOf 39 = .ok (.getfield 15, 3) := by decide +kernel
theorem dX0_survivorOf_42 : decode cX0_survivorOf 42 = .ok (.iload_n 2, 1) := by decide +kernel
theorem dX0_survivorOf_43 : decode cX0_survivorOf 43 = .ok (.iaload, 1) := by decide +kernel
theorem dX0_survivorOf_44 : decode cX0_survivorOf 44 = .ok (.istore_n 2, 1) := by decide +kernel
theorem dX0_survivorOf_45 : decode cX0_survivorOf 45 = .ok (.iinc 3 1, 3) := by decide +kernel
theorem dX0_survivorOf_48 : decode cX0_survivorOf 48 = .ok (.goto (-44), 3) := by decide +kernel
theorem dX0_survivorOf_51 : decode cX0_survivorOf 51 = .ok (.iload_n 2, 1) := by decide +kernel
theorem dX0_survivorOf_52 : decode cX0_survivorOf 52 = .ok (.ireturn, 1) := by decide +kernel
theorem dX0_mergeVertices_0 : decode cX0_mergeVertices 0 = .ok (.aload_n 0, 1) := by decide +kernel
theorem dX0_mergeVertices_1 : decode cX0_mergeVertices 1 = .ok (.getfield 15, 3) := by decide +kernel
theorem dX0_mergeVertices_4 : decode cX0_mergeVertices 4 = .ok (.iload_n 2, 1) := by decide +kernel
theorem dX0_mergeVertices_5 : decode cX0_mergeVertices 5 = .ok (.iload_n 1, 1) := by decide +kernel
theorem dX0_mergeVertices_6 : decode cX0_mergeVertices 6 = .ok (.iastore, 1) := by decide +kernel
theorem dX0_mergeVertices_7 : decode cX0_mergeVertices 7 = .ok (.iconst 0, 1) := by decide +kernel
theorem dX0_mergeVertices_8 : decode cX0_mergeVertices 8 = .ok (.istore_n 3, 1) := by decide +kernel
theorem dX0_mergeVertices_9 : decode cX0_mergeVertices 9 = .ok (.iload_n 3, 1) := by decide +kernel
theorem dX0_mergeVertices_10 : decode cX0_mergeVertices 10 = .ok (.bipush 8, 2) := by decide +kernel
theorem dX0_mergeVertices_12 : decode cX0_mergeVertices 12 = .ok (.if_icmp .ge 73, 3) := by decide +kernel
theorem dX0_mergeVertices_15 : decode cX0_mergeVertices 15 = .ok (.aload_n 0, 1) := by decide +kernel
theorem dX0_mergeVertices_16 : decode cX0_mergeVertices 16 = .ok (.getfield 9, 3) := by decide +kernel
theorem dX0_mergeVertices_19 : decode cX0_mergeVertices 19 = .ok (.iload_n 2, 1) := by decide +kernel
theorem dX0_mergeVertices_20 : decode cX0_mergeVertices 20 = .ok (.bipush 8, 2) := by decide +kernel
theorem dX0_mergeVertices_22 : decode cX0_mergeVertices 22 = .ok (.imul, 1) := by decide +kernel
theorem dX0_mergeVertices_23 : decode cX0_mergeVertices 23 = .ok (.iload_n 3, 1) := by decide +kernel
theorem dX0_mergeVertices_24 : decode cX0_mergeVertices 24 = .ok (.iadd, 1) := by decide +kernel
theorem dX0_mergeVertices_25 : decode cX0_mergeVertices 25 = .ok (.iaload, 1) := by decide +kernel
theorem dX0_mergeVertices_26 : decode cX0_mergeVertices 26 = .ok (.istore 4, 2) := by decide +kernel
theorem dX0_mergeVertices_28 : decode cX0_mergeVertices 28 = .ok (.iload 4, 2) := by decide +kernel
theorem dX0_mergeVertices_30 : decode cX0_mergeVertices 30 = .ok (.iconst (-1), 1) := by decide +kernel
theorem dX0_mergeVertices_31 : decode cX0_mergeVertices 31 = .ok (.if_icmp .eq 48, 3) := by decide +kernel
theorem dX0_mergeVertices_34 : decode cX0_mergeVertices 34 = .ok (.aload_n 0, 1) := by decide +kernel
theorem dX0_mergeVertices_35 : decode cX0_mergeVertices 35 = .ok (.getfield 9, 3) := by decide +kernel
theorem dX0_mergeVertices_38 : decode cX0_mergeVertices 38 = .ok (.iload_n 2, 1) := by decide +kernel
theorem dX0_mergeVertices_39 : decode cX0_mergeVertices 39 = .ok (.bipush 8, 2) := by decide +kernel
theorem dX0_mergeVertices_41 : decode cX0_mergeVertices 41 = .ok (.imul, 1) := by decide +kernel
theorem dX0_mergeVertices_42 : decode cX0_mergeVertices 42 = .ok (.iload_n 3, 1) := by decide +kernel
theorem dX0_mergeVertices_43 : decode cX0_mergeVertices 43 = .ok (.iadd, 1) := by decide +kernel
theorem dX0_mergeVertices_44 : decode cX0_mergeVertices 44 = .ok (.iconst (-1), 1) := by decide +kernel
theorem dX0_mergeVertices_45 : decode cX0_mergeVertices 45 = .ok (.iastore, 1) := by decide +kernel
theorem dX0_mergeVertices_46 : decode cX0_mergeVertices 46 = .ok (.aload_n 0, 1) := by decide +kernel
theorem dX0_mergeVertices_47 : decode cX0_mergeVertices 47 = .ok (.getfield 9, 3) := by decide +kernel
theorem dX0_mergeVertices_50 : decode cX0_mergeVertices 50 = .ok (.iload 4, 2) := by decide +kernel
theorem dX0_mergeVertices_52 : decode cX0_mergeVertices 52 = .ok (.bipush 8, 2) := by decide +kernel
theorem dX0_mergeVertices_54 : decode cX0_mergeVertices 54 = .ok (.imul, 1) := by decide +kernel
theorem dX0_mergeVertices_55 : decode cX0_mergeVertices 55 = .ok (.iload_n 3, 1) := by decide +kernel
theorem dX0_mergeVertices_56 : decode cX0_mergeVertices 56 = .ok (.iconst 1, 1) := by decide +kernel
theorem dX0_mergeVertices_57 : decode cX0_mergeVertices 57 = .ok (.ixor, 1) := by decide +kernel
theorem dX0_mergeVertices_58 : decode cX0_mergeVertices 58 = .ok (.iadd, 1) := by decide +kernel
theorem dX0_mergeVertices_59 : decode cX0_mergeVertices 59 = .ok (.iconst (-1), 1) := by decide +kernel
theorem dX0_mergeVertices_60 : decode cX0_mergeVertices 60 = .ok (.iastore, 1) := by decide +kernel
theorem dX0_mergeVertices_61 : decode cX0_mergeVertices 61 = .ok (.aload_n 0, 1) := by decide +kernel
theorem dX0_mergeVertices_62 : decode cX0_mergeVertices 62 = .ok (.iload_n 1, 1) := by decide +kernel
theorem dX0_mergeVertices_63 : decode cX0_mergeVertices 63 = .ok (.iload_n 3, 1) := by decide +kernel
theorem dX0_mergeVertices_64 : decode cX0_mergeVertices 64 = .ok (.iload 4, 2) := by decide +kernel
theorem dX0_mergeVertices_66 : decode cX0_mergeVertices 66 = .ok (.iload_n 2, 1) := by decide +kernel
theorem dX0_mergeVertices_67 : decode cX0_mergeVertices 67 = .ok (.if_icmp .ne 7, 3) := by decide +kernel
theorem dX0_mergeVertices_70 : decode cX0_mergeVertices 70 = .ok (.iload_n 1, 1) := by decide +kernel
theorem dX0_mergeVertices_71 : decode cX0_mergeVertices 71 = .ok (.goto 5, 3) := by decide +kernel
theorem dX0_mergeVertices_74 : decode cX0_mergeVertices 74 = .ok (.iload 4, 2) := by decide +kernel
theorem dX0_mergeVertices_76 : decode cX0_mergeVertices 76 = .ok (.invokevirtual 72, 3) := by decide +kernel
theorem dX0_mergeVertices_79 : decode cX0_mergeVertices 79 = .ok (.iinc 3 1, 3) := by decide +kernel
theorem dX0_mergeVertices_82 : decode cX0_mergeVertices 82 = .ok (.goto (-73), 3) := by decide +kernel
theorem dX0_mergeVertices_85 : decode cX0_mergeVertices 85 = .ok (.return_, 1) := by decide +kernel
theorem dX0_numberVertices_0 : decode cX0_numberVertices 0 = .ok (.aload_n 0, 1) := by decide +kernel
theorem dX0_numberVertices_1 : decode cX0_numberVertices 1 = .ok (.getfield 24, 3) := by decide +kernel
theorem dX0_numberVertices_4 : decode cX0_numberVertices 4 = .ok (.iconst (-1), 1) := by decide +kernel
theorem dX0_numberVertices_5 : decode cX0_numberVertices 5 = .ok (.invokestatic 30, 3) := by decide +kernel
theorem dX0_numberVertices_8 : decode cX0_numberVertices 8 = .ok (.aload_n 0, 1) := by decide +kernel
theorem dX0_numberVertices_9 : decode cX0_numberVertices 9 = .ok (.getfield 24, 3) := by decide +kernel
theorem dX0_numberVertices_12 : decode cX0_numberVertices 12 = .ok (.iconst 0, 1) := by decide +kernel
theorem dX0_numberVertices_13 : decode cX0_numberVertices 13 = .ok (.iconst 0, 1) := by decide +kernel
theorem dX0_numberVertices_14 : decode cX0_numberVertices 14 = .ok (.iastore, 1) := by decide +kernel
theorem dX0_numberVertices_15 : decode cX0_numberVertices 15 = .ok (.aload_n 0, 1) := by decide +kernel
theorem dX0_numberVertices_16 : decode cX0_numberVertices 16 = .ok (.getfield 27, 3) := by decide +kernel
theorem dX0_numberVertices_19 : decode cX0_numberVertices 19 = .ok (.iconst 0, 1) := by decide +kernel
theorem dX0_numberVertices_20 : decode cX0_numberVertices 20 = .ok (.iconst 0, 1) := by decide +kernel
theorem dX0_numberVertices_21 : decode cX0_numberVertices 21 = .ok (.iastore, 1) := by decide +kernel
theorem dX0_numberVertices_22 : decode cX0_numberVertices 22 = .ok (.aload_n 1, 1) := by decide +kernel
theorem dX0_numberVertices_23 : decode cX0_numberVertices 23 = .ok (.iconst 1, 1) := by decide +kernel
theorem dX0_numberVertices_24 : decode cX0_numberVertices 24 = .ok (.putfield 99, 3) := by decide +kernel
theorem dX0_numberVertices_27 : decode cX0_numberVertices 27 = .ok (.aload_n 1, 1) := by decide +kernel
theorem dX0_numberVertices_28 : decode cX0_numberVertices 28 = .ok (.iconst 0, 1) := by decide +kernel
theorem dX0_numberVertices_29 : decode cX0_numberVertices 29 = .ok (.putfield 104, 3) := by decide +kernel
theorem dX0_numberVertices_32 : decode cX0_numberVertices 32 = .ok (.iconst 0, 1) := by decide +kernel
theorem dX0_numberVertices_33 : decode cX0_numberVertices 33 = .ok (.istore_n 2, 1) := by decide +kernel
theorem dX0_numberVertices_34 : decode cX0_numberVertices 34 = .ok (.iload_n 2, 1) := by decide +kernel
theorem dX0_numberVertices_35 : decode cX0_numberVertices 35 = .ok (.aload_n 1, 1) := by decide +kernel
theorem dX0_numberVertices_36 : decode cX0_numberVertices 36 = .ok (.getfield 99, 3) := by decide +kernel
theorem dX0_numberVertices_39 : decode cX0_numberVertices 39 = .ok (.if_icmp .ge 125, 3) := by decide +kernel
theorem dX0_numberVertices_42 : decode cX0_numberVertices 42 = .ok (.iload_n 2, 1) := by decide +kernel
theorem dX0_numberVertices_43 : decode cX0_numberVertices 43 = .ok (.sipush 355, 3) := by decide +kernel
theorem dX0_numberVertices_46 : decode cX0_numberVertices 46 = .ok (.if_icmp .ge 118, 3) := by decide +kernel
theorem dX0_numberVertices_49 : decode cX0_numberVertices 49 = .ok (.iconst 0, 1) := by decide +kernel
theorem dX0_numberVertices_50 : decode cX0_numberVertices 50 = .ok (.istore_n 3, 1) := by decide +kernel
theorem dX0_numberVertices_51 : decode cX0_numberVertices 51 = .ok (.iload_n 3, 1) := by decide +kernel
theorem dX0_numberVertices_52 : decode cX0_numberVertices 52 = .ok (.bipush 8, 2) := by decide +kernel
theorem dX0_numberVertices_54 : decode cX0_numberVertices 54 = .ok (.if_icmp .ge 104, 3) := by decide +kernel
theorem dX0_numberVertices_57 : decode cX0_numberVertices 57 = .ok (.aload_n 0, 1) := by decide +kernel
theorem dX0_numberVertices_58 : decode cX0_numberVertices 58 = .ok (.getfield 9, 3) := by decide +kernel
theorem dX0_numberVertices_61 : decode cX0_numberVertices 61 = .ok (.aload_n 0, 1) := by decide +kernel
theorem dX0_numberVertices_62 : decode cX0_numberVertices 62 = .ok (.getfield 27, 3) := by decide +kernel
theorem dX0_numberVertices_65 : decode cX0_numberVertices 65 = .ok (.iload_n 2, 1) := by decide +kernel
theorem dX0_numberVertices_66 : decode cX0_numberVertices 66 = .ok (.iaload, 1) := by decide +kernel
theorem dX0_numberVertices_67 : decode cX0_numberVertices 67 = .ok (.bipush 8, 2) := by decide +kernel
theorem dX0_numberVertices_69 : decode cX0_numberVertices 69 = .ok (.imul, 1) := by decide +kernel
theorem dX0_numberVertices_70 : decode cX0_numberVertices 70 = .ok (.iload_n 3, 1) := by decide +kernel
theorem dX0_numberVertices_71 : decode cX0_numberVertices 71 = .ok (.iadd, 1) := by decide +kernel
theorem dX0_numberVertices_72 : decode cX0_numberVertices 72 = .ok (.iaload, 1) := by decide +kernel
theorem dX0_numberVertices_73 : decode cX0_numberVertices 73 = .ok (.istore 4, 2) := by decide +kernel
theorem dX0_numberVertices_75 : decode cX0_numberVertices 75 = .ok (.iload 4, 2) := by decide +kernel
theorem dX0_numberVertices_77 : decode cX0_numberVertices 77 = .ok (.iconst (-1), 1) := by decide +kernel
theorem dX0_numberVertices_78 : decode cX0_numberVertices 78 = .ok (.if_icmp .eq 23, 3) := by decide +kernel
theorem dX0_numberVertices_81 : decode cX0_numberVertices 81 = .ok (.aload_n 0, 1) := by decide +kernel
theorem dX0_numberVertices_82 : decode cX0_numberVertices 82 = .ok (.getfield 24, 3) := by decide +kernel
theorem dX0_numberVertices_85 : decode cX0_numberVertices 85 = .ok (.iload 4, 2) := by decide +kernel
theorem dX0_numberVertices_87 : decode cX0_numberVertices 87 = .ok (.iaload, 1) := by decide +kernel
theorem dX0_numberVertices_88 : decode cX0_numberVertices 88 = .ok (.iconst (-1), 1) := by decide +kernel
theorem dX0_numberVertices_89 : decode cX0_numberVertices 89 = .ok (.if_icmp .ne 12, 3) := by decide +kernel
theorem dX0_numberVertices_92 : decode cX0_numberVertices 92 = .ok (.aload_n 0, 1) := by decide +kernel
theorem dX0_numberVertices_93 : decode cX0_numberVertices 93 = .ok (.aload_n 1, 1) := by decide +kernel
theorem dX0_numberVertices_94 : decode cX0_numberVertices 94 = .ok (.iload 4, 2) := by decide +kernel
theorem dX0_numberVertices_96 : decode cX0_numberVertices 96 = .ok (.iload_n 2, 1) := by decide +kernel
theorem dX0_numberVertices_97 : decode cX0_numberVertices 97 = .ok (.iload_n 3, 1) := by decide +kernel
theorem dX0_numberVertices_98 : decode cX0_numberVertices 98 = .ok (.invokevirtual 107, 3) := by decide +kernel
theorem dX0_numberVertices_101 : decode cX0_numberVertices 101 = .ok (.iload 4, 2) := by decide +kernel
theorem dX0_numberVertices_103 : decode cX0_numberVertices 103 = .ok (.iconst (-1), 1) := by decide +kernel
theorem dX0_numberVertices_104 : decode cX0_numberVertices 104 = .ok (.if_icmp .eq 20, 3) := by decide +kernel
theorem dX0_numberVertices_107 : decode cX0_numberVertices 107 = .ok (.iload_n 3, 1) := by decide +kernel
theorem dX0_numberVertices_108 : decode cX0_numberVertices 108 = .ok (.invokestatic 111, 3) := by decide +kernel
theorem dX0_numberVertices_111 : decode cX0_numberVertices 111 = .ok (.ifCond .ne 13, 3) := by decide +kernel
theorem dX0_numberVertices_114 : decode cX0_numberVertices 114 = .ok (.aload_n 1, 1) := by decide +kernel
theorem dX0_numberVertices_115 : decode cX0_numberVertices 115 = .ok (.dup, 1) := by decide +kernel
theorem dX0_numberVertices_116 : decode cX0_numberVertices 116 = .ok (.getfield 104, 3) := by decide +kernel
theorem dX0_numberVertices_119 : decode cX0_numberVertices 119 = .ok (.iconst 1, 1) := by decide +kernel
theorem dX0_numberVertices_120 : decode cX0_numberVertices 120 = .ok (.iadd, 1) := by decide +kernel
theorem dX0_numberVertices_121 : decode cX0_numberVertices 121 = .ok (.putfield 104, 3) := by decide +kernel
theorem dX0_numberVertices_124 : decode cX0_numberVertices 124 = .ok (.aload_n 1, 1) := by decide +kernel
theorem dX0_numberVertices_125 : decode cX0_numberVertices 125 = .ok (.getfield 115, 3) := by decide +kernel
theorem dX0_numberVertices_128 : decode cX0_numberVertices 128 = .ok (.iload_n 2, 1) := by decide +kernel
theorem dX0_numberVertices_129 : decode cX0_numberVertices 129 = .ok (.bipush 8, 2) := by decide +kernel
theorem dX0_numberVertices_131 : decode cX0_numberVertices 131 = .ok (.imul, 1) := by decide +kernel
theorem dX0_numberVertices_132 : decode cX0_numberVertices 132 = .ok (.iload_n 3, 1) := by decide +kernel
theorem dX0_numberVertices_133 : decode cX0_numberVertices 133 = .ok (.iadd, 1) := by decide +kernel
theorem dX0_numberVertices_134 : decode cX0_numberVertices 134 = .ok (.iload 4, 2) := by decide +kernel
theorem dX0_numberVertices_136 : decode cX0_numberVertices 136 = .ok (.iconst (-1), 1) := by decide +kernel
theorem dX0_numberVertices_137 : decode cX0_numberVertices 137 = .ok (.if_icmp .ne 7, 3) := by decide +kernel
theorem dX0_numberVertices_140 : decode cX0_numberVertices 140 = .ok (.iconst (-1), 1) := by decide +kernel
theorem dX0_numberVertices_141 : decode cX0_numberVertices 141 = .ok (.goto 10, 3) := by decide +kernel
theorem dX0_numberVertices_144 : decode cX0_numberVertices 144 = .ok (.aload_n 0, 1) := by decide +kernel
theorem dX0_numberVertices_145 : decode cX0_numberVertices 145 = .ok (.getfield 24, 3) := by decide +kernel
theorem dX0_numberVertices_148 : decode cX0_numberVertices 148 = .ok (.iload 4, 2) := by decide +kernel
theorem dX0_numberVertices_150 : decode cX0_numberVertices 150 = .ok (.iaload, 1) := by decide +kernel
theorem dX0_numberVertices_151 : decode cX0_numberVertices 151 = .ok (.iastore, 1) := by decide +kernel
theorem dX0_numberVertices_152 : decode cX0_numberVertices 152 = .ok (.iinc 3 1, 3) := by decide +kernel
theorem dX0_numberVertices_155 : decode cX0_numberVertices 155 = .ok (.goto (-104), 3) := by decide +kernel
theorem dX0_numberVertices_158 : decode cX0_numberVertices 158 = .ok (.iinc 2 1, 3) := by decide +kernel
theorem dX0_numberVertices_161 : decode cX0_numberVertices 161 = .ok (.goto (-127), 3) := by decide +kernel
theorem dX0_numberVertices_164 : decode cX0_numberVertices 164 = .ok (.return_, 1) := by decide +kernel
theorem dX0_reach_0 : decode cX0_reach 0 = .ok (.aload_n 1, 1) := by decide +kernel
theorem dX0_reach_1 : decode cX0_reach 1 = .ok (.getfield 99, 3) := by decide +kernel
theorem dX0_reach_4 : decode cX0_reach 4 = .ok (.istore 5, 2) := by decide +kernel
theorem dX0_reach_6 : decode cX0_reach 6 = .ok (.iload 5, 2) := by decide +kernel
theorem dX0_reach_8 : decode cX0_reach 8 = .ok (.sipush 355, 3) := by decide +kernel
theorem dX0_reach_11 : decode cX0_reach 11 = .ok (.if_icmp .ge 59, 3) := by decide +kernel
theorem dX0_reach_14 : decode cX0_reach 14 = .ok (.aload_n 0, 1) := by decide +kernel
theorem dX0_reach_15 : decode cX0_reach 15 = .ok (.getfield 24, 3) := by decide +kernel
theorem dX0_reach_18 : decode cX0_reach 18 = .ok (.iload_n 2, 1) := by decide +kernel
theorem dX0_reach_19 : decode cX0_reach 19 = .ok (.iload 5, 2) := by decide +kernel
theorem dX0_reach_21 : decode cX0_reach 21 = .ok (.iastore, 1) := by decide +kernel
theorem dX0_reach_22 : decode cX0_reach 22 = .ok (.aload_n 0, 1) := by decide +kernel
theorem dX0_reach_23 : decode cX0_reach 23 = .ok (.getfield 27, 3) := by decide +kernel
theorem dX0_reach_26 : decode cX0_reach 26 = .ok (.iload 5, 2) := by decide +kernel
theorem dX0_reach_28 : decode cX0_reach 28 = .ok (.iload_n 2, 1) := by decide +kernel
theorem dX0_reach_29 : decode cX0_reach 29 = .ok (.iastore, 1) := by decide +kernel
theorem dX0_reach_30 : decode cX0_reach 30 = .ok (.aload_n 1, 1) := by decide +kernel
theorem dX0_reach_31 : decode cX0_reach 31 = .ok (.getfield 116, 3) := by decide +kernel
theorem dX0_reach_34 : decode cX0_reach 34 = .ok (.iload 5, 2) := by decide +kernel
theorem dX0_reach_36 : decode cX0_reach 36 = .ok (.iload_n 3, 1) := by decide +kernel
theorem dX0_reach_37 : decode cX0_reach 37 = .ok (.iastore, 1) := by decide +kernel
theorem dX0_reach_38 : decode cX0_reach 38 = .ok (.aload_n 1, 1) := by decide +kernel
theorem dX0_reach_39 : decode cX0_reach 39 = .ok (.getfield 119, 3) := by decide +kernel
theorem dX0_reach_42 : decode cX0_reach 42 = .ok (.iload 5, 2) := by decide +kernel
theorem dX0_reach_44 : decode cX0_reach 44 = .ok (.iload 4, 2) := by decide +kernel
theorem dX0_reach_46 : decode cX0_reach 46 = .ok (.iastore, 1) := by decide +kernel
theorem dX0_reach_47 : decode cX0_reach 47 = .ok (.aload_n 1, 1) := by decide +kernel
theorem dX0_reach_48 : decode cX0_reach 48 = .ok (.getfield 122, 3) := by decide +kernel
theorem dX0_reach_51 : decode cX0_reach 51 = .ok (.iload 5, 2) := by decide +kernel
theorem dX0_reach_53 : decode cX0_reach 53 = .ok (.aload_n 1, 1) := by decide +kernel
theorem dX0_reach_54 : decode cX0_reach 54 = .ok (.getfield 122, 3) := by decide +kernel
theorem dX0_reach_57 : decode cX0_reach 57 = .ok (.iload_n 3, 1) := by decide +kernel
theorem dX0_reach_58 : decode cX0_reach 58 = .ok (.iaload, 1) := by decide +kernel
theorem dX0_reach_59 : decode cX0_reach 59 = .ok (.iconst 1, 1) := by decide +kernel
theorem dX0_reach_60 : decode cX0_reach 60 = .ok (.iadd, 1) := by decide +kernel
theorem dX0_reach_61 : decode cX0_reach 61 = .ok (.iastore, 1) := by decide +kernel
theorem dX0_reach_62 : decode cX0_reach 62 = .ok (.aload_n 1, 1) := by decide +kernel
theorem dX0_reach_63 : decode cX0_reach 63 = .ok (.iload 5, 2) := by decide +kernel
theorem dX0_reach_65 : decode cX0_reach 65 = .ok (.iconst 1, 1) := by decide +kernel
theorem dX0_reach_66 : decode cX0_reach 66 = .ok (.iadd, 1) := by decide +kernel
theorem dX0_reach_67 : decode cX0_reach 67 = .ok (.putfield 99, 3) := by decide +kernel
theorem dX0_reach_70 : decode cX0_reach 70 = .ok (.return_, 1) := by decide +kernel
theorem dX1_init_0 : decode cX1_init 0 = .ok (.aload_n 0, 1) := by decide +kernel
theorem dX1_init_1 : decode cX1_init 1 = .ok (.invokespecial 3, 3) := by decide +kernel
theorem dX1_init_4 : decode cX1_init 4 = .ok (.aload_n 0, 1) := by decide +kernel
theorem dX1_init_5 : decode cX1_init 5 = .ok (.sipush 180, 3) := by decide +kernel
theorem dX1_init_8 : decode cX1_init 8 = .ok (.newarray .char, 2) := by decide +kernel
theorem dX1_init_10 : decode cX1_init 10 = .ok (.putfield 9, 3) := by decide +kernel
theorem dX1_init_13 : decode cX1_init 13 = .ok (.return_, 1) := by decide +kernel
theorem dX1_writeLetters_0 : decode cX1_writeLetters 0 = .ok (.aload_n 0, 1) := by decide +kernel
theorem dX1_writeLetters_1 : decode cX1_writeLetters 1 = .ok (.iconst 0, 1) := by decide +kernel
theorem dX1_writeLetters_2 : decode cX1_writeLetters 2 = .ok (.putfield 15, 3) := by decide +kernel
theorem dX1_writeLetters_5 : decode cX1_writeLetters 5 = .ok (.iconst 0, 1) := by decide +kernel
theorem dX1_writeLetters_6 : decode cX1_writeLetters 6 = .ok (.istore_n 2, 1) := by decide +kernel
theorem dX1_writeLetters_7 : decode cX1_writeLetters 7 = .ok (.iload_n 2, 1) := by decide +kernel
theorem dX1_writeLetters_8 : decode cX1_writeLetters 8 = .ok (.aload_n 1, 1) := by decide +kernel
theorem dX1_writeLetters_9 : decode cX1_writeLetters 9 = .ok (.getfield 19, 3) := by decide +kernel
theorem dX1_writeLetters_12 : decode cX1_writeLetters 12 = .ok (.if_icmp .ge 22, 3) := by decide +kernel
theorem dX1_writeLetters_15 : decode cX1_writeLetters 15 = .ok (.aload_n 0, 1) := by decide +kernel
theorem dX1_writeLetters_16 : decode cX1_writeLetters 16 = .ok (.aload_n 1, 1) := by decide +kernel
theorem dX1_writeLetters_17 : decode cX1_writeLetters 17 = .ok (.getfield 22, 3) := by decide +kernel
theorem dX1_writeLetters_20 : decode cX1_writeLetters 20 = .ok (.iload_n 2, 1) := by decide +kernel
theorem dX1_writeLetters_21 : decode cX1_writeLetters 21 = .ok (.iaload, 1) := by decide +kernel
theorem dX1_writeLetters_22 : decode cX1_writeLetters 22 = .ok (.invokestatic 26, 3) := by decide +kernel
theorem dX1_writeLetters_25 : decode cX1_writeLetters 25 = .ok (.invokevirtual 30, 3) := by decide +kernel
theorem dX1_writeLetters_28 : decode cX1_writeLetters 28 = .ok (.iinc 2 1, 3) := by decide +kernel
theorem dX1_writeLetters_31 : decode cX1_writeLetters 31 = .ok (.goto (-24), 3) := by decide +kernel
theorem dX1_writeLetters_34 : decode cX1_writeLetters 34 = .ok (.return_, 1) := by decide +kernel
theorem dX1_writeRuns_0 : decode cX1_writeRuns 0 = .ok (.aload_n 0, 1) := by decide +kernel
theorem dX1_writeRuns_1 : decode cX1_writeRuns 1 = .ok (.iconst 0, 1) := by decide +kernel
theorem dX1_writeRuns_2 : decode cX1_writeRuns 2 = .ok (.putfield 15, 3) := by decide +kernel
theorem dX1_writeRuns_5 : decode cX1_writeRuns 5 = .ok (.iconst 0, 1) := by decide +kernel
theorem dX1_writeRuns_6 : decode cX1_writeRuns 6 = .ok (.istore_n 2, 1) := by decide +kernel
theorem dX1_writeRuns_7 : decode cX1_writeRuns 7 = .ok (.iconst 0, 1) := by decide +kernel
theorem dX1_writeRuns_8 : decode cX1_writeRuns 8 = .ok (.istore_n 3, 1) := by decide +kernel
theorem dX1_writeRuns_9 : decode cX1_writeRuns 9 = .ok (.iload_n 3, 1) := by decide +kernel
theorem dX1_writeRuns_10 : decode cX1_writeRuns 10 = .ok (.aload_n 1, 1) := by decide +kernel
theorem dX1_writeRuns_11 : decode cX1_writeRuns 11 = .ok (.getfield 19, 3) := by decide +kernel
theorem dX1_writeRuns_14 : decode cX1_writeRuns 14 = .ok (.if_icmp .ge 52, 3) := by decide +kernel
theorem dX1_writeRuns_17 : decode cX1_writeRuns 17 = .ok (.iinc 2 1, 3) := by decide +kernel
theorem dX1_writeRuns_20 : decode cX1_writeRuns 20 = .ok (.iload_n 3, 1) := by decide +kernel
theorem dX1_writeRuns_21 : decode cX1_writeRuns 21 = .ok (.iconst 1, 1) := by decide +kernel
theorem dX1_writeRuns_22 : decode cX1_writeRuns 22 = .ok (.iadd, 1) := by decide +kernel
theorem dX1_writeRuns_23 : decode cX1_writeRuns 23 = .ok (.aload_n 1, 1) := by decide +kernel
theorem dX1_writeRuns_24 : decode cX1_writeRuns 24 = .ok (.getfield 19, 3) := by decide +kernel
theorem dX1_writeRuns_27 : decode cX1_writeRuns 27 = .ok (.if_icmp .eq 20, 3) := by decide +kernel
theorem dX1_writeRuns_30 : decode cX1_writeRuns 30 = .ok (.aload_n 1, 1) := by decide +kernel
theorem dX1_writeRuns_31 : decode cX1_writeRuns 31 = .ok (.getfield 22, 3) := by decide +kernel
theorem dX1_writeRuns_34 : decode cX1_writeRuns 34 = .ok (.iload_n 3, 1) := by decide +kernel
theorem dX1_writeRuns_35 : decode cX1_writeRuns 35 = .ok (.iconst 1, 1) := by decide +kernel
theorem dX1_writeRuns_36 : decode cX1_writeRuns 36 = .ok (.iadd, 1) := by decide +kernel
theorem dX1_writeRuns_37 : decode cX1_writeRuns 37 = .ok (.iaload, 1) := by decide +kernel
theorem dX1_writeRuns_38 : decode cX1_writeRuns 38 = .ok (.aload_n 1, 1) := by decide +kernel
theorem dX1_writeRuns_39 : decode cX1_writeRuns 39 = .ok (.getfield 22, 3) := by decide +kernel
theorem dX1_writeRuns_42 : decode cX1_writeRuns 42 = .ok (.iload_n 3, 1) := by decide +kernel
theorem dX1_writeRuns_43 : decode cX1_writeRuns 43 = .ok (.iaload, 1) := by decide +kernel
theorem dX1_writeRuns_44 : decode cX1_writeRuns 44 = .ok (.if_icmp .eq 16, 3) := by decide +kernel
theorem dX1_writeRuns_47 : decode cX1_writeRuns 47 = .ok (.aload_n 0, 1) := by decide +kernel
theorem dX1_writeRuns_48 : decode cX1_writeRuns 48 = .ok (.aload_n 1, 1) := by decide +kernel
theorem dX1_writeRuns_49 : decode cX1_writeRuns 49 = .ok (.getfield 22, 3) := by decide +kernel
theorem dX1_writeRuns_52 : decode cX1_writeRuns 52 = .ok (.iload_n 3, 1) := by decide +kernel
theorem dX1_writeRuns_53 : decode cX1_writeRuns 53 = .ok (.iaload, 1) := by decide +kernel
theorem dX1_writeRuns_54 : decode cX1_writeRuns 54 = .ok (.iload_n 2, 1) := by decide +kernel
theorem dX1_writeRuns_55 : decode cX1_writeRuns 55 = .ok (.invokevirtual 34, 3) := by decide +kernel
theorem dX1_writeRuns_58 : decode cX1_writeRuns 58 = .ok (.iconst 0, 1) := by decide +kernel
theorem dX1_writeRuns_59 : decode cX1_writeRuns 59 = .ok (.istore_n 2, 1) := by decide +kernel
theorem dX1_writeRuns_60 : decode cX1_writeRuns 60 = .ok (.iinc 3 1, 3) := by decide +kernel
theorem dX1_writeRuns_63 : decode cX1_writeRuns 63 = .ok (.goto (-54), 3) := by decide +kernel
theorem dX1_writeRuns_66 : decode cX1_writeRuns 66 = .ok (.aload_n 0, 1) := by decide +kernel
theorem dX1_writeRuns_67 : decode cX1_writeRuns 67 = .ok (.getfield 15, 3) := by decide +kernel
theorem dX1_writeRuns_70 : decode cX1_writeRuns 70 = .ok (.ifCond .ne 9, 3) := by decide +kernel
theorem dX1_writeRuns_73 : decode cX1_writeRuns 73 = .ok (.aload_n 0, 1) := by decide +kernel
theorem dX1_writeRuns_74 : decode cX1_writeRuns 74 = .ok (.bipush 49, 2) := by decide +kernel
theorem dX1_writeRuns_76 : decode cX1_writeRuns 76 = .ok (.invokevirtual 30, 3) := by decide +kernel
theorem dX1_writeRuns_79 : decode cX1_writeRuns 79 = .ok (.return_, 1) := by decide +kernel
theorem dX1_writeRun_0 : decode cX1_writeRun 0 = .ok (.aload_n 0, 1) := by decide +kernel
theorem dX1_writeRun_1 : decode cX1_writeRun 1 = .ok (.iload_n 1, 1) := by decide +kernel
theorem dX1_writeRun_2 : decode cX1_writeRun 2 = .ok (.bipush (-2), 2) := by decide +kernel
theorem dX1_writeRun_4 : decode cX1_writeRun 4 = .ok (.iand, 1) := by decide +kernel
theorem dX1_writeRun_5 : decode cX1_writeRun 5 = .ok (.invokestatic 26, 3) := by decide +kernel
theorem dX1_writeRun_8 : decode cX1_writeRun 8 = .ok (.invokevirtual 30, 3) := by decide +kernel
theorem dX1_writeRun_11 : decode cX1_writeRun 11 = .ok (.iload_n 1, 1) := by decide +kernel
theorem dX1_writeRun_12 : decode cX1_writeRun 12 = .ok (.invokestatic 38, 3) := by decide +kernel
theorem dX1_writeRun_15 : decode cX1_writeRun 15 = .ok (.ifCond .eq 9, 3) := by decide +kernel
theorem dX1_writeRun_18 : decode cX1_writeRun 18 = .ok (.aload_n 0, 1) := by decide +kernel
theorem dX1_writeRun_19 : decode cX1_writeRun 19 = .ok (.bipush 45, 2) := by decide +kernel
theorem dX1_writeRun_21 : decode cX1_writeRun 21 = .ok (.invokevirtual 30, 3) := by decide +kernel
theorem dX1_writeRun_24 : decode cX1_writeRun 24 = .ok (.iload_n 1, 1) := by decide +kernel
theorem dX1_writeRun_25 : decode cX1_writeRun 25 = .ok (.invokestatic 38, 3) := by decide +kernel
theorem dX1_writeRun_28 : decode cX1_writeRun 28 = .ok (.ifCond .ne 8, 3) := by decide +kernel
theorem dX1_writeRun_31 : decode cX1_writeRun 31 = .ok (.iload_n 2, 1) := by decide +kernel
theorem dX1_writeRun_32 : decode cX1_writeRun 32 = .ok (.iconst 1, 1) := by decide +kernel
theorem dX1_writeRun_33 : decode cX1_writeRun 33 = .ok (.if_icmp .le 8, 3) := by decide +kernel
theorem dX1_writeRun_36 : decode cX1_writeRun 36 = .ok (.aload_n 0, 1) := by decide +kernel
theorem dX1_writeRun_37 : decode cX1_writeRun 37 = .ok (.iload_n 2, 1) := by decide +kernel
theorem dX1_writeRun_38 : decode cX1_writeRun 38 = .ok (.invokevirtual 42, 3) := by decide +kernel
theorem dX1_writeRun_41 : decode cX1_writeRun 41 = .ok (.return_, 1) := by decide +kernel
theorem dX1_writeNumber_0 : decode cX1_writeNumber 0 = .ok (.iload_n 1, 1) := by decide +kernel
theorem dX1_writeNumber_1 : decode cX1_writeNumber 1 = .ok (.bipush 10, 2) := by decide +kernel
theorem dX1_writeNumber_3 : decode cX1_writeNumber 3 = .ok (.if_icmp .lt 15, 3) := by decide +kernel
theorem dX1_writeNumber_6 : decode cX1_writeNumber 6 = .ok (.aload_n 0, 1) := by decide +kernel
theorem dX1_writeNumber_7 : decode cX1_writeNumber 7 = .ok (.bipush 48, 2) := by decide +kernel
theorem dX1_writeNumber_9 : decode cX1_writeNumber 9 = .ok (.iload_n 1, 1) := by decide +kernel
theorem dX1_writeNumber_10 : decode cX1_writeNumber 10 = .ok (.bipush 10, 2) := by decide +kernel
theorem dX1_writeNumber_12 : decode cX1_writeNumber 12 = .ok (.idiv, 1) := by decide +kernel
theorem dX1_writeNumber_13 : decode cX1_writeNumber 13 = .ok (.iadd, 1) := by decide +kernel
theorem dX1_writeNumber_14 : decode cX1_writeNumber 14 = .ok (.i2c, 1) := by decide +kernel
theorem dX1_writeNumber_15 : decode cX1_writeNumber 15 = .ok (.invokevirtual 30, 3) := by decide +kernel
theorem dX1_writeNumber_18 : decode cX1_writeNumber 18 = .ok (.aload_n 0, 1) := by decide +kernel
theorem dX1_writeNumber_19 : decode cX1_writeNumber 19 = .ok (.bipush 48, 2) := by decide +kernel
theorem dX1_writeNumber_21 : decode cX1_writeNumber 21 = .ok (.iload_n 1, 1) := by decide +kernel
theorem dX1_writeNumber_22 : decode cX1_writeNumber 22 = .ok (.bipush 10, 2) := by decide +kernel
theorem dX1_writeNumber_24 : decode cX1_writeNumber 24 = .ok (.irem, 1) := by decide +kernel
theorem dX1_writeNumber_25 : decode cX1_writeNumber 25 = .ok (.iadd, 1) := by decide +kernel
theorem dX1_writeNumber_26 : decode cX1_writeNumber 26 = .ok (.i2c, 1) := by decide +kernel
theorem dX1_writeNumber_27 : decode cX1_writeNumber 27 = .ok (.invokevirtual 30, 3) := by decide +kernel
theorem dX1_writeNumber_30 : decode cX1_writeNumber 30 = .ok (.return_, 1) := by decide +kernel
theorem dX1_write_0 : decode cX1_write 0 = .ok (.aload_n 0, 1) := by decide +kernel
theorem dX1_write_1 : decode cX1_write 1 = .ok (.getfield 15, 3) := by decide +kernel
theorem dX1_write_4 : decode cX1_write 4 = .ok (.sipush 180, 3) := by decide +kernel
theorem dX1_write_7 : decode cX1_write 7 = .ok (.if_icmp .ge 23, 3) := by decide +kernel
theorem dX1_write_10 : decode cX1_write 10 = .ok (.aload_n 0, 1) := by decide +kernel
theorem dX1_write_11 : decode cX1_write 11 = .ok (.getfield 9, 3) := by decide +kernel
theorem dX1_write_14 : decode cX1_write 14 = .ok (.aload_n 0, 1) := by decide +kernel
theorem dX1_write_15 : decode cX1_write 15 = .ok (.getfield 15, 3) := by decide +kernel
theorem dX1_write_18 : decode cX1_write 18 = .ok (.iload_n 1, 1) := by decide +kernel
theorem dX1_write_19 : decode cX1_write 19 = .ok (.castore, 1) := by decide +kernel
theorem dX1_write_20 : decode cX1_write 20 = .ok (.aload_n 0, 1) := by decide +kernel
theorem dX1_write_21 : decode cX1_write 21 = .ok (.dup, 1) := by decide +kernel
theorem dX1_write_22 : decode cX1_write 22 = .ok (.getfield 15, 3) := by decide +kernel
theorem dX1_write_25 : decode cX1_write 25 = .ok (.iconst 1, 1) := by decide +kernel
theorem dX1_write_26 : decode cX1_write 26 = .ok (.iadd, 1) := by decide +kernel
theorem dX1_write_27 : decode cX1_write 27 = .ok (.putfield 15, 3) := by decide +kernel
theorem dX1_write_30 : decode cX1_write 30 = .ok (.return_, 1) := by decide +kernel
theorem dX4_init_0 : decode cX4_init 0 = .ok (.aload_n 0, 1) := by decide +kernel
theorem dX4_init_1 : decode cX4_init 1 = .ok (.invokespecial 3, 3) := by decide +kernel
theorem dX4_init_4 : decode cX4_init 4 = .ok (.aload_n 0, 1) := by decide +kernel
theorem dX4_init_5 : decode cX4_init 5 = .ok (.ldc 9, 2) := by decide +kernel
theorem dX4_init_7 : decode cX4_init 7 = .ok (.newarray .boolean, 2) := by decide +kernel
theorem dX4_init_9 : decode cX4_init 9 = .ok (.putfield 10, 3) := by decide +kernel
theorem dX4_init_12 : decode cX4_init 12 = .ok (.aload_n 0, 1) := by decide +kernel
theorem dX4_init_13 : decode cX4_init 13 = .ok (.ldc 9, 2) := by decide +kernel
theorem dX4_init_15 : decode cX4_init 15 = .ok (.newarray .int, 2) := by decide +kernel
theorem dX4_init_17 : decode cX4_init 17 = .ok (.putfield 16, 3) := by decide +kernel
theorem dX4_init_20 : decode cX4_init 20 = .ok (.aload_n 0, 1) := by decide +kernel
theorem dX4_init_21 : decode cX4_init 21 = .ok (.iconst 1, 1) := by decide +kernel
theorem dX4_init_22 : decode cX4_init 22 = .ok (.putfield 20, 3) := by decide +kernel
theorem dX4_init_25 : decode cX4_init 25 = .ok (.return_, 1) := by decide +kernel
theorem dX4_search_0 : decode cX4_search 0 = .ok (.aload_n 0, 1) := by decide +kernel
theorem dX4_search_1 : decode cX4_search 1 = .ok (.iconst 0, 1) := by decide +kernel
theorem dX4_search_2 : decode cX4_search 2 = .ok (.putfield 24, 3) := by decide +kernel
theorem dX4_search_5 : decode cX4_search 5 = .ok (.aload_n 0, 1) := by decide +kernel
theorem dX4_search_6 : decode cX4_search 6 = .ok (.iconst 0, 1) := by decide +kernel
theorem dX4_search_7 : decode cX4_search 7 = .ok (.putfield 28, 3) := by decide +kernel
theorem dX4_search_10 : decode cX4_search 10 = .ok (.aload_n 0, 1) := by decide +kernel
theorem dX4_search_11 : decode cX4_search 11 = .ok (.iconst 0, 1) := by decide +kernel
theorem dX4_search_12 : decode cX4_search 12 = .ok (.invokevirtual 31, 3) := by decide +kernel
theorem dX4_search_15 : decode cX4_search 15 = .ok (.iconst 0, 1) := by decide +kernel
theorem dX4_search_16 : decode cX4_search 16 = .ok (.istore_n 3, 1) := by decide +kernel
theorem dX4_search_17 : decode cX4_search 17 = .ok (.iload_n 3, 1) := by decide +kernel
theorem dX4_search_18 : decode cX4_search 18 = .ok (.aload_n 0, 1) := by decide +kernel
theorem dX4_search_19 : decode cX4_search 19 = .ok (.getfield 24, 3) := by decide +kernel
theorem dX4_search_22 : decode cX4_search 22 = .ok (.if_icmp .ge 27, 3) := by decide +kernel
theorem dX4_search_25 : decode cX4_search 25 = .ok (.iload_n 3, 1) := by decide +kernel
theorem dX4_search_26 : decode cX4_search 26 = .ok (.ldc 9, 2) := by decide +kernel
theorem dX4_search_28 : decode cX4_search 28 = .ok (.if_icmp .ge 21, 3) := by decide +kernel
theorem dX4_search_31 : decode cX4_search 31 = .ok (.aload_n 0, 1) := by decide +kernel
theorem dX4_search_32 : decode cX4_search 32 = .ok (.aload_n 1, 1) := by decide +kernel
theorem dX4_search_33 : decode cX4_search 33 = .ok (.aload_n 2, 1) := by decide +kernel
theorem dX4_search_34 : decode cX4_search 34 = .ok (.aload_n 0, 1) := by decide +kernel
theorem dX4_search_35 : decode cX4_search 35 = .ok (.getfield 16, 3) := by decide +kernel
theorem dX4_search_38 : decode cX4_search 38 = .ok (.iload_n 3, 1) := by decide +kernel
theorem dX4_search_39 : decode cX4_search 39 = .ok (.iaload, 1) := by decide +kernel
theorem dX4_search_40 : decode cX4_search 40 = .ok (.invokevirtual 35, 3) := by decide +kernel
theorem dX4_search_43 : decode cX4_search 43 = .ok (.iinc 3 1, 3) := by decide +kernel
theorem dX4_search_46 : decode cX4_search 46 = .ok (.goto (-29), 3) := by decide +kernel
theorem dX4_search_49 : decode cX4_search 49 = .ok (.iconst 0, 1) := by decide +kernel
theorem dX4_search_50 : decode cX4_search 50 = .ok (.istore_n 3, 1) := by decide +kernel
theorem dX4_search_51 : decode cX4_search 51 = .ok (.iload_n 3, 1) := by decide +kernel
theorem dX4_search_52 : decode cX4_search 52 = .ok (.aload_n 0, 1) := by decide +kernel
theorem dX4_search_53 : decode cX4_search 53 = .ok (.getfield 24, 3) := by decide +kernel
theorem dX4_search_56 : decode cX4_search 56 = .ok (.if_icmp .ge 21, 3) := by decide +kernel
theorem dX4_search_59 : decode cX4_search 59 = .ok (.aload_n 0, 1) := by decide +kernel
theorem dX4_search_60 : decode cX4_search 60 = .ok (.getfield 10, 3) := by decide +kernel
theorem dX4_search_63 : decode cX4_search 63 = .ok (.aload_n 0, 1) := by decide +kernel
theorem dX4_search_64 : decode cX4_search 64 = .ok (.getfield 16, 3) := by decide +kernel
theorem dX4_search_67 : decode cX4_search 67 = .ok (.iload_n 3, 1) := by decide +kernel
theorem dX4_search_68 : decode cX4_search 68 = .ok (.iaload, 1) := by decide +kernel
theorem dX4_search_69 : decode cX4_search 69 = .ok (.iconst 0, 1) := by decide +kernel
theorem dX4_search_70 : decode cX4_search 70 = .ok (.bastore, 1) := by decide +kernel
theorem dX4_search_71 : decode cX4_search 71 = .ok (.iinc 3 1, 3) := by decide +kernel
theorem dX4_search_74 : decode cX4_search 74 = .ok (.goto (-23), 3) := by decide +kernel
theorem dX4_search_77 : decode cX4_search 77 = .ok (.return_, 1) := by decide +kernel
theorem dX4_reachNeighbours_0 : decode cX4_reachNeighbours 0 = .ok (.iconst 0, 1) := by decide +kernel
theorem dX4_reachNeighbours_1 : decode cX4_reachNeighbours 1 = .ok (.istore 4, 2) := by decide +kernel
theorem dX4_reachNeighbours_3 : decode cX4_reachNeighbours 3 = .ok (.iload 4, 2) := by decide +kernel
theorem dX4_reachNeighbours_5 : decode cX4_reachNeighbours 5 = .ok (.bipush 8, 2) := by decide +kernel
theorem dX4_reachNeighbours_7 : decode cX4_reachNeighbours 7 = .ok (.if_icmp .ge 82, 3) := by decide +kernel
theorem dX4_reachNeighbours_10 : decode cX4_reachNeighbours 10 = .ok (.aload_n 1, 1) := by decide +kernel
theorem dX4_reachNeighbours_11 : decode cX4_reachNeighbours 11 = .ok (.iload_n 3, 1) := by decide +kernel
theorem dX4_reachNeighbours_12 : decode cX4_reachNeighbours 12 = .ok (.sipush 355, 3) := by decide +kernel
theorem dX4_reachNeighbours_15 : decode cX4_reachNeighbours 15 = .ok (.idiv, 1) := by decide +kernel
theorem dX4_reachNeighbours_16 : decode cX4_reachNeighbours 16 = .ok (.iload 4, 2) := by decide +kernel
theorem dX4_reachNeighbours_18 : decode cX4_reachNeighbours 18 = .ok (.invokevirtual 39, 3) := by decide +kernel
theorem dX4_reachNeighbours_21 : decode cX4_reachNeighbours 21 = .ok (.istore 5, 2) := by decide +kernel
theorem dX4_reachNeighbours_23 : decode cX4_reachNeighbours 23 = .ok (.aload_n 2, 1) := by decide +kernel
theorem dX4_reachNeighbours_24 : decode cX4_reachNeighbours 24 = .ok (.iload_n 3, 1) := by decide +kernel
theorem dX4_reachNeighbours_25 : decode cX4_reachNeighbours 25 = .ok (.sipush 355, 3) := by decide +kernel
theorem dX4_reachNeighbours_28 : decode cX4_reachNeighbours 28 = .ok (.irem, 1) := by decide +kernel
theorem dX4_reachNeighbours_29 : decode cX4_reachNeighbours 29 = .ok (.iload 4, 2) := by decide +kernel
theorem dX4_reachNeighbours_31 : decode cX4_reachNeighbours 31 = .ok (.invokevirtual 39, 3) := by decide +kernel
theorem dX4_reachNeighbours_34 : decode cX4_reachNeighbours 34 = .ok (.istore 6, 2) := by decide +kernel
theorem dX4_reachNeighbours_36 : decode cX4_reachNeighbours 36 = .ok (.iload 5, 2) := by decide +kernel
theorem dX4_reachNeighbours_38 : decode cX4_reachNeighbours 38 = .ok (.iconst (-1), 1) := by decide +kernel
theorem dX4_reachNeighbours_39 : decode cX4_reachNeighbours 39 = .ok (.if_icmp .eq 44, 3) := by decide +kernel
theorem dX4_reachNeighbours_42 : decode cX4_reachNeighbours 42 = .ok (.iload 6, 2) := by decide +kernel
theorem dX4_reachNeighbours_44 : decode cX4_reachNeighbours 44 = .ok (.iconst (-1), 1) := by decide +kernel
theorem dX4_reachNeighbours_45 : decode cX4_reachNeighbours 45 = .ok (.if_icmp .eq 38, 3) := by decide +kernel
theorem dX4_reachNeighbours_48 : decode cX4_reachNeighbours 48 = .ok (.aload_n 0, 1) := by decide +kernel
theorem dX4_reachNeighbours_49 : decode cX4_reachNeighbours 49 = .ok (.dup, 1) := by decide +kernel
theorem dX4_reachNeighbours_50 : decode cX4_reachNeighbours 50 = .ok (.getfield 28, 3) := by decide +kernel
theorem dX4_reachNeighbours_53 : decode cX4_reachNeighbours 53 = .ok (.iload 4, 2) := by decide +kernel
theorem dX4_reachNeighbours_55 : decode cX4_reachNeighbours 55 = .ok (.invokestatic 45, 3) := by decide +kernel
theorem dX4_reachNeighbours_58 : decode cX4_reachNeighbours 58 = .ok (.ifCond .eq 7, 3) := by decide +kernel
theorem dX4_reachNeighbours_61 : decode cX4_reachNeighbours 61 = .ok (.iconst 0, 1) := by decide +kernel
theorem dX4_reachNeighbours_62 : decode cX4_reachNeighbours 62 = .ok (.goto 4, 3) := by decide +kernel
theorem dX4_reachNeighbours_65 : decode cX4_reachNeighbours 65 = .ok (.iconst 1, 1) := by decide +kernel
theorem dX4_reachNeighbours_66 : decode cX4_reachNeighbours 66 = .ok (.iadd, 1) := by decide +kernel
theorem dX4_reachNeighbours_67 : decode cX4_reachNeighbours 67 = .ok (.putfield 28, 3) := by decide +kernel
theorem dX4_reachNeighbours_70 : decode cX4_reachNeighbours 70 = .ok (.aload_n 0, 1) := by decide +kernel
theorem dX4_reachNeighbours_71 : decode cX4_reachNeighbours 71 = .ok (.iload 5, 2) := by decide +kernel
theorem dX4_reachNeighbours_73 : decode cX4_reachNeighbours 73 = .ok (.sipush 355, 3) := by decide +kernel
theorem dX4_reachNeighbours_76 : decode cX4_reachNeighbours 76 = .ok (.imul, 1) := by decide +kernel
theorem dX4_reachNeighbours_77 : decode cX4_reachNeighbours 77 = .ok (.iload 6, 2) := by decide +kernel
theorem dX4_reachNeighbours_79 : decode cX4_reachNeighbours 79 = .ok (.iadd, 1) := by decide +kernel
theorem dX4_reachNeighbours_80 : decode cX4_reachNeighbours 80 = .ok (.invokevirtual 31, 3) := by decide +kernel
theorem dX4_reachNeighbours_83 : decode cX4_reachNeighbours 83 = .ok (.iinc 4 1, 3) := by decide +kernel
theorem dX4_reachNeighbours_86 : decode cX4_reachNeighbours 86 = .ok (.goto (-83), 3) := by decide +kernel
theorem dX4_reachNeighbours_89 : decode cX4_reachNeighbours 89 = .ok (.return_, 1) := by decide +kernel
theorem dX4_reach_0 : decode cX4_reach 0 = .ok (.aload_n 0, 1) := by decide +kernel
theorem dX4_reach_1 : decode cX4_reach 1 = .ok (.getfield 10, 3) := by decide +kernel
theorem dX4_reach_4 : decode cX4_reach 4 = .ok (.iload_n 1, 1) := by decide +kernel
theorem dX4_reach_5 : decode cX4_reach 5 = .ok (.baload, 1) := by decide +kernel
theorem dX4_reach_6 : decode cX4_reach 6 = .ok (.ifCond .ne 39, 3) := by decide +kernel
theorem dX4_reach_9 : decode cX4_reach 9 = .ok (.aload_n 0, 1) := by decide +kernel
theorem dX4_reach_10 : decode cX4_reach 10 = .ok (.getfield 24, 3) := by decide +kernel
theorem dX4_reach_13 : decode cX4_reach 13 = .ok (.ldc 9, 2) := by decide +kernel
theorem dX4_reach_15 : decode cX4_reach 15 = .ok (.if_icmp .ge 30, 3) := by decide +kernel
theorem dX4_reach_18 : decode cX4_reach 18 = .ok (.aload_n 0, 1) := by decide +kernel
theorem dX4_reach_19 : decode cX4_reach 19 = .ok (.getfield 10, 3) := by decide +kernel
theorem dX4_reach_22 : decode cX4_reach 22 = .ok (.iload_n 1, 1) := by decide +kernel
theorem dX4_reach_23 : decode cX4_reach 23 = .ok (.iconst 1, 1) := by decide +kernel
theorem dX4_reach_24 : decode cX4_reach 24 = .ok (.bastore, 1) := by decide +kernel
theorem dX4_reach_25 : decode cX4_reach 25 = .ok (.aload_n 0, 1) := by decide +kernel
theorem dX4_reach_26 : decode cX4_reach 26 = .ok (.getfield 16, 3) := by decide +kernel
theorem dX4_reach_29 : decode cX4_reach 29 = .ok (.aload_n 0, 1) := by decide +kernel
theorem dX4_reach_30 : decode cX4_reach 30 = .ok (.getfield 24, 3) := by decide +kernel
theorem dX4_reach_33 : decode cX4_reach 33 = .ok (.iload_n 1, 1) := by decide +kernel
theorem dX4_reach_34 : decode cX4_reach 34 = .ok (.iastore, 1) := by decide +kernel
theorem dX4_reach_35 : decode cX4_reach 35 = .ok (.aload_n 0, 1) := by decide +kernel
theorem dX4_reach_36 : decode cX4_reach 36 = .ok (.dup, 1) := by decide +kernel
theorem dX4_reach_37 : decode cX4_reach 37 = .ok (.getfield 24, 3) := by decide +kernel
theorem dX4_reach_40 : decode cX4_reach 40 = .ok (.iconst 1, 1) := by decide +kernel
theorem dX4_reach_41 : decode cX4_reach 41 = .ok (.iadd, 1) := by decide +kernel
theorem dX4_reach_42 : decode cX4_reach 42 = .ok (.putfield 24, 3) := by decide +kernel
theorem dX4_reach_45 : decode cX4_reach 45 = .ok (.return_, 1) := by decide +kernel
theorem dX5_init_0 : decode cX5_init 0 = .ok (.aload_n 0, 1) := by decide +kernel
theorem dX5_init_1 : decode cX5_init 1 = .ok (.invokespecial 5, 3) := by decide +kernel
theorem dX5_init_4 : decode cX5_init 4 = .ok (.aload_n 0, 1) := by decide +kernel
theorem dX5_init_5 : decode cX5_init 5 = .ok (.sipush 341, 3) := by decide +kernel
theorem dX5_init_8 : decode cX5_init 8 = .ok (.newarray .long, 2) := by decide +kernel
theorem dX5_init_10 : decode cX5_init 10 = .ok (.putfield 11, 3) := by decide +kernel
theorem dX5_init_13 : decode cX5_init 13 = .ok (.return_, 1) := by decide +kernel
theorem dX5_expand_0 : decode cX5_expand 0 = .ok (.aload_n 0, 1) := by decide +kernel
theorem dX5_expand_1 : decode cX5_expand 1 = .ok (.getfield 11, 3) := by decide +kernel
theorem dX5_expand_4 : decode cX5_expand 4 = .ok (.lconst 0, 1) := by decide +kernel
theorem dX5_expand_5 : decode cX5_expand 5 = .ok (.invokestatic 15, 3) := by decide +kernel
theorem dX5_expand_8 : decode cX5_expand 8 = .ok (.aload_n 0, 1) := by decide +kernel
theorem dX5_expand_9 : decode cX5_expand 9 = .ok (.getfield 11, 3) := by decide +kernel
theorem dX5_expand_12 : decode cX5_expand 12 = .ok (.iconst 0, 1) := by decide +kernel
theorem dX5_expand_13 : decode cX5_expand 13 = .ok (.lconst 1, 1) := by decide +kernel
theorem dX5_expand_14 : decode cX5_expand 14 = .ok (.lastore, 1) := by decide +kernel
theorem dX5_expand_15 : decode cX5_expand 15 = .ok (.iconst 0, 1) := by decide +kernel
theorem dX5_expand_16 : decode cX5_expand 16 = .ok (.istore_n 2, 1) := by decide +kernel
theorem dX5_expand_17 : decode cX5_expand 17 = .ok (.iload_n 2, 1) := by decide +kernel
theorem dX5_expand_18 : decode cX5_expand 18 = .ok (.aload_n 1, 1) := by decide +kernel
theorem dX5_expand_19 : decode cX5_expand 19 = .ok (.getfield 21, 3) := by decide +kernel
theorem dX5_expand_22 : decode cX5_expand 22 = .ok (.if_icmp .ge 43, 3) := by decide +kernel
theorem dX5_expand_25 : decode cX5_expand 25 = .ok (.aload_n 1, 1) := by decide +kernel
theorem dX5_expand_26 : decode cX5_expand 26 = .ok (.getfield 27, 3) := by decide +kernel
theorem dX5_expand_29 : decode cX5_expand 29 = .ok (.iload_n 2, 1) := by decide +kernel
theorem dX5_expand_30 : decode cX5_expand 30 = .ok (.iaload, 1) := by decide +kernel
theorem dX5_expand_31 : decode cX5_expand 31 = .ok (.iconst 2, 1) := by decide +kernel
theorem dX5_expand_32 : decode cX5_expand 32 = .ok (.idiv, 1) := by decide +kernel
theorem dX5_expand_33 : decode cX5_expand 33 = .ok (.istore_n 3, 1) := by decide +kernel
theorem dX5_expand_34 : decode cX5_expand 34 = .ok (.aload_n 1, 1) := by decide +kernel
theorem dX5_expand_35 : decode cX5_expand 35 = .ok (.getfield 27, 3) := by decide +kernel
theorem dX5_expand_38 : decode cX5_expand 38 = .ok (.iload_n 2, 1) := by decide +kernel
theorem dX5_expand_39 : decode cX5_expand 39 = .ok (.iaload, 1) := by decide +kernel
theorem dX5_expand_40 : decode cX5_expand 40 = .ok (.invokestatic 31, 3) := by decide +kernel
theorem dX5_expand_43 : decode cX5_expand 43 = .ok (.ifCond .eq 11, 3) := by decide +kernel
theorem dX5_expand_46 : decode cX5_expand 46 = .ok (.aload_n 0, 1) := by decide +kernel
theorem dX5_expand_47 : decode cX5_expand 47 = .ok (.iload_n 3, 1) := by decide +kernel
theorem dX5_expand_48 : decode cX5_expand 48 = .ok (.invokevirtual 35, 3) := by decide +kernel
theorem dX5_expand_51 : decode cX5_expand 51 = .ok (.goto 8, 3) := by decide +kernel
theorem dX5_expand_54 : decode cX5_expand 54 = .ok (.aload_n 0, 1) := by decide +kernel
theorem dX5_expand_55 : decode cX5_expand 55 = .ok (.iload_n 3, 1) := by decide +kernel
theorem dX5_expand_56 : decode cX5_expand 56 = .ok (.invokevirtual 39, 3) := by decide +kernel
theorem dX5_expand_59 : decode cX5_expand 59 = .ok (.iinc 2 1, 3) := by decide +kernel
theorem dX5_expand_62 : decode cX5_expand 62 = .ok (.goto (-45), 3) := by decide +kernel
theorem dX5_expand_65 : decode cX5_expand 65 = .ok (.return_, 1) := by decide +kernel
theorem dX5_multiplyBy_0 : decode cX5_multiplyBy 0 = .ok (.bipush 84, 2) := by decide +kernel
theorem dX5_multiplyBy_2 : decode cX5_multiplyBy 2 = .ok (.istore_n 2, 1) := by decide +kernel
theorem dX5_multiplyBy_3 : decode cX5_multiplyBy 3 = .ok (.iload_n 2, 1) := by decide +kernel
theorem dX5_multiplyBy_4 : decode cX5_multiplyBy 4 = .ok (.ifCond .lt 30, 3) := by decide +kernel
theorem dX5_multiplyBy_7 : decode cX5_multiplyBy 7 = .ok (.aload_n 0, 1) := by decide +kernel
theorem dX5_multiplyBy_8 : decode cX5_multiplyBy 8 = .ok (.getfield 11, 3) := by decide +kernel
theorem dX5_multiplyBy_11 : decode cX5_multiplyBy 11 = .ok (.iconst 4, 1) := by decide +kernel
theorem dX5_multiplyBy_12 : decode cX5_multiplyBy 12 = .ok (.iload_n 2, 1) := by decide +kernel
theorem dX5_multiplyBy_13 : decode cX5_multiplyBy 13 = .ok (.imul, 1) := by decide +kernel
theorem dX5_multiplyBy_14 : decode cX5_multiplyBy 14 = .ok (.iconst 1, 1) := by decide +kernel
theorem dX5_multiplyBy_15 : decode cX5_multiplyBy 15 = .ok (.iadd, 1) := by decide +kernel
theorem dX5_multiplyBy_16 : decode cX5_multiplyBy 16 = .ok (.iload_n 1, 1) := by decide +kernel
theorem dX5_multiplyBy_17 : decode cX5_multiplyBy 17 = .ok (.iadd, 1) := by decide +kernel
theorem dX5_multiplyBy_18 : decode cX5_multiplyBy 18 = .ok (.dup2, 1) := by decide +kernel
theorem dX5_multiplyBy_19 : decode cX5_multiplyBy 19 = .ok (.laload, 1) := by decide +kernel
theorem dX5_multiplyBy_20 : decode cX5_multiplyBy 20 = .ok (.aload_n 0, 1) := by decide +kernel
theorem dX5_multiplyBy_21 : decode cX5_multiplyBy 21 = .ok (.getfield 11, 3) := by decide +kernel
theorem dX5_multiplyBy_24 : decode cX5_multiplyBy 24 = .ok (.iload_n 2, 1) := by decide +kernel
theorem dX5_multiplyBy_25 : decode cX5_multiplyBy 25 = .ok (.laload, 1) := by decide +kernel
theorem dX5_multiplyBy_26 : decode cX5_multiplyBy 26 = .ok (.ladd, 1) := by decide +kernel
theorem dX5_multiplyBy_27 : decode cX5_multiplyBy 27 = .ok (.lastore, 1) := by decide +kernel
theorem dX5_multiplyBy_28 : decode cX5_multiplyBy 28 = .ok (.iinc 2 (-1), 3) := by decide +kernel
theorem dX5_multiplyBy_31 : decode cX5_multiplyBy 31 = .ok (.goto (-28), 3) := by decide +kernel
theorem dX5_multiplyBy_34 : decode cX5_multiplyBy 34 = .ok (.return_, 1) := by decide +kernel
theorem dX5_divideBy_0 : decode cX5_divideBy 0 = .ok (.iconst 0, 1) := by decide +kernel
theorem dX5_divideBy_1 : decode cX5_divideBy 1 = .ok (.istore_n 2, 1) := by decide +kernel
theorem dX5_divideBy_2 : decode cX5_divideBy 2 = .ok (.iload_n 2, 1) := by decide +kernel
theorem dX5_divideBy_3 : decode cX5_divideBy 3 = .ok (.bipush 85, 2) := by decide +kernel
theorem dX5_divideBy_5 : decode cX5_divideBy 5 = .ok (.if_icmp .ge 30, 3) := by decide +kernel
theorem dX5_divideBy_8 : decode cX5_divideBy 8 = .ok (.aload_n 0, 1) := by decide +kernel
theorem dX5_divideBy_9 : decode cX5_divideBy 9 = .ok (.getfield 11, 3) := by decide +kernel
theorem dX5_divideBy_12 : decode cX5_divideBy 12 = .ok (.iconst 4, 1) := by decide +kernel
theorem dX5_divideBy_13 : decode cX5_divideBy 13 = .ok (.iload_n 2, 1) := by decide +kernel
theorem dX5_divideBy_14 : decode cX5_divideBy 14 = .ok (.imul, 1) := by decide +kernel
theorem dX5_divideBy_15 : decode cX5_divideBy 15 = .ok (.iconst 1, 1) := by decide +kernel
theorem dX5_divideBy_16 : decode cX5_divideBy 16 = .ok (.iadd, 1) := by decide +kernel
theorem dX5_divideBy_17 : decode cX5_divideBy 17 = .ok (.iload_n 1, 1) := by decide +kernel
theorem dX5_divideBy_18 : decode cX5_divideBy 18 = .ok (.iadd, 1) := by decide +kernel
theorem dX5_divideBy_19 : decode cX5_divideBy 19 = .ok (.dup2, 1) := by decide +kernel
theorem dX5_divideBy_20 : decode cX5_divideBy 20 = .ok (.laload, 1) := by decide +kernel
theorem dX5_divideBy_21 : decode cX5_divideBy 21 = .ok (.aload_n 0, 1) := by decide +kernel
theorem dX5_divideBy_22 : decode cX5_divideBy 22 = .ok (.getfield 11, 3) := by decide +kernel
theorem dX5_divideBy_25 : decode cX5_divideBy 25 = .ok (.iload_n 2, 1) := by decide +kernel
theorem dX5_divideBy_26 : decode cX5_divideBy 26 = .ok (.laload, 1) := by decide +kernel
theorem dX5_divideBy_27 : decode cX5_divideBy 27 = .ok (.lsub, 1) := by decide +kernel
theorem dX5_divideBy_28 : decode cX5_divideBy 28 = .ok (.lastore, 1) := by decide +kernel
theorem dX5_divideBy_29 : decode cX5_divideBy 29 = .ok (.iinc 2 1, 3) := by decide +kernel
theorem dX5_divideBy_32 : decode cX5_divideBy 32 = .ok (.goto (-30), 3) := by decide +kernel
theorem dX5_divideBy_35 : decode cX5_divideBy 35 = .ok (.return_, 1) := by decide +kernel
theorem dX5_norm_0 : decode cX5_norm 0 = .ok (.iconst 0, 1) := by decide +kernel
theorem dX5_norm_1 : decode cX5_norm 1 = .ok (.istore_n 2, 1) := by decide +kernel
theorem dX5_norm_2 : decode cX5_norm 2 = .ok (.iconst 1, 1) := by decide +kernel
theorem dX5_norm_3 : decode cX5_norm 3 = .ok (.istore_n 3, 1) := by decide +kernel
theorem dX5_norm_4 : decode cX5_norm 4 = .ok (.iconst 0, 1) := by decide +kernel
theorem dX5_norm_5 : decode cX5_norm 5 = .ok (.istore 4, 2) := by decide +kernel
theorem dX5_norm_7 : decode cX5_norm 7 = .ok (.iload 4, 2) := by decide +kernel
theorem dX5_norm_9 : decode cX5_norm 9 = .ok (.iload_n 1, 1) := by decide +kernel
theorem dX5_norm_10 : decode cX5_norm 10 = .ok (.if_icmp .ge 17, 3) := by decide +kernel
theorem dX5_norm_13 : decode cX5_norm 13 = .ok (.iload_n 2, 1) := by decide +kernel
theorem dX5_norm_14 : decode cX5_norm 14 = .ok (.iload_n 3, 1) := by decide +kernel
theorem dX5_norm_15 : decode cX5_norm 15 = .ok (.iadd, 1) := by decide +kernel
theorem dX5_norm_16 : decode cX5_norm 16 = .ok (.istore_n 2, 1) := by decide +kernel
theorem dX5_norm_17 : decode cX5_norm 17 = .ok (.iload_n 3, 1) := by decide +kernel
theorem dX5_norm_18 : decode cX5_norm 18 = .ok (.iconst 4, 1) := by decide +kernel
theorem dX5_norm_19 : decode cX5_norm 19 = .ok (.imul, 1) := by decide +kernel
theorem dX5_norm_20 : decode cX5_norm 20 = .ok (.istore_n 3, 1) := by decide +kernel
theorem dX5_norm_21 : decode cX5_norm 21 = .ok (.iinc 4 1, 3) := by decide +kernel
theorem dX5_norm_24 : decode cX5_norm 24 = .ok (.goto (-17), 3) := by decide +kernel
theorem dX5_norm_27 : decode cX5_norm 27 = .ok (.lconst 0, 1) := by decide +kernel
theorem dX5_norm_28 : decode cX5_norm 28 = .ok (.lstore 4, 2) := by decide +kernel
theorem dX5_norm_30 : decode cX5_norm 30 = .ok (.iload_n 2, 1) := by decide +kernel
theorem dX5_norm_31 : decode cX5_norm 31 = .ok (.istore 6, 2) := by decide +kernel
theorem dX5_norm_33 : decode cX5_norm 33 = .ok (.iload 6, 2) := by decide +kernel
theorem dX5_norm_35 : decode cX5_norm 35 = .ok (.iload_n 2, 1) := by decide +kernel
theorem dX5_norm_36 : decode cX5_norm 36 = .ok (.iload_n 3, 1) := by decide +kernel
theorem dX5_norm_37 : decode cX5_norm 37 = .ok (.iadd, 1) := by decide +kernel
theorem dX5_norm_38 : decode cX5_norm 38 = .ok (.if_icmp .ge 32, 3) := by decide +kernel
theorem dX5_norm_41 : decode cX5_norm 41 = .ok (.iload 6, 2) := by decide +kernel
theorem dX5_norm_43 : decode cX5_norm 43 = .ok (.sipush 341, 3) := by decide +kernel
theorem dX5_norm_46 : decode cX5_norm 46 = .ok (.if_icmp .ge 24, 3) := by decide +kernel
theorem dX5_norm_49 : decode cX5_norm 49 = .ok (.lload 4, 2) := by decide +kernel
theorem dX5_norm_51 : decode cX5_norm 51 = .ok (.aload_n 0, 1) := by decide +kernel
theorem dX5_norm_52 : decode cX5_norm 52 = .ok (.getfield 11, 3) := by decide +kernel
theorem dX5_norm_55 : decode cX5_norm 55 = .ok (.iload 6, 2) := by decide +kernel
theorem dX5_norm_57 : decode cX5_norm 57 = .ok (.laload, 1) := by decide +kernel
theorem dX5_norm_58 : decode cX5_norm 58 = .ok (.invokestatic 42, 3) := by decide +kernel
theorem dX5_norm_61 : decode cX5_norm 61 = .ok (.ladd, 1) := by decide +kernel
theorem dX5_norm_62 : decode cX5_norm 62 = .ok (.lstore 4, 2) := by decide +kernel
theorem dX5_norm_64 : decode cX5_norm 64 = .ok (.iinc 6 1, 3) := by decide +kernel
theorem dX5_norm_67 : decode cX5_norm 67 = .ok (.goto (-34), 3) := by decide +kernel
theorem dX5_norm_70 : decode cX5_norm 70 = .ok (.lload 4, 2) := by decide +kernel
theorem dX5_norm_72 : decode cX5_norm 72 = .ok (.lreturn, 1) := by decide +kernel
theorem dX5_quadraticCoefficient_0 : decode cX5_quadraticCoefficient 0 = .ok (.aload_n 0, 1) := by decide +kernel
theorem dX5_quadraticCoefficient_1 : decode cX5_quadraticCoefficient 1 = .ok (.getfield 11, 3) := by decide +kernel
theorem dX5_quadraticCoefficient_4 : decode cX5_quadraticCoefficient 4 = .ok (.iconst 4, 1) := by decide +kernel
theorem dX5_quadraticCoefficient_5 : decode cX5_quadraticCoefficient 5 = .ok (.iconst 1, 1) := by decide +kernel
theorem dX5_quadraticCoefficient_6 : decode cX5_quadraticCoefficient 6 = .ok (.iload_n 1, 1) := by decide +kernel
theorem dX5_quadraticCoefficient_7 : decode cX5_quadraticCoefficient 7 = .ok (.iadd, 1) := by decide +kernel
theorem dX5_quadraticCoefficient_8 : decode cX5_quadraticCoefficient 8 = .ok (.imul, 1) := by decide +kernel
theorem dX5_quadraticCoefficient_9 : decode cX5_quadraticCoefficient 9 = .ok (.iconst 1, 1) := by decide +kernel
theorem dX5_quadraticCoefficient_10 : decode cX5_quadraticCoefficient 10 = .ok (.iadd, 1) := by decide +kernel
theorem dX5_quadraticCoefficient_11 : decode cX5_quadraticCoefficient 11 = .ok (.iload_n 2, 1) := by decide +kernel
theorem dX5_quadraticCoefficient_12 : decode cX5_quadraticCoefficient 12 = .ok (.iadd, 1) := by decide +kernel
theorem dX5_quadraticCoefficient_13 : decode cX5_quadraticCoefficient 13 = .ok (.laload, 1) := by decide +kernel
theorem dX5_quadraticCoefficient_14 : decode cX5_quadraticCoefficient 14 = .ok (.l2i, 1) := by decide +kernel
theorem dX5_quadraticCoefficient_15 : decode cX5_quadraticCoefficient 15 = .ok (.ireturn, 1) := by decide +kernel

