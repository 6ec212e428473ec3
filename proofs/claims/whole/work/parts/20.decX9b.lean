/-! rows that decode -/
theorem dX9_smallestPower_0 : decode cX9_smallestPower 0 = .ok (.aload_n 0, 1) := by decide +kernel
theorem dX9_smallestPower_1 : decode cX9_smallestPower 1 = .ok (.iload_n 1, 1) := by decide +kernel
theorem dX9_smallestPower_2 : decode cX9_smallestPower 2 = .ok (.invokevirtual 209, 3) := by decide +kernel
theorem dX9_smallestPower_5 : decode cX9_smallestPower 5 = .ok (.astore_n 3, 1) := by decide +kernel
theorem dX9_smallestPower_6 : decode cX9_smallestPower 6 = .ok (.aload_n 0, 1) := by decide +kernel
theorem dX9_smallestPower_7 : decode cX9_smallestPower 7 = .ok (.iload_n 2, 1) := by decide +kernel
theorem dX9_smallestPower_8 : decode cX9_smallestPower 8 = .ok (.invokevirtual 135, 3) := by decide +kernel
theorem dX9_smallestPower_11 : decode cX9_smallestPower 11 = .ok (.astore 4, 2) := by decide +kernel
theorem dX9_smallestPower_13 : decode cX9_smallestPower 13 = .ok (.aload_n 3, 1) := by decide +kernel
theorem dX9_smallestPower_14 : decode cX9_smallestPower 14 = .ok (.aload 4, 2) := by decide +kernel
theorem dX9_smallestPower_16 : decode cX9_smallestPower 16 = .ok (.invokevirtual 236, 3) := by decide +kernel
theorem dX9_smallestPower_19 : decode cX9_smallestPower 19 = .ok (.ireturn, 1) := by decide +kernel
theorem dX9_isNormal_0 : decode cX9_isNormal 0 = .ok (.aload_n 0, 1) := by decide +kernel
theorem dX9_isNormal_1 : decode cX9_isNormal 1 = .ok (.iload_n 1, 1) := by decide +kernel
theorem dX9_isNormal_2 : decode cX9_isNormal 2 = .ok (.invokevirtual 209, 3) := by decide +kernel
theorem dX9_isNormal_5 : decode cX9_isNormal 5 = .ok (.astore_n 2, 1) := by decide +kernel
theorem dX9_isNormal_6 : decode cX9_isNormal 6 = .ok (.aload_n 2, 1) := by decide +kernel
theorem dX9_isNormal_7 : decode cX9_isNormal 7 = .ok (.invokevirtual 222, 3) := by decide +kernel
theorem dX9_isNormal_10 : decode cX9_isNormal 10 = .ok (.ifCond .ne 5, 3) := by decide +kernel
theorem dX9_isNormal_13 : decode cX9_isNormal 13 = .ok (.iconst 1, 1) := by decide +kernel
theorem dX9_isNormal_14 : decode cX9_isNormal 14 = .ok (.ireturn, 1) := by decide +kernel
theorem dX9_isNormal_15 : decode cX9_isNormal 15 = .ok (.aload_n 2, 1) := by decide +kernel
theorem dX9_isNormal_16 : decode cX9_isNormal 16 = .ok (.aload_n 0, 1) := by decide +kernel
theorem dX9_isNormal_17 : decode cX9_isNormal 17 = .ok (.getfield 16, 3) := by decide +kernel
theorem dX9_isNormal_20 : decode cX9_isNormal 20 = .ok (.getfield 126, 3) := by decide +kernel
theorem dX9_isNormal_23 : decode cX9_isNormal 23 = .ok (.invokevirtual 225, 3) := by decide +kernel
theorem dX9_isNormal_26 : decode cX9_isNormal 26 = .ok (.ifCond .ne 5, 3) := by decide +kernel
theorem dX9_isNormal_29 : decode cX9_isNormal 29 = .ok (.iconst 0, 1) := by decide +kernel
theorem dX9_isNormal_30 : decode cX9_isNormal 30 = .ok (.ireturn, 1) := by decide +kernel
theorem dX9_isNormal_31 : decode cX9_isNormal 31 = .ok (.iconst 0, 1) := by decide +kernel
theorem dX9_isNormal_32 : decode cX9_isNormal 32 = .ok (.istore_n 3, 1) := by decide +kernel
theorem dX9_isNormal_33 : decode cX9_isNormal 33 = .ok (.iload_n 3, 1) := by decide +kernel
theorem dX9_isNormal_34 : decode cX9_isNormal 34 = .ok (.aload_n 0, 1) := by decide +kernel
theorem dX9_isNormal_35 : decode cX9_isNormal 35 = .ok (.getfield 16, 3) := by decide +kernel
theorem dX9_isNormal_38 : decode cX9_isNormal 38 = .ok (.getfield 206, 3) := by decide +kernel
theorem dX9_isNormal_41 : decode cX9_isNormal 41 = .ok (.iload_n 1, 1) := by decide +kernel
theorem dX9_isNormal_42 : decode cX9_isNormal 42 = .ok (.iaload, 1) := by decide +kernel
theorem dX9_isNormal_43 : decode cX9_isNormal 43 = .ok (.if_icmp .ge 27, 3) := by decide +kernel
theorem dX9_isNormal_46 : decode cX9_isNormal 46 = .ok (.aload_n 2, 1) := by decide +kernel
theorem dX9_isNormal_47 : decode cX9_isNormal 47 = .ok (.aload_n 0, 1) := by decide +kernel
theorem dX9_isNormal_48 : decode cX9_isNormal 48 = .ok (.getfield 16, 3) := by decide +kernel
theorem dX9_isNormal_51 : decode cX9_isNormal 51 = .ok (.iload_n 1, 1) := by decide +kernel
theorem dX9_isNormal_52 : decode cX9_isNormal 52 = .ok (.iload_n 3, 1) := by decide +kernel
theorem dX9_isNormal_53 : decode cX9_isNormal 53 = .ok (.invokevirtual 240, 3) := by decide +kernel
theorem dX9_isNormal_56 : decode cX9_isNormal 56 = .ok (.invokevirtual 244, 3) := by decide +kernel
theorem dX9_isNormal_59 : decode cX9_isNormal 59 = .ok (.ifCond .ne 5, 3) := by decide +kernel
theorem dX9_isNormal_62 : decode cX9_isNormal 62 = .ok (.iconst 0, 1) := by decide +kernel
theorem dX9_isNormal_63 : decode cX9_isNormal 63 = .ok (.ireturn, 1) := by decide +kernel
theorem dX9_isNormal_64 : decode cX9_isNormal 64 = .ok (.iinc 3 1, 3) := by decide +kernel
theorem dX9_isNormal_67 : decode cX9_isNormal 67 = .ok (.goto (-34), 3) := by decide +kernel
theorem dX9_isNormal_70 : decode cX9_isNormal 70 = .ok (.iconst 1, 1) := by decide +kernel
theorem dX9_isNormal_71 : decode cX9_isNormal 71 = .ok (.ireturn, 1) := by decide +kernel
theorem dX9_containsSubgroup_0 : decode cX9_containsSubgroup 0 = .ok (.aload_n 0, 1) := by decide +kernel
theorem dX9_containsSubgroup_1 : decode cX9_containsSubgroup 1 = .ok (.iload_n 1, 1) := by decide +kernel
theorem dX9_containsSubgroup_2 : decode cX9_containsSubgroup 2 = .ok (.invokevirtual 209, 3) := by decide +kernel
theorem dX9_containsSubgroup_5 : decode cX9_containsSubgroup 5 = .ok (.astore_n 3, 1) := by decide +kernel
theorem dX9_containsSubgroup_6 : decode cX9_containsSubgroup 6 = .ok (.iload_n 2, 1) := by decide +kernel
theorem dX9_containsSubgroup_7 : decode cX9_containsSubgroup 7 = .ok (.iconst 2, 1) := by decide +kernel
theorem dX9_containsSubgroup_8 : decode cX9_containsSubgroup 8 = .ok (.invokestatic 142, 3) := by decide +kernel
theorem dX9_containsSubgroup_11 : decode cX9_containsSubgroup 11 = .ok (.iconst 0, 1) := by decide +kernel
theorem dX9_containsSubgroup_12 : decode cX9_containsSubgroup 12 = .ok (.istore 4, 2) := by decide +kernel
theorem dX9_containsSubgroup_14 : decode cX9_containsSubgroup 14 = .ok (.iload 4, 2) := by decide +kernel
theorem dX9_containsSubgroup_16 : decode cX9_containsSubgroup 16 = .ok (.aload_n 0, 1) := by decide +kernel
theorem dX9_containsSubgroup_17 : decode cX9_containsSubgroup 17 = .ok (.getfield 16, 3) := by decide +kernel
theorem dX9_containsSubgroup_20 : decode cX9_containsSubgroup 20 = .ok (.getfield 206, 3) := by decide +kernel
theorem dX9_containsSubgroup_23 : decode cX9_containsSubgroup 23 = .ok (.iload_n 2, 1) := by decide +kernel
theorem dX9_containsSubgroup_24 : decode cX9_containsSubgroup 24 = .ok (.iaload, 1) := by decide +kernel
theorem dX9_containsSubgroup_25 : decode cX9_containsSubgroup 25 = .ok (.if_icmp .ge 29, 3) := by decide +kernel
theorem dX9_containsSubgroup_28 : decode cX9_containsSubgroup 28 = .ok (.aload_n 3, 1) := by decide +kernel
theorem dX9_containsSubgroup_29 : decode cX9_containsSubgroup 29 = .ok (.iconst 0, 1) := by decide +kernel
theorem dX9_containsSubgroup_30 : decode cX9_containsSubgroup 30 = .ok (.aload_n 0, 1) := by decide +kernel
theorem dX9_containsSubgroup_31 : decode cX9_containsSubgroup 31 = .ok (.getfield 16, 3) := by decide +kernel
theorem dX9_containsSubgroup_34 : decode cX9_containsSubgroup 34 = .ok (.iload_n 2, 1) := by decide +kernel
theorem dX9_containsSubgroup_35 : decode cX9_containsSubgroup 35 = .ok (.iload 4, 2) := by decide +kernel
theorem dX9_containsSubgroup_37 : decode cX9_containsSubgroup 37 = .ok (.invokevirtual 240, 3) := by decide +kernel
theorem dX9_containsSubgroup_40 : decode cX9_containsSubgroup 40 = .ok (.invokevirtual 228, 3) := by decide +kernel
theorem dX9_containsSubgroup_43 : decode cX9_containsSubgroup 43 = .ok (.ifCond .ne 5, 3) := by decide +kernel
theorem dX9_containsSubgroup_46 : decode cX9_containsSubgroup 46 = .ok (.iconst 0, 1) := by decide +kernel
theorem dX9_containsSubgroup_47 : decode cX9_containsSubgroup 47 = .ok (.ireturn, 1) := by decide +kernel
theorem dX9_containsSubgroup_48 : decode cX9_containsSubgroup 48 = .ok (.iinc 4 1, 3) := by decide +kernel
theorem dX9_containsSubgroup_51 : decode cX9_containsSubgroup 51 = .ok (.goto (-37), 3) := by decide +kernel
theorem dX9_containsSubgroup_54 : decode cX9_containsSubgroup 54 = .ok (.iconst 1, 1) := by decide +kernel
theorem dX9_containsSubgroup_55 : decode cX9_containsSubgroup 55 = .ok (.ireturn, 1) := by decide +kernel
theorem dX9_intersectionRank_0 : decode cX9_intersectionRank 0 = .ok (.aload_n 0, 1) := by decide +kernel
theorem dX9_intersectionRank_1 : decode cX9_intersectionRank 1 = .ok (.invokevirtual 248, 3) := by decide +kernel
theorem dX9_intersectionRank_4 : decode cX9_intersectionRank 4 = .ok (.aload_n 0, 1) := by decide +kernel
theorem dX9_intersectionRank_5 : decode cX9_intersectionRank 5 = .ok (.getfield 53, 3) := by decide +kernel
theorem dX9_intersectionRank_8 : decode cX9_intersectionRank 8 = .ok (.getfield 251, 3) := by decide +kernel
theorem dX9_intersectionRank_11 : decode cX9_intersectionRank 11 = .ok (.aload_n 0, 1) := by decide +kernel
theorem dX9_intersectionRank_12 : decode cX9_intersectionRank 12 = .ok (.getfield 53, 3) := by decide +kernel
theorem dX9_intersectionRank_15 : decode cX9_intersectionRank 15 = .ok (.getfield 252, 3) := by decide +kernel
theorem dX9_intersectionRank_18 : decode cX9_intersectionRank 18 = .ok (.isub, 1) := by decide +kernel
theorem dX9_intersectionRank_19 : decode cX9_intersectionRank 19 = .ok (.iconst 1, 1) := by decide +kernel
theorem dX9_intersectionRank_20 : decode cX9_intersectionRank 20 = .ok (.iadd, 1) := by decide +kernel
theorem dX9_intersectionRank_21 : decode cX9_intersectionRank 21 = .ok (.ireturn, 1) := by decide +kernel
theorem dX9_intersectionIndex_0 : decode cX9_intersectionIndex 0 = .ok (.aload_n 0, 1) := by decide +kernel
theorem dX9_intersectionIndex_1 : decode cX9_intersectionIndex 1 = .ok (.iconst 0, 1) := by decide +kernel
theorem dX9_intersectionIndex_2 : decode cX9_intersectionIndex 2 = .ok (.invokevirtual 209, 3) := by decide +kernel
theorem dX9_intersectionIndex_5 : decode cX9_intersectionIndex 5 = .ok (.aload_n 0, 1) := by decide +kernel
theorem dX9_intersectionIndex_6 : decode cX9_intersectionIndex 6 = .ok (.getfield 16, 3) := by decide +kernel
theorem dX9_intersectionIndex_9 : decode cX9_intersectionIndex 9 = .ok (.getfield 126, 3) := by decide +kernel
theorem dX9_intersectionIndex_12 : decode cX9_intersectionIndex 12 = .ok (.invokevirtual 225, 3) := by decide +kernel
theorem dX9_intersectionIndex_15 : decode cX9_intersectionIndex 15 = .ok (.ifCond .eq 21, 3) := by decide +kernel
theorem dX9_intersectionIndex_18 : decode cX9_intersectionIndex 18 = .ok (.aload_n 0, 1) := by decide +kernel
theorem dX9_intersectionIndex_19 : decode cX9_intersectionIndex 19 = .ok (.iconst 1, 1) := by decide +kernel
theorem dX9_intersectionIndex_20 : decode cX9_intersectionIndex 20 = .ok (.invokevirtual 209, 3) := by decide +kernel
theorem dX9_intersectionIndex_23 : decode cX9_intersectionIndex 23 = .ok (.aload_n 0, 1) := by decide +kernel
theorem dX9_intersectionIndex_24 : decode cX9_intersectionIndex 24 = .ok (.getfield 16, 3) := by decide +kernel
theorem dX9_intersectionIndex_27 : decode cX9_intersectionIndex 27 = .ok (.getfield 126, 3) := by decide +kernel
theorem dX9_intersectionIndex_30 : decode cX9_intersectionIndex 30 = .ok (.invokevirtual 225, 3) := by decide +kernel
theorem dX9_intersectionIndex_33 : decode cX9_intersectionIndex 33 = .ok (.ifCond .ne 5, 3) := by decide +kernel
theorem dX9_intersectionIndex_36 : decode cX9_intersectionIndex 36 = .ok (.iconst (-1), 1) := by decide +kernel
theorem dX9_intersectionIndex_37 : decode cX9_intersectionIndex 37 = .ok (.ireturn, 1) := by decide +kernel
theorem dX9_intersectionIndex_38 : decode cX9_intersectionIndex 38 = .ok (.aload_n 0, 1) := by decide +kernel
theorem dX9_intersectionIndex_39 : decode cX9_intersectionIndex 39 = .ok (.invokevirtual 248, 3) := by decide +kernel
theorem dX9_intersectionIndex_42 : decode cX9_intersectionIndex 42 = .ok (.aload_n 0, 1) := by decide +kernel
theorem dX9_intersectionIndex_43 : decode cX9_intersectionIndex 43 = .ok (.getfield 53, 3) := by decide +kernel
theorem dX9_intersectionIndex_46 : decode cX9_intersectionIndex 46 = .ok (.getfield 252, 3) := by decide +kernel
theorem dX9_intersectionIndex_49 : decode cX9_intersectionIndex 49 = .ok (.ireturn, 1) := by decide +kernel
theorem dX9_representativeLength_0 : decode cX9_representativeLength 0 = .ok (.aload_n 0, 1) := by decide +kernel
theorem dX9_representativeLength_1 : decode cX9_representativeLength 1 = .ok (.iload_n 1, 1) := by decide +kernel
theorem dX9_representativeLength_2 : decode cX9_representativeLength 2 = .ok (.invokevirtual 209, 3) := by decide +kernel
theorem dX9_representativeLength_5 : decode cX9_representativeLength 5 = .ok (.astore_n 3, 1) := by decide +kernel
theorem dX9_representativeLength_6 : decode cX9_representativeLength 6 = .ok (.iload_n 2, 1) := by decide +kernel
theorem dX9_representativeLength_7 : decode cX9_representativeLength 7 = .ok (.aload_n 3, 1) := by decide +kernel
theorem dX9_representativeLength_8 : decode cX9_representativeLength 8 = .ok (.getfield 213, 3) := by decide +kernel
theorem dX9_representativeLength_11 : decode cX9_representativeLength 11 = .ok (.invokestatic 142, 3) := by decide +kernel
theorem dX9_representativeLength_14 : decode cX9_representativeLength 14 = .ok (.aload_n 3, 1) := by decide +kernel
theorem dX9_representativeLength_15 : decode cX9_representativeLength 15 = .ok (.getfield 255, 3) := by decide +kernel
theorem dX9_representativeLength_18 : decode cX9_representativeLength 18 = .ok (.iload_n 2, 1) := by decide +kernel
theorem dX9_representativeLength_19 : decode cX9_representativeLength 19 = .ok (.iaload, 1) := by decide +kernel
theorem dX9_representativeLength_20 : decode cX9_representativeLength 20 = .ok (.ireturn, 1) := by decide +kernel
theorem dX9_setRegister_0 : decode cX9_setRegister 0 = .ok (.iload_n 1, 1) := by decide +kernel
theorem dX9_setRegister_1 : decode cX9_setRegister 1 = .ok (.bipush 8, 2) := by decide +kernel
theorem dX9_setRegister_3 : decode cX9_setRegister 3 = .ok (.invokestatic 142, 3) := by decide +kernel
theorem dX9_setRegister_6 : decode cX9_setRegister 6 = .ok (.aload_n 0, 1) := by decide +kernel
theorem dX9_setRegister_7 : decode cX9_setRegister 7 = .ok (.getfield 69, 3) := by decide +kernel
theorem dX9_setRegister_10 : decode cX9_setRegister 10 = .ok (.invokevirtual 258, 3) := by decide +kernel
theorem dX9_setRegister_13 : decode cX9_setRegister 13 = .ok (.iconst 0, 1) := by decide +kernel
theorem dX9_setRegister_14 : decode cX9_setRegister 14 = .ok (.istore_n 2, 1) := by decide +kernel
theorem dX9_setRegister_15 : decode cX9_setRegister 15 = .ok (.iload_n 2, 1) := by decide +kernel
theorem dX9_setRegister_16 : decode cX9_setRegister 16 = .ok (.aload_n 0, 1) := by decide +kernel
theorem dX9_setRegister_17 : decode cX9_setRegister 17 = .ok (.getfield 84, 3) := by decide +kernel
theorem dX9_setRegister_20 : decode cX9_setRegister 20 = .ok (.if_icmp .ge 50, 3) := by decide +kernel
theorem dX9_setRegister_23 : decode cX9_setRegister 23 = .ok (.aload_n 0, 1) := by decide +kernel
theorem dX9_setRegister_24 : decode cX9_setRegister 24 = .ok (.getfield 9, 3) := by decide +kernel
theorem dX9_setRegister_27 : decode cX9_setRegister 27 = .ok (.iload_n 2, 1) := by decide +kernel
theorem dX9_setRegister_28 : decode cX9_setRegister 28 = .ok (.iaload, 1) := by decide +kernel
theorem dX9_setRegister_29 : decode cX9_setRegister 29 = .ok (.aload_n 0, 1) := by decide +kernel
theorem dX9_setRegister_30 : decode cX9_setRegister 30 = .ok (.getfield 16, 3) := by decide +kernel
theorem dX9_setRegister_33 : decode cX9_setRegister 33 = .ok (.getfield 126, 3) := by decide +kernel
theorem dX9_setRegister_36 : decode cX9_setRegister 36 = .ok (.invokestatic 261, 3) := by decide +kernel
theorem dX9_setRegister_39 : decode cX9_setRegister 39 = .ok (.istore_n 3, 1) := by decide +kernel
theorem dX9_setRegister_40 : decode cX9_setRegister 40 = .ok (.iload_n 3, 1) := by decide +kernel
theorem dX9_setRegister_41 : decode cX9_setRegister 41 = .ok (.iconst (-1), 1) := by decide +kernel
theorem dX9_setRegister_42 : decode cX9_setRegister 42 = .ok (.if_icmp .ne 14, 3) := by decide +kernel
theorem dX9_setRegister_45 : decode cX9_setRegister 45 = .ok (.new 98, 3) := by decide +kernel
theorem dX9_setRegister_48 : decode cX9_setRegister 48 = .ok (.dup, 1) := by decide +kernel
theorem dX9_setRegister_49 : decode cX9_setRegister 49 = .ok (.ldc_w 264, 3) := by decide +kernel
theorem dX9_setRegister_52 : decode cX9_setRegister 52 = .ok (.invokespecial 102, 3) := by decide +kernel
theorem dX9_setRegister_55 : decode cX9_setRegister 55 = .ok (.athrow, 1) := by decide +kernel
theorem dX9_setRegister_56 : decode cX9_setRegister 56 = .ok (.aload_n 0, 1) := by decide +kernel
theorem dX9_setRegister_57 : decode cX9_setRegister 57 = .ok (.getfield 69, 3) := by decide +kernel
theorem dX9_setRegister_60 : decode cX9_setRegister 60 = .ok (.iload_n 3, 1) := by decide +kernel
theorem dX9_setRegister_61 : decode cX9_setRegister 61 = .ok (.invokevirtual 266, 3) := by decide +kernel
theorem dX9_setRegister_64 : decode cX9_setRegister 64 = .ok (.iinc 2 1, 3) := by decide +kernel
theorem dX9_setRegister_67 : decode cX9_setRegister 67 = .ok (.goto (-52), 3) := by decide +kernel
theorem dX9_setRegister_70 : decode cX9_setRegister 70 = .ok (.aload_n 0, 1) := by decide +kernel
theorem dX9_setRegister_71 : decode cX9_setRegister 71 = .ok (.iload_n 1, 1) := by decide +kernel
theorem dX9_setRegister_72 : decode cX9_setRegister 72 = .ok (.invokevirtual 269, 3) := by decide +kernel
theorem dX9_setRegister_75 : decode cX9_setRegister 75 = .ok (.istore_n 2, 1) := by decide +kernel
theorem dX9_setRegister_76 : decode cX9_setRegister 76 = .ok (.aload_n 0, 1) := by decide +kernel
theorem dX9_setRegister_77 : decode cX9_setRegister 77 = .ok (.iconst 0, 1) := by decide +kernel
theorem dX9_setRegister_78 : decode cX9_setRegister 78 = .ok (.putfield 84, 3) := by decide +kernel
theorem dX9_setRegister_81 : decode cX9_setRegister 81 = .ok (.iload_n 2, 1) := by decide +kernel
theorem dX9_setRegister_82 : decode cX9_setRegister 82 = .ok (.ireturn, 1) := by decide +kernel
theorem dX9_setProduct_0 : decode cX9_setProduct 0 = .ok (.iload_n 1, 1) := by decide +kernel
theorem dX9_setProduct_1 : decode cX9_setProduct 1 = .ok (.bipush 8, 2) := by decide +kernel
theorem dX9_setProduct_3 : decode cX9_setProduct 3 = .ok (.invokestatic 142, 3) := by decide +kernel
theorem dX9_setProduct_6 : decode cX9_setProduct 6 = .ok (.aload_n 0, 1) := by decide +kernel
theorem dX9_setProduct_7 : decode cX9_setProduct 7 = .ok (.iload_n 2, 1) := by decide +kernel
theorem dX9_setProduct_8 : decode cX9_setProduct 8 = .ok (.invokevirtual 135, 3) := by decide +kernel
theorem dX9_setProduct_11 : decode cX9_setProduct 11 = .ok (.astore 4, 2) := by decide +kernel
theorem dX9_setProduct_13 : decode cX9_setProduct 13 = .ok (.aload_n 0, 1) := by decide +kernel
theorem dX9_setProduct_14 : decode cX9_setProduct 14 = .ok (.iload_n 3, 1) := by decide +kernel
theorem dX9_setProduct_15 : decode cX9_setProduct 15 = .ok (.invokevirtual 135, 3) := by decide +kernel
theorem dX9_setProduct_18 : decode cX9_setProduct 18 = .ok (.astore 5, 2) := by decide +kernel
theorem dX9_setProduct_20 : decode cX9_setProduct 20 = .ok (.aload_n 0, 1) := by decide +kernel
theorem dX9_setProduct_21 : decode cX9_setProduct 21 = .ok (.getfield 69, 3) := by decide +kernel
theorem dX9_setProduct_24 : decode cX9_setProduct 24 = .ok (.invokevirtual 258, 3) := by decide +kernel
theorem dX9_setProduct_27 : decode cX9_setProduct 27 = .ok (.aload_n 0, 1) := by decide +kernel
theorem dX9_setProduct_28 : decode cX9_setProduct 28 = .ok (.getfield 69, 3) := by decide +kernel
theorem dX9_setProduct_31 : decode cX9_setProduct 31 = .ok (.aload 4, 2) := by decide +kernel
theorem dX9_setProduct_33 : decode cX9_setProduct 33 = .ok (.invokevirtual 273, 3) := by decide +kernel
theorem dX9_setProduct_36 : decode cX9_setProduct 36 = .ok (.aload_n 0, 1) := by decide +kernel
theorem dX9_setProduct_37 : decode cX9_setProduct 37 = .ok (.getfield 69, 3) := by decide +kernel
theorem dX9_setProduct_40 : decode cX9_setProduct 40 = .ok (.aload 5, 2) := by decide +kernel
theorem dX9_setProduct_42 : decode cX9_setProduct 42 = .ok (.invokevirtual 273, 3) := by decide +kernel
theorem dX9_setProduct_45 : decode cX9_setProduct 45 = .ok (.aload_n 0, 1) := by decide +kernel
theorem dX9_setProduct_46 : decode cX9_setProduct 46 = .ok (.iload_n 1, 1) := by decide +kernel
theorem dX9_setProduct_47 : decode cX9_setProduct 47 = .ok (.invokevirtual 269, 3) := by decide +kernel
theorem dX9_setProduct_50 : decode cX9_setProduct 50 = .ok (.ireturn, 1) := by decide +kernel
theorem dX9_setInverse_0 : decode cX9_setInverse 0 = .ok (.iload_n 1, 1) := by decide +kernel
theorem dX9_setInverse_1 : decode cX9_setInverse 1 = .ok (.bipush 8, 2) := by decide +kernel
theorem dX9_setInverse_3 : decode cX9_setInverse 3 = .ok (.invokestatic 142, 3) := by decide +kernel
theorem dX9_setInverse_6 : decode cX9_setInverse 6 = .ok (.aload_n 0, 1) := by decide +kernel
theorem dX9_setInverse_7 : decode cX9_setInverse 7 = .ok (.iload_n 2, 1) := by decide +kernel
theorem dX9_setInverse_8 : decode cX9_setInverse 8 = .ok (.invokevirtual 135, 3) := by decide +kernel
theorem dX9_setInverse_11 : decode cX9_setInverse 11 = .ok (.astore_n 3, 1) := by decide +kernel
theorem dX9_setInverse_12 : decode cX9_setInverse 12 = .ok (.aload_n 0, 1) := by decide +kernel
theorem dX9_setInverse_13 : decode cX9_setInverse 13 = .ok (.getfield 69, 3) := by decide +kernel
theorem dX9_setInverse_16 : decode cX9_setInverse 16 = .ok (.invokevirtual 258, 3) := by decide +kernel
theorem dX9_setInverse_19 : decode cX9_setInverse 19 = .ok (.aload_n 0, 1) := by decide +kernel
theorem dX9_setInverse_20 : decode cX9_setInverse 20 = .ok (.getfield 69, 3) := by decide +kernel
theorem dX9_setInverse_23 : decode cX9_setInverse 23 = .ok (.aload_n 3, 1) := by decide +kernel
theorem dX9_setInverse_24 : decode cX9_setInverse 24 = .ok (.invokevirtual 276, 3) := by decide +kernel
theorem dX9_setInverse_27 : decode cX9_setInverse 27 = .ok (.aload_n 0, 1) := by decide +kernel
theorem dX9_setInverse_28 : decode cX9_setInverse 28 = .ok (.iload_n 1, 1) := by decide +kernel
theorem dX9_setInverse_29 : decode cX9_setInverse 29 = .ok (.invokevirtual 269, 3) := by decide +kernel
theorem dX9_setInverse_32 : decode cX9_setInverse 32 = .ok (.ireturn, 1) := by decide +kernel
theorem dX9_setConjugate_0 : decode cX9_setConjugate 0 = .ok (.iload_n 1, 1) := by decide +kernel
theorem dX9_setConjugate_1 : decode cX9_setConjugate 1 = .ok (.bipush 8, 2) := by decide +kernel
theorem dX9_setConjugate_3 : decode cX9_setConjugate 3 = .ok (.invokestatic 142, 3) := by decide +kernel
theorem dX9_setConjugate_6 : decode cX9_setConjugate 6 = .ok (.aload_n 0, 1) := by decide +kernel
theorem dX9_setConjugate_7 : decode cX9_setConjugate 7 = .ok (.iload_n 2, 1) := by decide +kernel
theorem dX9_setConjugate_8 : decode cX9_setConjugate 8 = .ok (.invokevirtual 135, 3) := by decide +kernel
theorem dX9_setConjugate_11 : decode cX9_setConjugate 11 = .ok (.astore 4, 2) := by decide +kernel
theorem dX9_setConjugate_13 : decode cX9_setConjugate 13 = .ok (.aload_n 0, 1) := by decide +kernel
theorem dX9_setConjugate_14 : decode cX9_setConjugate 14 = .ok (.iload_n 3, 1) := by decide +kernel
theorem dX9_setConjugate_15 : decode cX9_setConjugate 15 = .ok (.invokevirtual 135, 3) := by decide +kernel
theorem dX9_setConjugate_18 : decode cX9_setConjugate 18 = .ok (.astore 5, 2) := by decide +kernel
theorem dX9_setConjugate_20 : decode cX9_setConjugate 20 = .ok (.aload_n 0, 1) := by decide +kernel
theorem dX9_setConjugate_21 : decode cX9_setConjugate 21 = .ok (.getfield 69, 3) := by decide +kernel
theorem dX9_setConjugate_24 : decode cX9_setConjugate 24 = .ok (.invokevirtual 258, 3) := by decide +kernel
theorem dX9_setConjugate_27 : decode cX9_setConjugate 27 = .ok (.aload_n 0, 1) := by decide +kernel
theorem dX9_setConjugate_28 : decode cX9_setConjugate 28 = .ok (.getfield 69, 3) := by decide +kernel
theorem dX9_setConjugate_31 : decode cX9_setConjugate 31 = .ok (.aload 5, 2) := by decide +kernel
theorem dX9_setConjugate_33 : decode cX9_setConjugate 33 = .ok (.invokevirtual 276, 3) := by decide +kernel
theorem dX9_setConjugate_36 : decode cX9_setConjugate 36 = .ok (.aload_n 0, 1) := by decide +kernel
theorem dX9_setConjugate_37 : decode cX9_setConjugate 37 = .ok (.getfield 69, 3) := by decide +kernel
theorem dX9_setConjugate_40 : decode cX9_setConjugate 40 = .ok (.aload 4, 2) := by decide +kernel
theorem dX9_setConjugate_42 : decode cX9_setConjugate 42 = .ok (.invokevirtual 273, 3) := by decide +kernel
theorem dX9_setConjugate_45 : decode cX9_setConjugate 45 = .ok (.aload_n 0, 1) := by decide +kernel
theorem dX9_setConjugate_46 : decode cX9_setConjugate 46 = .ok (.getfield 69, 3) := by decide +kernel
theorem dX9_setConjugate_49 : decode cX9_setConjugate 49 = .ok (.aload 5, 2) := by decide +kernel
theorem dX9_setConjugate_51 : decode cX9_setConjugate 51 = .ok (.invokevirtual 273, 3) := by decide +kernel
theorem dX9_setConjugate_54 : decode cX9_setConjugate 54 = .ok (.aload_n 0, 1) := by decide +kernel
theorem dX9_setConjugate_55 : decode cX9_setConjugate 55 = .ok (.iload_n 1, 1) := by decide +kernel
theorem dX9_setConjugate_56 : decode cX9_setConjugate 56 = .ok (.invokevirtual 269, 3) := by decide +kernel
theorem dX9_setConjugate_59 : decode cX9_setConjugate 59 = .ok (.ireturn, 1) := by decide +kernel
theorem dX9_setCommutator_0 : decode cX9_setCommutator 0 = .ok (.iload_n 1, 1) := by decide +kernel
theorem dX9_setCommutator_1 : decode cX9_setCommutator 1 = .ok (.bipush 8, 2) := by decide +kernel
theorem dX9_setCommutator_3 : decode cX9_setCommutator 3 = .ok (.invokestatic 142, 3) := by decide +kernel
theorem dX9_setCommutator_6 : decode cX9_setCommutator 6 = .ok (.aload_n 0, 1) := by decide +kernel
theorem dX9_setCommutator_7 : decode cX9_setCommutator 7 = .ok (.aload_n 0, 1) := by decide +kernel
theorem dX9_setCommutator_8 : decode cX9_setCommutator 8 = .ok (.iload_n 2, 1) := by decide +kernel
theorem dX9_setCommutator_9 : decode cX9_setCommutator 9 = .ok (.invokevirtual 135, 3) := by decide +kernel
theorem dX9_setCommutator_12 : decode cX9_setCommutator 12 = .ok (.aload_n 0, 1) := by decide +kernel
theorem dX9_setCommutator_13 : decode cX9_setCommutator 13 = .ok (.iload_n 3, 1) := by decide +kernel
theorem dX9_setCommutator_14 : decode cX9_setCommutator 14 = .ok (.invokevirtual 135, 3) := by decide +kernel
theorem dX9_setCommutator_17 : decode cX9_setCommutator 17 = .ok (.invokevirtual 167, 3) := by decide +kernel
theorem dX9_setCommutator_20 : decode cX9_setCommutator 20 = .ok (.aload_n 0, 1) := by decide +kernel
theorem dX9_setCommutator_21 : decode cX9_setCommutator 21 = .ok (.iload_n 1, 1) := by decide +kernel
theorem dX9_setCommutator_22 : decode cX9_setCommutator 22 = .ok (.invokevirtual 269, 3) := by decide +kernel
theorem dX9_setCommutator_25 : decode cX9_setCommutator 25 = .ok (.ireturn, 1) := by decide +kernel
theorem dX9_setPower_0 : decode cX9_setPower 0 = .ok (.iload_n 1, 1) := by decide +kernel
theorem dX9_setPower_1 : decode cX9_setPower 1 = .ok (.bipush 8, 2) := by decide +kernel
theorem dX9_setPower_3 : decode cX9_setPower 3 = .ok (.invokestatic 142, 3) := by decide +kernel
theorem dX9_setPower_6 : decode cX9_setPower 6 = .ok (.aload_n 0, 1) := by decide +kernel
theorem dX9_setPower_7 : decode cX9_setPower 7 = .ok (.iload_n 2, 1) := by decide +kernel
theorem dX9_setPower_8 : decode cX9_setPower 8 = .ok (.invokevirtual 135, 3) := by decide +kernel
theorem dX9_setPower_11 : decode cX9_setPower 11 = .ok (.astore 4, 2) := by decide +kernel
theorem dX9_setPower_13 : decode cX9_setPower 13 = .ok (.iload_n 3, 1) := by decide +kernel
theorem dX9_setPower_14 : decode cX9_setPower 14 = .ok (.bipush (-20), 2) := by decide +kernel
theorem dX9_setPower_16 : decode cX9_setPower 16 = .ok (.if_icmp .lt 9, 3) := by decide +kernel
theorem dX9_setPower_19 : decode cX9_setPower 19 = .ok (.iload_n 3, 1) := by decide +kernel
theorem dX9_setPower_20 : decode cX9_setPower 20 = .ok (.bipush 20, 2) := by decide +kernel
theorem dX9_setPower_22 : decode cX9_setPower 22 = .ok (.if_icmp .le 14, 3) := by decide +kernel
theorem dX9_setPower_25 : decode cX9_setPower 25 = .ok (.new 98, 3) := by decide +kernel
theorem dX9_setPower_28 : decode cX9_setPower 28 = .ok (.dup, 1) := by decide +kernel
theorem dX9_setPower_29 : decode cX9_setPower 29 = .ok (.ldc_w 279, 3) := by decide +kernel
theorem dX9_setPower_32 : decode cX9_setPower 32 = .ok (.invokespecial 102, 3) := by decide +kernel
theorem dX9_setPower_35 : decode cX9_setPower 35 = .ok (.athrow, 1) := by decide +kernel
theorem dX9_setPower_36 : decode cX9_setPower 36 = .ok (.aload_n 0, 1) := by decide +kernel
theorem dX9_setPower_37 : decode cX9_setPower 37 = .ok (.getfield 69, 3) := by decide +kernel
theorem dX9_setPower_40 : decode cX9_setPower 40 = .ok (.invokevirtual 258, 3) := by decide +kernel
theorem dX9_setPower_43 : decode cX9_setPower 43 = .ok (.iconst 0, 1) := by decide +kernel
theorem dX9_setPower_44 : decode cX9_setPower 44 = .ok (.istore 5, 2) := by decide +kernel
theorem dX9_setPower_46 : decode cX9_setPower 46 = .ok (.iload 5, 2) := by decide +kernel
theorem dX9_setPower_48 : decode cX9_setPower 48 = .ok (.iload_n 3, 1) := by decide +kernel
theorem dX9_setPower_49 : decode cX9_setPower 49 = .ok (.if_icmp .ge 18, 3) := by decide +kernel
theorem dX9_setPower_52 : decode cX9_setPower 52 = .ok (.aload_n 0, 1) := by decide +kernel
theorem dX9_setPower_53 : decode cX9_setPower 53 = .ok (.getfield 69, 3) := by decide +kernel
theorem dX9_setPower_56 : decode cX9_setPower 56 = .ok (.aload 4, 2) := by decide +kernel
theorem dX9_setPower_58 : decode cX9_setPower 58 = .ok (.invokevirtual 273, 3) := by decide +kernel
theorem dX9_setPower_61 : decode cX9_setPower 61 = .ok (.iinc 5 1, 3) := by decide +kernel
theorem dX9_setPower_64 : decode cX9_setPower 64 = .ok (.goto (-18), 3) := by decide +kernel
theorem dX9_setPower_67 : decode cX9_setPower 67 = .ok (.iconst 0, 1) := by decide +kernel
theorem dX9_setPower_68 : decode cX9_setPower 68 = .ok (.istore 5, 2) := by decide +kernel
theorem dX9_setPower_70 : decode cX9_setPower 70 = .ok (.iload 5, 2) := by decide +kernel
theorem dX9_setPower_72 : decode cX9_setPower 72 = .ok (.iload_n 3, 1) := by decide +kernel
theorem dX9_setPower_73 : decode cX9_setPower 73 = .ok (.if_icmp .le 18, 3) := by decide +kernel
theorem dX9_setPower_76 : decode cX9_setPower 76 = .ok (.aload_n 0, 1) := by decide +kernel
theorem dX9_setPower_77 : decode cX9_setPower 77 = .ok (.getfield 69, 3) := by decide +kernel
theorem dX9_setPower_80 : decode cX9_setPower 80 = .ok (.aload 4, 2) := by decide +kernel
theorem dX9_setPower_82 : decode cX9_setPower 82 = .ok (.invokevirtual 276, 3) := by decide +kernel
theorem dX9_setPower_85 : decode cX9_setPower 85 = .ok (.iinc 5 (-1), 3) := by decide +kernel
theorem dX9_setPower_88 : decode cX9_setPower 88 = .ok (.goto (-18), 3) := by decide +kernel
theorem dX9_setPower_91 : decode cX9_setPower 91 = .ok (.aload_n 0, 1) := by decide +kernel
theorem dX9_setPower_92 : decode cX9_setPower 92 = .ok (.iload_n 1, 1) := by decide +kernel
theorem dX9_setPower_93 : decode cX9_setPower 93 = .ok (.invokevirtual 269, 3) := by decide +kernel
theorem dX9_setPower_96 : decode cX9_setPower 96 = .ok (.ireturn, 1) := by decide +kernel
theorem dX9_setRoot_0 : decode cX9_setRoot 0 = .ok (.iload_n 1, 1) := by decide +kernel
theorem dX9_setRoot_1 : decode cX9_setRoot 1 = .ok (.bipush 8, 2) := by decide +kernel
theorem dX9_setRoot_3 : decode cX9_setRoot 3 = .ok (.invokestatic 142, 3) := by decide +kernel
theorem dX9_setRoot_6 : decode cX9_setRoot 6 = .ok (.aload_n 0, 1) := by decide +kernel
theorem dX9_setRoot_7 : decode cX9_setRoot 7 = .ok (.iload_n 2, 1) := by decide +kernel
theorem dX9_setRoot_8 : decode cX9_setRoot 8 = .ok (.invokevirtual 135, 3) := by decide +kernel
theorem dX9_setRoot_11 : decode cX9_setRoot 11 = .ok (.astore_n 3, 1) := by decide +kernel
theorem dX9_setRoot_12 : decode cX9_setRoot 12 = .ok (.aload_n 3, 1) := by decide +kernel
theorem dX9_setRoot_13 : decode cX9_setRoot 13 = .ok (.invokestatic 186, 3) := by decide +kernel
theorem dX9_setRoot_16 : decode cX9_setRoot 16 = .ok (.aload_n 3, 1) := by decide +kernel
theorem dX9_setRoot_17 : decode cX9_setRoot 17 = .ok (.invokevirtual 175, 3) := by decide +kernel
theorem dX9_setRoot_20 : decode cX9_setRoot 20 = .ok (.istore 4, 2) := by decide +kernel
theorem dX9_setRoot_22 : decode cX9_setRoot 22 = .ok (.aload_n 0, 1) := by decide +kernel
theorem dX9_setRoot_23 : decode cX9_setRoot 23 = .ok (.getfield 69, 3) := by decide +kernel
theorem dX9_setRoot_26 : decode cX9_setRoot 26 = .ok (.invokevirtual 258, 3) := by decide +kernel
theorem dX9_setRoot_29 : decode cX9_setRoot 29 = .ok (.aload_n 0, 1) := by decide +kernel
theorem dX9_setRoot_30 : decode cX9_setRoot 30 = .ok (.getfield 69, 3) := by decide +kernel
theorem dX9_setRoot_33 : decode cX9_setRoot 33 = .ok (.aload_n 3, 1) := by decide +kernel
theorem dX9_setRoot_34 : decode cX9_setRoot 34 = .ok (.iconst 0, 1) := by decide +kernel
theorem dX9_setRoot_35 : decode cX9_setRoot 35 = .ok (.iload 4, 2) := by decide +kernel
theorem dX9_setRoot_37 : decode cX9_setRoot 37 = .ok (.aload_n 3, 1) := by decide +kernel
theorem dX9_setRoot_38 : decode cX9_setRoot 38 = .ok (.invokevirtual 281, 3) := by decide +kernel
theorem dX9_setRoot_41 : decode cX9_setRoot 41 = .ok (.iadd, 1) := by decide +kernel
theorem dX9_setRoot_42 : decode cX9_setRoot 42 = .ok (.invokevirtual 284, 3) := by decide +kernel
theorem dX9_setRoot_45 : decode cX9_setRoot 45 = .ok (.aload_n 0, 1) := by decide +kernel
theorem dX9_setRoot_46 : decode cX9_setRoot 46 = .ok (.getfield 69, 3) := by decide +kernel
theorem dX9_setRoot_49 : decode cX9_setRoot 49 = .ok (.aload_n 3, 1) := by decide +kernel
theorem dX9_setRoot_50 : decode cX9_setRoot 50 = .ok (.aload_n 3, 1) := by decide +kernel
theorem dX9_setRoot_51 : decode cX9_setRoot 51 = .ok (.getfield 139, 3) := by decide +kernel
theorem dX9_setRoot_54 : decode cX9_setRoot 54 = .ok (.iload 4, 2) := by decide +kernel
theorem dX9_setRoot_56 : decode cX9_setRoot 56 = .ok (.isub, 1) := by decide +kernel
theorem dX9_setRoot_57 : decode cX9_setRoot 57 = .ok (.aload_n 3, 1) := by decide +kernel
theorem dX9_setRoot_58 : decode cX9_setRoot 58 = .ok (.getfield 139, 3) := by decide +kernel
theorem dX9_setRoot_61 : decode cX9_setRoot 61 = .ok (.invokevirtual 284, 3) := by decide +kernel
theorem dX9_setRoot_64 : decode cX9_setRoot 64 = .ok (.aload_n 0, 1) := by decide +kernel
theorem dX9_setRoot_65 : decode cX9_setRoot 65 = .ok (.iload_n 1, 1) := by decide +kernel
theorem dX9_setRoot_66 : decode cX9_setRoot 66 = .ok (.invokevirtual 269, 3) := by decide +kernel
theorem dX9_setRoot_69 : decode cX9_setRoot 69 = .ok (.ireturn, 1) := by decide +kernel
theorem dX9_substitute_0 : decode cX9_substitute 0 = .ok (.iload_n 1, 1) := by decide +kernel
theorem dX9_substitute_1 : decode cX9_substitute 1 = .ok (.bipush 8, 2) := by decide +kernel
theorem dX9_substitute_3 : decode cX9_substitute 3 = .ok (.invokestatic 142, 3) := by decide +kernel
theorem dX9_substitute_6 : decode cX9_substitute 6 = .ok (.aload_n 0, 1) := by decide +kernel
theorem dX9_substitute_7 : decode cX9_substitute 7 = .ok (.iload_n 2, 1) := by decide +kernel
theorem dX9_substitute_8 : decode cX9_substitute 8 = .ok (.invokevirtual 135, 3) := by decide +kernel
theorem dX9_substitute_11 : decode cX9_substitute 11 = .ok (.astore 5, 2) := by decide +kernel
theorem dX9_substitute_13 : decode cX9_substitute 13 = .ok (.iload_n 3, 1) := by decide +kernel
theorem dX9_substitute_14 : decode cX9_substitute 14 = .ok (.aload_n 0, 1) := by decide +kernel
theorem dX9_substitute_15 : decode cX9_substitute 15 = .ok (.getfield 16, 3) := by decide +kernel
theorem dX9_substitute_18 : decode cX9_substitute 18 = .ok (.getfield 126, 3) := by decide +kernel
theorem dX9_substitute_21 : decode cX9_substitute 21 = .ok (.invokestatic 142, 3) := by decide +kernel
theorem dX9_substitute_24 : decode cX9_substitute 24 = .ok (.aload_n 0, 1) := by decide +kernel
theorem dX9_substitute_25 : decode cX9_substitute 25 = .ok (.iload 4, 2) := by decide +kernel
theorem dX9_substitute_27 : decode cX9_substitute 27 = .ok (.invokevirtual 135, 3) := by decide +kernel
theorem dX9_substitute_30 : decode cX9_substitute 30 = .ok (.astore 6, 2) := by decide +kernel
theorem dX9_substitute_32 : decode cX9_substitute 32 = .ok (.aload_n 0, 1) := by decide +kernel
theorem dX9_substitute_33 : decode cX9_substitute 33 = .ok (.getfield 69, 3) := by decide +kernel
theorem dX9_substitute_36 : decode cX9_substitute 36 = .ok (.invokevirtual 258, 3) := by decide +kernel
theorem dX9_substitute_39 : decode cX9_substitute 39 = .ok (.iconst 0, 1) := by decide +kernel
theorem dX9_substitute_40 : decode cX9_substitute 40 = .ok (.istore 7, 2) := by decide +kernel
theorem dX9_substitute_42 : decode cX9_substitute 42 = .ok (.iload 7, 2) := by decide +kernel
theorem dX9_substitute_44 : decode cX9_substitute 44 = .ok (.aload 5, 2) := by decide +kernel
theorem dX9_substitute_46 : decode cX9_substitute 46 = .ok (.getfield 139, 3) := by decide +kernel
theorem dX9_substitute_49 : decode cX9_substitute 49 = .ok (.if_icmp .ge 68, 3) := by decide +kernel
theorem dX9_substitute_52 : decode cX9_substitute 52 = .ok (.aload 5, 2) := by decide +kernel
theorem dX9_substitute_54 : decode cX9_substitute 54 = .ok (.getfield 146, 3) := by decide +kernel
theorem dX9_substitute_57 : decode cX9_substitute 57 = .ok (.iload 7, 2) := by decide +kernel
theorem dX9_substitute_59 : decode cX9_substitute 59 = .ok (.iaload, 1) := by decide +kernel
theorem dX9_substitute_60 : decode cX9_substitute 60 = .ok (.istore 8, 2) := by decide +kernel
theorem dX9_substitute_62 : decode cX9_substitute 62 = .ok (.iload 8, 2) := by decide +kernel
theorem dX9_substitute_64 : decode cX9_substitute 64 = .ok (.iconst 2, 1) := by decide +kernel
theorem dX9_substitute_65 : decode cX9_substitute 65 = .ok (.idiv, 1) := by decide +kernel
theorem dX9_substitute_66 : decode cX9_substitute 66 = .ok (.iload_n 3, 1) := by decide +kernel
theorem dX9_substitute_67 : decode cX9_substitute 67 = .ok (.if_icmp .eq 15, 3) := by decide +kernel
theorem dX9_substitute_70 : decode cX9_substitute 70 = .ok (.aload_n 0, 1) := by decide +kernel
theorem dX9_substitute_71 : decode cX9_substitute 71 = .ok (.getfield 69, 3) := by decide +kernel
theorem dX9_substitute_74 : decode cX9_substitute 74 = .ok (.iload 8, 2) := by decide +kernel
theorem dX9_substitute_76 : decode cX9_substitute 76 = .ok (.invokevirtual 266, 3) := by decide +kernel
theorem dX9_substitute_79 : decode cX9_substitute 79 = .ok (.goto 32, 3) := by decide +kernel
theorem dX9_substitute_82 : decode cX9_substitute 82 = .ok (.iload 8, 2) := by decide +kernel
theorem dX9_substitute_84 : decode cX9_substitute 84 = .ok (.invokestatic 160, 3) := by decide +kernel
theorem dX9_substitute_87 : decode cX9_substitute 87 = .ok (.ifCond .eq 15, 3) := by decide +kernel
theorem dX9_substitute_90 : decode cX9_substitute 90 = .ok (.aload_n 0, 1) := by decide +kernel
theorem dX9_substitute_91 : decode cX9_substitute 91 = .ok (.getfield 69, 3) := by decide +kernel
theorem dX9_substitute_94 : decode cX9_substitute 94 = .ok (.aload 6, 2) := by decide +kernel
theorem dX9_substitute_96 : decode cX9_substitute 96 = .ok (.invokevirtual 276, 3) := by decide +kernel
theorem dX9_substitute_99 : decode cX9_substitute 99 = .ok (.goto 12, 3) := by decide +kernel
theorem dX9_substitute_102 : decode cX9_substitute 102 = .ok (.aload_n 0, 1) := by decide +kernel
theorem dX9_substitute_103 : decode cX9_substitute 103 = .ok (.getfield 69, 3) := by decide +kernel
theorem dX9_substitute_106 : decode cX9_substitute 106 = .ok (.aload 6, 2) := by decide +kernel
theorem dX9_substitute_108 : decode cX9_substitute 108 = .ok (.invokevirtual 273, 3) := by decide +kernel
theorem dX9_substitute_111 : decode cX9_substitute 111 = .ok (.iinc 7 1, 3) := by decide +kernel
theorem dX9_substitute_114 : decode cX9_substitute 114 = .ok (.goto (-72), 3) := by decide +kernel
theorem dX9_substitute_117 : decode cX9_substitute 117 = .ok (.aload_n 0, 1) := by decide +kernel
theorem dX9_substitute_118 : decode cX9_substitute 118 = .ok (.iload_n 1, 1) := by decide +kernel
theorem dX9_substitute_119 : decode cX9_substitute 119 = .ok (.invokevirtual 269, 3) := by decide +kernel
theorem dX9_substitute_122 : decode cX9_substitute 122 = .ok (.ireturn, 1) := by decide +kernel
theorem dX9_addGeneratingWord_0 : decode cX9_addGeneratingWord 0 = .ok (.iload_n 1, 1) := by decide +kernel
theorem dX9_addGeneratingWord_1 : decode cX9_addGeneratingWord 1 = .ok (.iconst 2, 1) := by decide +kernel
theorem dX9_addGeneratingWord_2 : decode cX9_addGeneratingWord 2 = .ok (.invokestatic 142, 3) := by decide +kernel
theorem dX9_addGeneratingWord_5 : decode cX9_addGeneratingWord 5 = .ok (.aload_n 0, 1) := by decide +kernel
theorem dX9_addGeneratingWord_6 : decode cX9_addGeneratingWord 6 = .ok (.iload_n 2, 1) := by decide +kernel
theorem dX9_addGeneratingWord_7 : decode cX9_addGeneratingWord 7 = .ok (.invokevirtual 135, 3) := by decide +kernel
theorem dX9_addGeneratingWord_10 : decode cX9_addGeneratingWord 10 = .ok (.astore_n 3, 1) := by decide +kernel
theorem dX9_addGeneratingWord_11 : decode cX9_addGeneratingWord 11 = .ok (.aload_n 0, 1) := by decide +kernel
theorem dX9_addGeneratingWord_12 : decode cX9_addGeneratingWord 12 = .ok (.getfield 16, 3) := by decide +kernel
theorem dX9_addGeneratingWord_15 : decode cX9_addGeneratingWord 15 = .ok (.getfield 206, 3) := by decide +kernel
theorem dX9_addGeneratingWord_18 : decode cX9_addGeneratingWord 18 = .ok (.iload_n 1, 1) := by decide +kernel
theorem dX9_addGeneratingWord_19 : decode cX9_addGeneratingWord 19 = .ok (.iaload, 1) := by decide +kernel
theorem dX9_addGeneratingWord_20 : decode cX9_addGeneratingWord 20 = .ok (.bipush 6, 2) := by decide +kernel
theorem dX9_addGeneratingWord_22 : decode cX9_addGeneratingWord 22 = .ok (.if_icmp .lt 14, 3) := by decide +kernel
theorem dX9_addGeneratingWord_25 : decode cX9_addGeneratingWord 25 = .ok (.new 88, 3) := by decide +kernel
theorem dX9_addGeneratingWord_28 : decode cX9_addGeneratingWord 28 = .ok (.dup, 1) := by decide +kernel
theorem dX9_addGeneratingWord_29 : decode cX9_addGeneratingWord 29 = .ok (.ldc_w 288, 3) := by decide +kernel
theorem dX9_addGeneratingWord_32 : decode cX9_addGeneratingWord 32 = .ok (.invokespecial 92, 3) := by decide +kernel
theorem dX9_addGeneratingWord_35 : decode cX9_addGeneratingWord 35 = .ok (.athrow, 1) := by decide +kernel
theorem dX9_addGeneratingWord_36 : decode cX9_addGeneratingWord 36 = .ok (.aload_n 0, 1) := by decide +kernel
theorem dX9_addGeneratingWord_37 : decode cX9_addGeneratingWord 37 = .ok (.getfield 26, 3) := by decide +kernel
theorem dX9_addGeneratingWord_40 : decode cX9_addGeneratingWord 40 = .ok (.aload_n 0, 1) := by decide +kernel
theorem dX9_addGeneratingWord_41 : decode cX9_addGeneratingWord 41 = .ok (.getfield 16, 3) := by decide +kernel
theorem dX9_addGeneratingWord_44 : decode cX9_addGeneratingWord 44 = .ok (.invokevirtual 290, 3) := by decide +kernel
theorem dX9_addGeneratingWord_47 : decode cX9_addGeneratingWord 47 = .ok (.aload_n 0, 1) := by decide +kernel
theorem dX9_addGeneratingWord_48 : decode cX9_addGeneratingWord 48 = .ok (.getfield 16, 3) := by decide +kernel
theorem dX9_addGeneratingWord_51 : decode cX9_addGeneratingWord 51 = .ok (.iload_n 1, 1) := by decide +kernel
theorem dX9_addGeneratingWord_52 : decode cX9_addGeneratingWord 52 = .ok (.aload_n 3, 1) := by decide +kernel
theorem dX9_addGeneratingWord_53 : decode cX9_addGeneratingWord 53 = .ok (.invokevirtual 293, 3) := by decide +kernel
theorem dX9_addGeneratingWord_56 : decode cX9_addGeneratingWord 56 = .ok (.aload_n 0, 1) := by decide +kernel
theorem dX9_addGeneratingWord_57 : decode cX9_addGeneratingWord 57 = .ok (.invokevirtual 123, 3) := by decide +kernel
theorem dX9_addGeneratingWord_60 : decode cX9_addGeneratingWord 60 = .ok (.aload_n 0, 1) := by decide +kernel
theorem dX9_addGeneratingWord_61 : decode cX9_addGeneratingWord 61 = .ok (.getfield 16, 3) := by decide +kernel
theorem dX9_addGeneratingWord_64 : decode cX9_addGeneratingWord 64 = .ok (.getfield 206, 3) := by decide +kernel
theorem dX9_addGeneratingWord_67 : decode cX9_addGeneratingWord 67 = .ok (.iload_n 1, 1) := by decide +kernel
theorem dX9_addGeneratingWord_68 : decode cX9_addGeneratingWord 68 = .ok (.iaload, 1) := by decide +kernel
theorem dX9_addGeneratingWord_69 : decode cX9_addGeneratingWord 69 = .ok (.ireturn, 1) := by decide +kernel
theorem dX9_removeGeneratingWord_0 : decode cX9_removeGeneratingWord 0 = .ok (.iload_n 1, 1) := by decide +kernel
theorem dX9_removeGeneratingWord_1 : decode cX9_removeGeneratingWord 1 = .ok (.iconst 2, 1) := by decide +kernel
theorem dX9_removeGeneratingWord_2 : decode cX9_removeGeneratingWord 2 = .ok (.invokestatic 142, 3) := by decide +kernel
theorem dX9_removeGeneratingWord_5 : decode cX9_removeGeneratingWord 5 = .ok (.iload_n 2, 1) := by decide +kernel
theorem dX9_removeGeneratingWord_6 : decode cX9_removeGeneratingWord 6 = .ok (.aload_n 0, 1) := by decide +kernel
theorem dX9_removeGeneratingWord_7 : decode cX9_removeGeneratingWord 7 = .ok (.getfield 16, 3) := by decide +kernel
theorem dX9_removeGeneratingWord_10 : decode cX9_removeGeneratingWord 10 = .ok (.getfield 206, 3) := by decide +kernel
theorem dX9_removeGeneratingWord_13 : decode cX9_removeGeneratingWord 13 = .ok (.iload_n 1, 1) := by decide +kernel
theorem dX9_removeGeneratingWord_14 : decode cX9_removeGeneratingWord 14 = .ok (.iaload, 1) := by decide +kernel
theorem dX9_removeGeneratingWord_15 : decode cX9_removeGeneratingWord 15 = .ok (.invokestatic 142, 3) := by decide +kernel
theorem dX9_removeGeneratingWord_18 : decode cX9_removeGeneratingWord 18 = .ok (.aload_n 0, 1) := by decide +kernel
theorem dX9_removeGeneratingWord_19 : decode cX9_removeGeneratingWord 19 = .ok (.getfield 26, 3) := by decide +kernel
theorem dX9_removeGeneratingWord_22 : decode cX9_removeGeneratingWord 22 = .ok (.aload_n 0, 1) := by decide +kernel
theorem dX9_removeGeneratingWord_23 : decode cX9_removeGeneratingWord 23 = .ok (.getfield 16, 3) := by decide +kernel
theorem dX9_removeGeneratingWord_26 : decode cX9_removeGeneratingWord 26 = .ok (.invokevirtual 290, 3) := by decide +kernel
theorem dX9_removeGeneratingWord_29 : decode cX9_removeGeneratingWord 29 = .ok (.aload_n 0, 1) := by decide +kernel
theorem dX9_removeGeneratingWord_30 : decode cX9_removeGeneratingWord 30 = .ok (.getfield 16, 3) := by decide +kernel
theorem dX9_removeGeneratingWord_33 : decode cX9_removeGeneratingWord 33 = .ok (.iload_n 1, 1) := by decide +kernel
theorem dX9_removeGeneratingWord_34 : decode cX9_removeGeneratingWord 34 = .ok (.iload_n 2, 1) := by decide +kernel
theorem dX9_removeGeneratingWord_35 : decode cX9_removeGeneratingWord 35 = .ok (.invokevirtual 297, 3) := by decide +kernel
theorem dX9_removeGeneratingWord_38 : decode cX9_removeGeneratingWord 38 = .ok (.aload_n 0, 1) := by decide +kernel
theorem dX9_removeGeneratingWord_39 : decode cX9_removeGeneratingWord 39 = .ok (.invokevirtual 123, 3) := by decide +kernel
theorem dX9_removeGeneratingWord_42 : decode cX9_removeGeneratingWord 42 = .ok (.aload_n 0, 1) := by decide +kernel
theorem dX9_removeGeneratingWord_43 : decode cX9_removeGeneratingWord 43 = .ok (.getfield 16, 3) := by decide +kernel
theorem dX9_removeGeneratingWord_46 : decode cX9_removeGeneratingWord 46 = .ok (.getfield 206, 3) := by decide +kernel
theorem dX9_removeGeneratingWord_49 : decode cX9_removeGeneratingWord 49 = .ok (.iload_n 1, 1) := by decide +kernel
theorem dX9_removeGeneratingWord_50 : decode cX9_removeGeneratingWord 50 = .ok (.iaload, 1) := by decide +kernel
theorem dX9_removeGeneratingWord_51 : decode cX9_removeGeneratingWord 51 = .ok (.ireturn, 1) := by decide +kernel
theorem dX9_undo_0 : decode cX9_undo 0 = .ok (.aload_n 0, 1) := by decide +kernel
theorem dX9_undo_1 : decode cX9_undo 1 = .ok (.getfield 26, 3) := by decide +kernel
theorem dX9_undo_4 : decode cX9_undo 4 = .ok (.getfield 300, 3) := by decide +kernel
theorem dX9_undo_7 : decode cX9_undo 7 = .ok (.ifCond .ne 14, 3) := by decide +kernel
theorem dX9_undo_10 : decode cX9_undo 10 = .ok (.new 88, 3) := by decide +kernel
theorem dX9_undo_13 : decode cX9_undo 13 = .ok (.dup, 1) := by decide +kernel
theorem dX9_undo_14 : decode cX9_undo 14 = .ok (.ldc_w 303, 3) := by decide +kernel
theorem dX9_undo_17 : decode cX9_undo 17 = .ok (.invokespecial 92, 3) := by decide +kernel
theorem dX9_undo_20 : decode cX9_undo 20 = .ok (.athrow, 1) := by decide +kernel
theorem dX9_undo_21 : decode cX9_undo 21 = .ok (.aload_n 0, 1) := by decide +kernel
theorem dX9_undo_22 : decode cX9_undo 22 = .ok (.getfield 26, 3) := by decide +kernel
theorem dX9_undo_25 : decode cX9_undo 25 = .ok (.aload_n 0, 1) := by decide +kernel
theorem dX9_undo_26 : decode cX9_undo 26 = .ok (.getfield 16, 3) := by decide +kernel
theorem dX9_undo_29 : decode cX9_undo 29 = .ok (.invokevirtual 305, 3) := by decide +kernel
theorem dX9_undo_32 : decode cX9_undo 32 = .ok (.aload_n 0, 1) := by decide +kernel
theorem dX9_undo_33 : decode cX9_undo 33 = .ok (.invokevirtual 123, 3) := by decide +kernel
theorem dX9_undo_36 : decode cX9_undo 36 = .ok (.aload_n 0, 1) := by decide +kernel
theorem dX9_undo_37 : decode cX9_undo 37 = .ok (.getfield 26, 3) := by decide +kernel
theorem dX9_undo_40 : decode cX9_undo 40 = .ok (.getfield 300, 3) := by decide +kernel
theorem dX9_undo_43 : decode cX9_undo 43 = .ok (.ireturn, 1) := by decide +kernel
theorem dX9_save_0 : decode cX9_save 0 = .ok (.aload_n 0, 1) := by decide +kernel
theorem dX9_save_1 : decode cX9_save 1 = .ok (.getfield 20, 3) := by decide +kernel
theorem dX9_save_4 : decode cX9_save 4 = .ok (.aload_n 0, 1) := by decide +kernel
theorem dX9_save_5 : decode cX9_save 5 = .ok (.getfield 16, 3) := by decide +kernel
theorem dX9_save_8 : decode cX9_save 8 = .ok (.invokevirtual 112, 3) := by decide +kernel
theorem dX9_save_11 : decode cX9_save 11 = .ok (.aload_n 0, 1) := by decide +kernel
theorem dX9_save_12 : decode cX9_save 12 = .ok (.iconst 1, 1) := by decide +kernel
theorem dX9_save_13 : decode cX9_save 13 = .ok (.putfield 119, 3) := by decide +kernel
theorem dX9_save_16 : decode cX9_save 16 = .ok (.aload_n 0, 1) := by decide +kernel
theorem dX9_save_17 : decode cX9_save 17 = .ok (.getfield 16, 3) := by decide +kernel
theorem dX9_save_20 : decode cX9_save 20 = .ok (.invokevirtual 308, 3) := by decide +kernel
theorem dX9_save_23 : decode cX9_save 23 = .ok (.ireturn, 1) := by decide +kernel
theorem dX9_restore_0 : decode cX9_restore 0 = .ok (.aload_n 0, 1) := by decide +kernel
theorem dX9_restore_1 : decode cX9_restore 1 = .ok (.getfield 119, 3) := by decide +kernel
theorem dX9_restore_4 : decode cX9_restore 4 = .ok (.ifCond .ne 14, 3) := by decide +kernel
theorem dX9_restore_7 : decode cX9_restore 7 = .ok (.new 88, 3) := by decide +kernel
theorem dX9_restore_10 : decode cX9_restore 10 = .ok (.dup, 1) := by decide +kernel
theorem dX9_restore_11 : decode cX9_restore 11 = .ok (.ldc_w 311, 3) := by decide +kernel
theorem dX9_restore_14 : decode cX9_restore 14 = .ok (.invokespecial 92, 3) := by decide +kernel
theorem dX9_restore_17 : decode cX9_restore 17 = .ok (.athrow, 1) := by decide +kernel
theorem dX9_restore_18 : decode cX9_restore 18 = .ok (.aload_n 0, 1) := by decide +kernel
theorem dX9_restore_19 : decode cX9_restore 19 = .ok (.getfield 26, 3) := by decide +kernel
theorem dX9_restore_22 : decode cX9_restore 22 = .ok (.aload_n 0, 1) := by decide +kernel
theorem dX9_restore_23 : decode cX9_restore 23 = .ok (.getfield 16, 3) := by decide +kernel
theorem dX9_restore_26 : decode cX9_restore 26 = .ok (.invokevirtual 290, 3) := by decide +kernel
theorem dX9_restore_29 : decode cX9_restore 29 = .ok (.aload_n 0, 1) := by decide +kernel
theorem dX9_restore_30 : decode cX9_restore 30 = .ok (.getfield 16, 3) := by decide +kernel
theorem dX9_restore_33 : decode cX9_restore 33 = .ok (.aload_n 0, 1) := by decide +kernel
theorem dX9_restore_34 : decode cX9_restore 34 = .ok (.getfield 20, 3) := by decide +kernel
theorem dX9_restore_37 : decode cX9_restore 37 = .ok (.invokevirtual 112, 3) := by decide +kernel
theorem dX9_restore_40 : decode cX9_restore 40 = .ok (.aload_n 0, 1) := by decide +kernel
theorem dX9_restore_41 : decode cX9_restore 41 = .ok (.invokevirtual 123, 3) := by decide +kernel
theorem dX9_restore_44 : decode cX9_restore 44 = .ok (.aload_n 0, 1) := by decide +kernel
theorem dX9_restore_45 : decode cX9_restore 45 = .ok (.getfield 16, 3) := by decide +kernel
theorem dX9_restore_48 : decode cX9_restore 48 = .ok (.invokevirtual 308, 3) := by decide +kernel
theorem dX9_restore_51 : decode cX9_restore 51 = .ok (.ireturn, 1) := by decide +kernel
theorem dX9_formatWord_0 : decode cX9_formatWord 0 = .ok (.aload_n 0, 1) := by decide +kernel
theorem dX9_formatWord_1 : decode cX9_formatWord 1 = .ok (.getfield 79, 3) := by decide +kernel
theorem dX9_formatWord_4 : decode cX9_formatWord 4 = .ok (.aload_n 0, 1) := by decide +kernel
theorem dX9_formatWord_5 : decode cX9_formatWord 5 = .ok (.iload_n 1, 1) := by decide +kernel
theorem dX9_formatWord_6 : decode cX9_formatWord 6 = .ok (.invokevirtual 135, 3) := by decide +kernel
theorem dX9_formatWord_9 : decode cX9_formatWord 9 = .ok (.invokevirtual 313, 3) := by decide +kernel
theorem dX9_formatWord_12 : decode cX9_formatWord 12 = .ok (.aload_n 0, 1) := by decide +kernel
theorem dX9_formatWord_13 : decode cX9_formatWord 13 = .ok (.getfield 79, 3) := by decide +kernel
theorem dX9_formatWord_16 : decode cX9_formatWord 16 = .ok (.getfield 316, 3) := by decide +kernel
theorem dX9_formatWord_19 : decode cX9_formatWord 19 = .ok (.ireturn, 1) := by decide +kernel
theorem dX9_formatBasisWord_0 : decode cX9_formatBasisWord 0 = .ok (.aload_n 0, 1) := by decide +kernel
theorem dX9_formatBasisWord_1 : decode cX9_formatBasisWord 1 = .ok (.iload_n 1, 1) := by decide +kernel
theorem dX9_formatBasisWord_2 : decode cX9_formatBasisWord 2 = .ok (.invokevirtual 209, 3) := by decide +kernel
theorem dX9_formatBasisWord_5 : decode cX9_formatBasisWord 5 = .ok (.astore_n 3, 1) := by decide +kernel
theorem dX9_formatBasisWord_6 : decode cX9_formatBasisWord 6 = .ok (.iload_n 2, 1) := by decide +kernel
theorem dX9_formatBasisWord_7 : decode cX9_formatBasisWord 7 = .ok (.aload_n 3, 1) := by decide +kernel
theorem dX9_formatBasisWord_8 : decode cX9_formatBasisWord 8 = .ok (.invokevirtual 222, 3) := by decide +kernel
theorem dX9_formatBasisWord_11 : decode cX9_formatBasisWord 11 = .ok (.invokestatic 142, 3) := by decide +kernel
theorem dX9_formatBasisWord_14 : decode cX9_formatBasisWord 14 = .ok (.aload_n 3, 1) := by decide +kernel
theorem dX9_formatBasisWord_15 : decode cX9_formatBasisWord 15 = .ok (.iload_n 2, 1) := by decide +kernel
theorem dX9_formatBasisWord_16 : decode cX9_formatBasisWord 16 = .ok (.invokevirtual 317, 3) := by decide +kernel
theorem dX9_formatBasisWord_19 : decode cX9_formatBasisWord 19 = .ok (.istore 4, 2) := by decide +kernel
theorem dX9_formatBasisWord_21 : decode cX9_formatBasisWord 21 = .ok (.iload 4, 2) := by decide +kernel
theorem dX9_formatBasisWord_23 : decode cX9_formatBasisWord 23 = .ok (.bipush 8, 2) := by decide +kernel
theorem dX9_formatBasisWord_25 : decode cX9_formatBasisWord 25 = .ok (.idiv, 1) := by decide +kernel
theorem dX9_formatBasisWord_26 : decode cX9_formatBasisWord 26 = .ok (.istore 5, 2) := by decide +kernel
theorem dX9_formatBasisWord_28 : decode cX9_formatBasisWord 28 = .ok (.iload 4, 2) := by decide +kernel
theorem dX9_formatBasisWord_30 : decode cX9_formatBasisWord 30 = .ok (.bipush 8, 2) := by decide +kernel
theorem dX9_formatBasisWord_32 : decode cX9_formatBasisWord 32 = .ok (.irem, 1) := by decide +kernel
theorem dX9_formatBasisWord_33 : decode cX9_formatBasisWord 33 = .ok (.istore 6, 2) := by decide +kernel
theorem dX9_formatBasisWord_35 : decode cX9_formatBasisWord 35 = .ok (.aload_n 0, 1) := by decide +kernel
theorem dX9_formatBasisWord_36 : decode cX9_formatBasisWord 36 = .ok (.aload_n 3, 1) := by decide +kernel
theorem dX9_formatBasisWord_37 : decode cX9_formatBasisWord 37 = .ok (.iload 5, 2) := by decide +kernel
theorem dX9_formatBasisWord_39 : decode cX9_formatBasisWord 39 = .ok (.invokevirtual 320, 3) := by decide +kernel
theorem dX9_formatBasisWord_42 : decode cX9_formatBasisWord 42 = .ok (.aload_n 0, 1) := by decide +kernel
theorem dX9_formatBasisWord_43 : decode cX9_formatBasisWord 43 = .ok (.getfield 69, 3) := by decide +kernel
theorem dX9_formatBasisWord_46 : decode cX9_formatBasisWord 46 = .ok (.iload 6, 2) := by decide +kernel
theorem dX9_formatBasisWord_48 : decode cX9_formatBasisWord 48 = .ok (.invokevirtual 266, 3) := by decide +kernel
theorem dX9_formatBasisWord_51 : decode cX9_formatBasisWord 51 = .ok (.aload_n 3, 1) := by decide +kernel
theorem dX9_formatBasisWord_52 : decode cX9_formatBasisWord 52 = .ok (.aload_n 0, 1) := by decide +kernel
theorem dX9_formatBasisWord_53 : decode cX9_formatBasisWord 53 = .ok (.getfield 69, 3) := by decide +kernel
theorem dX9_formatBasisWord_56 : decode cX9_formatBasisWord 56 = .ok (.aload_n 3, 1) := by decide +kernel
theorem dX9_formatBasisWord_57 : decode cX9_formatBasisWord 57 = .ok (.iload 5, 2) := by decide +kernel
theorem dX9_formatBasisWord_59 : decode cX9_formatBasisWord 59 = .ok (.iload 6, 2) := by decide +kernel
theorem dX9_formatBasisWord_61 : decode cX9_formatBasisWord 61 = .ok (.invokevirtual 219, 3) := by decide +kernel
theorem dX9_formatBasisWord_64 : decode cX9_formatBasisWord 64 = .ok (.invokevirtual 324, 3) := by decide +kernel
theorem dX9_formatBasisWord_67 : decode cX9_formatBasisWord 67 = .ok (.aload_n 0, 1) := by decide +kernel
theorem dX9_formatBasisWord_68 : decode cX9_formatBasisWord 68 = .ok (.getfield 79, 3) := by decide +kernel
theorem dX9_formatBasisWord_71 : decode cX9_formatBasisWord 71 = .ok (.aload_n 0, 1) := by decide +kernel
theorem dX9_formatBasisWord_72 : decode cX9_formatBasisWord 72 = .ok (.getfield 69, 3) := by decide +kernel
theorem dX9_formatBasisWord_75 : decode cX9_formatBasisWord 75 = .ok (.invokevirtual 328, 3) := by decide +kernel
theorem dX9_formatBasisWord_78 : decode cX9_formatBasisWord 78 = .ok (.aload_n 0, 1) := by decide +kernel
theorem dX9_formatBasisWord_79 : decode cX9_formatBasisWord 79 = .ok (.getfield 79, 3) := by decide +kernel
theorem dX9_formatBasisWord_82 : decode cX9_formatBasisWord 82 = .ok (.getfield 316, 3) := by decide +kernel
theorem dX9_formatBasisWord_85 : decode cX9_formatBasisWord 85 = .ok (.ireturn, 1) := by decide +kernel
theorem dX9_formatRepresentative_0 : decode cX9_formatRepresentative 0 = .ok (.aload_n 0, 1) := by decide +kernel
theorem dX9_formatRepresentative_1 : decode cX9_formatRepresentative 1 = .ok (.iload_n 1, 1) := by decide +kernel
theorem dX9_formatRepresentative_2 : decode cX9_formatRepresentative 2 = .ok (.invokevirtual 209, 3) := by decide +kernel
theorem dX9_formatRepresentative_5 : decode cX9_formatRepresentative 5 = .ok (.astore_n 3, 1) := by decide +kernel
theorem dX9_formatRepresentative_6 : decode cX9_formatRepresentative 6 = .ok (.iload_n 2, 1) := by decide +kernel
theorem dX9_formatRepresentative_7 : decode cX9_formatRepresentative 7 = .ok (.aload_n 3, 1) := by decide +kernel
theorem dX9_formatRepresentative_8 : decode cX9_formatRepresentative 8 = .ok (.getfield 213, 3) := by decide +kernel
theorem dX9_formatRepresentative_11 : decode cX9_formatRepresentative 11 = .ok (.invokestatic 142, 3) := by decide +kernel
theorem dX9_formatRepresentative_14 : decode cX9_formatRepresentative 14 = .ok (.aload_n 0, 1) := by decide +kernel
theorem dX9_formatRepresentative_15 : decode cX9_formatRepresentative 15 = .ok (.aload_n 3, 1) := by decide +kernel
theorem dX9_formatRepresentative_16 : decode cX9_formatRepresentative 16 = .ok (.iload_n 2, 1) := by decide +kernel
theorem dX9_formatRepresentative_17 : decode cX9_formatRepresentative 17 = .ok (.invokevirtual 320, 3) := by decide +kernel
theorem dX9_formatRepresentative_20 : decode cX9_formatRepresentative 20 = .ok (.aload_n 0, 1) := by decide +kernel
theorem dX9_formatRepresentative_21 : decode cX9_formatRepresentative 21 = .ok (.getfield 79, 3) := by decide +kernel
theorem dX9_formatRepresentative_24 : decode cX9_formatRepresentative 24 = .ok (.aload_n 0, 1) := by decide +kernel
theorem dX9_formatRepresentative_25 : decode cX9_formatRepresentative 25 = .ok (.getfield 69, 3) := by decide +kernel
theorem dX9_formatRepresentative_28 : decode cX9_formatRepresentative 28 = .ok (.invokevirtual 328, 3) := by decide +kernel
theorem dX9_formatRepresentative_31 : decode cX9_formatRepresentative 31 = .ok (.aload_n 0, 1) := by decide +kernel
theorem dX9_formatRepresentative_32 : decode cX9_formatRepresentative 32 = .ok (.getfield 79, 3) := by decide +kernel
theorem dX9_formatRepresentative_35 : decode cX9_formatRepresentative 35 = .ok (.getfield 316, 3) := by decide +kernel
theorem dX9_formatRepresentative_38 : decode cX9_formatRepresentative 38 = .ok (.ireturn, 1) := by decide +kernel
theorem dX9_formattedCharacter_0 : decode cX9_formattedCharacter 0 = .ok (.iload_n 1, 1) := by decide +kernel
theorem dX9_formattedCharacter_1 : decode cX9_formattedCharacter 1 = .ok (.aload_n 0, 1) := by decide +kernel
theorem dX9_formattedCharacter_2 : decode cX9_formattedCharacter 2 = .ok (.getfield 79, 3) := by decide +kernel
theorem dX9_formattedCharacter_5 : decode cX9_formattedCharacter 5 = .ok (.getfield 316, 3) := by decide +kernel
theorem dX9_formattedCharacter_8 : decode cX9_formattedCharacter 8 = .ok (.invokestatic 142, 3) := by decide +kernel
theorem dX9_formattedCharacter_11 : decode cX9_formattedCharacter 11 = .ok (.aload_n 0, 1) := by decide +kernel
theorem dX9_formattedCharacter_12 : decode cX9_formattedCharacter 12 = .ok (.getfield 79, 3) := by decide +kernel
theorem dX9_formattedCharacter_15 : decode cX9_formattedCharacter 15 = .ok (.getfield 331, 3) := by decide +kernel
theorem dX9_formattedCharacter_18 : decode cX9_formattedCharacter 18 = .ok (.iload_n 1, 1) := by decide +kernel
theorem dX9_formattedCharacter_19 : decode cX9_formattedCharacter 19 = .ok (.caload, 1) := by decide +kernel
theorem dX9_formattedCharacter_20 : decode cX9_formattedCharacter 20 = .ok (.ireturn, 1) := by decide +kernel
theorem dX9_checkIndex_0 : decode cX9_checkIndex 0 = .ok (.iload_n 0, 1) := by decide +kernel
theorem dX9_checkIndex_1 : decode cX9_checkIndex 1 = .ok (.ifCond .lt 8, 3) := by decide +kernel
theorem dX9_checkIndex_4 : decode cX9_checkIndex 4 = .ok (.iload_n 0, 1) := by decide +kernel
theorem dX9_checkIndex_5 : decode cX9_checkIndex 5 = .ok (.iload_n 1, 1) := by decide +kernel
theorem dX9_checkIndex_6 : decode cX9_checkIndex 6 = .ok (.if_icmp .lt 14, 3) := by decide +kernel
theorem dX9_checkIndex_9 : decode cX9_checkIndex 9 = .ok (.new 335, 3) := by decide +kernel
theorem dX9_checkIndex_12 : decode cX9_checkIndex 12 = .ok (.dup, 1) := by decide +kernel
theorem dX9_checkIndex_13 : decode cX9_checkIndex 13 = .ok (.ldc_w 337, 3) := by decide +kernel
theorem dX9_checkIndex_16 : decode cX9_checkIndex 16 = .ok (.invokespecial 339, 3) := by decide +kernel
theorem dX9_checkIndex_19 : decode cX9_checkIndex 19 = .ok (.athrow, 1) := by decide +kernel
theorem dX9_checkIndex_20 : decode cX9_checkIndex 20 = .ok (.return_, 1) := by decide +kernel
theorem dX9_checkNotEmpty_0 : decode cX9_checkNotEmpty 0 = .ok (.aload_n 0, 1) := by decide +kernel
theorem dX9_checkNotEmpty_1 : decode cX9_checkNotEmpty 1 = .ok (.getfield 139, 3) := by decide +kernel
theorem dX9_checkNotEmpty_4 : decode cX9_checkNotEmpty 4 = .ok (.ifCond .ne 14, 3) := by decide +kernel
theorem dX9_checkNotEmpty_7 : decode cX9_checkNotEmpty 7 = .ok (.new 181, 3) := by decide +kernel
theorem dX9_checkNotEmpty_10 : decode cX9_checkNotEmpty 10 = .ok (.dup, 1) := by decide +kernel
theorem dX9_checkNotEmpty_11 : decode cX9_checkNotEmpty 11 = .ok (.ldc_w 340, 3) := by decide +kernel
theorem dX9_checkNotEmpty_14 : decode cX9_checkNotEmpty 14 = .ok (.invokespecial 185, 3) := by decide +kernel
theorem dX9_checkNotEmpty_17 : decode cX9_checkNotEmpty 17 = .ok (.athrow, 1) := by decide +kernel
theorem dX9_checkNotEmpty_18 : decode cX9_checkNotEmpty 18 = .ok (.return_, 1) := by decide +kernel
theorem dX9_putBytes_0 : decode cX9_putBytes 0 = .ok (.bipush 24, 2) := by decide +kernel
theorem dX9_putBytes_2 : decode cX9_putBytes 2 = .ok (.istore_n 2, 1) := by decide +kernel
theorem dX9_putBytes_3 : decode cX9_putBytes 3 = .ok (.iload_n 2, 1) := by decide +kernel
theorem dX9_putBytes_4 : decode cX9_putBytes 4 = .ok (.ifCond .lt 45, 3) := by decide +kernel
theorem dX9_putBytes_7 : decode cX9_putBytes 7 = .ok (.aload_n 0, 1) := by decide +kernel
theorem dX9_putBytes_8 : decode cX9_putBytes 8 = .ok (.getfield 84, 3) := by decide +kernel
theorem dX9_putBytes_11 : decode cX9_putBytes 11 = .ok (.sipush 600, 3) := by decide +kernel
theorem dX9_putBytes_14 : decode cX9_putBytes 14 = .ok (.if_icmp .ge 35, 3) := by decide +kernel
theorem dX9_putBytes_17 : decode cX9_putBytes 17 = .ok (.aload_n 0, 1) := by decide +kernel
theorem dX9_putBytes_18 : decode cX9_putBytes 18 = .ok (.getfield 9, 3) := by decide +kernel
theorem dX9_putBytes_21 : decode cX9_putBytes 21 = .ok (.aload_n 0, 1) := by decide +kernel
theorem dX9_putBytes_22 : decode cX9_putBytes 22 = .ok (.getfield 84, 3) := by decide +kernel
theorem dX9_putBytes_25 : decode cX9_putBytes 25 = .ok (.iload_n 1, 1) := by decide +kernel
theorem dX9_putBytes_26 : decode cX9_putBytes 26 = .ok (.iload_n 2, 1) := by decide +kernel
theorem dX9_putBytes_27 : decode cX9_putBytes 27 = .ok (.iushr, 1) := by decide +kernel
theorem dX9_putBytes_28 : decode cX9_putBytes 28 = .ok (.sipush 255, 3) := by decide +kernel
theorem dX9_putBytes_31 : decode cX9_putBytes 31 = .ok (.iand, 1) := by decide +kernel
theorem dX9_putBytes_32 : decode cX9_putBytes 32 = .ok (.iastore, 1) := by decide +kernel
theorem dX9_putBytes_33 : decode cX9_putBytes 33 = .ok (.aload_n 0, 1) := by decide +kernel
theorem dX9_putBytes_34 : decode cX9_putBytes 34 = .ok (.dup, 1) := by decide +kernel
theorem dX9_putBytes_35 : decode cX9_putBytes 35 = .ok (.getfield 84, 3) := by decide +kernel
theorem dX9_putBytes_38 : decode cX9_putBytes 38 = .ok (.iconst 1, 1) := by decide +kernel
theorem dX9_putBytes_39 : decode cX9_putBytes 39 = .ok (.iadd, 1) := by decide +kernel
theorem dX9_putBytes_40 : decode cX9_putBytes 40 = .ok (.putfield 84, 3) := by decide +kernel
theorem dX9_putBytes_43 : decode cX9_putBytes 43 = .ok (.iinc 2 (-8), 3) := by decide +kernel
theorem dX9_putBytes_46 : decode cX9_putBytes 46 = .ok (.goto (-43), 3) := by decide +kernel
theorem dX9_putBytes_49 : decode cX9_putBytes 49 = .ok (.return_, 1) := by decide +kernel
theorem dX9_wordOf_0 : decode cX9_wordOf 0 = .ok (.iload_n 1, 1) := by decide +kernel
theorem dX9_wordOf_1 : decode cX9_wordOf 1 = .ok (.bipush 8, 2) := by decide +kernel
theorem dX9_wordOf_3 : decode cX9_wordOf 3 = .ok (.invokestatic 142, 3) := by decide +kernel
theorem dX9_wordOf_6 : decode cX9_wordOf 6 = .ok (.aload_n 0, 1) := by decide +kernel
theorem dX9_wordOf_7 : decode cX9_wordOf 7 = .ok (.getfield 16, 3) := by decide +kernel
theorem dX9_wordOf_10 : decode cX9_wordOf 10 = .ok (.getfield 342, 3) := by decide +kernel
theorem dX9_wordOf_13 : decode cX9_wordOf 13 = .ok (.iload_n 1, 1) := by decide +kernel
theorem dX9_wordOf_14 : decode cX9_wordOf 14 = .ok (.aaload, 1) := by decide +kernel
theorem dX9_wordOf_15 : decode cX9_wordOf 15 = .ok (.areturn, 1) := by decide +kernel
theorem dX9_graphOf_0 : decode cX9_graphOf 0 = .ok (.iload_n 1, 1) := by decide +kernel
theorem dX9_graphOf_1 : decode cX9_graphOf 1 = .ok (.iconst 2, 1) := by decide +kernel
theorem dX9_graphOf_2 : decode cX9_graphOf 2 = .ok (.invokestatic 142, 3) := by decide +kernel
theorem dX9_graphOf_5 : decode cX9_graphOf 5 = .ok (.aload_n 0, 1) := by decide +kernel
theorem dX9_graphOf_6 : decode cX9_graphOf 6 = .ok (.getfield 39, 3) := by decide +kernel
theorem dX9_graphOf_9 : decode cX9_graphOf 9 = .ok (.iload_n 1, 1) := by decide +kernel
theorem dX9_graphOf_10 : decode cX9_graphOf 10 = .ok (.aaload, 1) := by decide +kernel
theorem dX9_graphOf_11 : decode cX9_graphOf 11 = .ok (.astore_n 2, 1) := by decide +kernel
theorem dX9_graphOf_12 : decode cX9_graphOf 12 = .ok (.aload_n 2, 1) := by decide +kernel
theorem dX9_graphOf_13 : decode cX9_graphOf 13 = .ok (.getfield 346, 3) := by decide +kernel
theorem dX9_graphOf_16 : decode cX9_graphOf 16 = .ok (.ifCond .eq 21, 3) := by decide +kernel
theorem dX9_graphOf_19 : decode cX9_graphOf 19 = .ok (.aload_n 0, 1) := by decide +kernel
theorem dX9_graphOf_20 : decode cX9_graphOf 20 = .ok (.getfield 46, 3) := by decide +kernel
theorem dX9_graphOf_23 : decode cX9_graphOf 23 = .ok (.aload_n 0, 1) := by decide +kernel
theorem dX9_graphOf_24 : decode cX9_graphOf 24 = .ok (.getfield 16, 3) := by decide +kernel
theorem dX9_graphOf_27 : decode cX9_graphOf 27 = .ok (.iload_n 1, 1) := by decide +kernel
theorem dX9_graphOf_28 : decode cX9_graphOf 28 = .ok (.aload_n 2, 1) := by decide +kernel
theorem dX9_graphOf_29 : decode cX9_graphOf 29 = .ok (.invokevirtual 349, 3) := by decide +kernel
theorem dX9_graphOf_32 : decode cX9_graphOf 32 = .ok (.aload_n 2, 1) := by decide +kernel
theorem dX9_graphOf_33 : decode cX9_graphOf 33 = .ok (.iconst 0, 1) := by decide +kernel
theorem dX9_graphOf_34 : decode cX9_graphOf 34 = .ok (.putfield 346, 3) := by decide +kernel
theorem dX9_graphOf_37 : decode cX9_graphOf 37 = .ok (.aload_n 2, 1) := by decide +kernel
theorem dX9_graphOf_38 : decode cX9_graphOf 38 = .ok (.areturn, 1) := by decide +kernel
theorem dX9_searchIntersection_0 : decode cX9_searchIntersection 0 = .ok (.aload_n 0, 1) := by decide +kernel
theorem dX9_searchIntersection_1 : decode cX9_searchIntersection 1 = .ok (.iconst 0, 1) := by decide +kernel
theorem dX9_searchIntersection_2 : decode cX9_searchIntersection 2 = .ok (.invokevirtual 209, 3) := by decide +kernel
theorem dX9_searchIntersection_5 : decode cX9_searchIntersection 5 = .ok (.astore_n 1, 1) := by decide +kernel
theorem dX9_searchIntersection_6 : decode cX9_searchIntersection 6 = .ok (.aload_n 0, 1) := by decide +kernel
theorem dX9_searchIntersection_7 : decode cX9_searchIntersection 7 = .ok (.iconst 1, 1) := by decide +kernel
theorem dX9_searchIntersection_8 : decode cX9_searchIntersection 8 = .ok (.invokevirtual 209, 3) := by decide +kernel
theorem dX9_searchIntersection_11 : decode cX9_searchIntersection 11 = .ok (.astore_n 2, 1) := by decide +kernel
theorem dX9_searchIntersection_12 : decode cX9_searchIntersection 12 = .ok (.aload_n 0, 1) := by decide +kernel
theorem dX9_searchIntersection_13 : decode cX9_searchIntersection 13 = .ok (.getfield 53, 3) := by decide +kernel
theorem dX9_searchIntersection_16 : decode cX9_searchIntersection 16 = .ok (.getfield 353, 3) := by decide +kernel
theorem dX9_searchIntersection_19 : decode cX9_searchIntersection 19 = .ok (.ifCond .eq 20, 3) := by decide +kernel
theorem dX9_searchIntersection_22 : decode cX9_searchIntersection 22 = .ok (.aload_n 0, 1) := by decide +kernel
theorem dX9_searchIntersection_23 : decode cX9_searchIntersection 23 = .ok (.getfield 53, 3) := by decide +kernel
theorem dX9_searchIntersection_26 : decode cX9_searchIntersection 26 = .ok (.aload_n 1, 1) := by decide +kernel
theorem dX9_searchIntersection_27 : decode cX9_searchIntersection 27 = .ok (.aload_n 2, 1) := by decide +kernel
theorem dX9_searchIntersection_28 : decode cX9_searchIntersection 28 = .ok (.invokevirtual 354, 3) := by decide +kernel
theorem dX9_searchIntersection_31 : decode cX9_searchIntersection 31 = .ok (.aload_n 0, 1) := by decide +kernel
theorem dX9_searchIntersection_32 : decode cX9_searchIntersection 32 = .ok (.getfield 53, 3) := by decide +kernel
theorem dX9_searchIntersection_35 : decode cX9_searchIntersection 35 = .ok (.iconst 0, 1) := by decide +kernel
theorem dX9_searchIntersection_36 : decode cX9_searchIntersection 36 = .ok (.putfield 353, 3) := by decide +kernel
theorem dX9_searchIntersection_39 : decode cX9_searchIntersection 39 = .ok (.return_, 1) := by decide +kernel
theorem dX9_markGraphsStale_0 : decode cX9_markGraphsStale 0 = .ok (.iconst 0, 1) := by decide +kernel
theorem dX9_markGraphsStale_1 : decode cX9_markGraphsStale 1 = .ok (.istore_n 1, 1) := by decide +kernel
theorem dX9_markGraphsStale_2 : decode cX9_markGraphsStale 2 = .ok (.iload_n 1, 1) := by decide +kernel
theorem dX9_markGraphsStale_3 : decode cX9_markGraphsStale 3 = .ok (.iconst 2, 1) := by decide +kernel
theorem dX9_markGraphsStale_4 : decode cX9_markGraphsStale 4 = .ok (.if_icmp .ge 19, 3) := by decide +kernel
theorem dX9_markGraphsStale_7 : decode cX9_markGraphsStale 7 = .ok (.aload_n 0, 1) := by decide +kernel
theorem dX9_markGraphsStale_8 : decode cX9_markGraphsStale 8 = .ok (.getfield 39, 3) := by decide +kernel
theorem dX9_markGraphsStale_11 : decode cX9_markGraphsStale 11 = .ok (.iload_n 1, 1) := by decide +kernel
theorem dX9_markGraphsStale_12 : decode cX9_markGraphsStale 12 = .ok (.aaload, 1) := by decide +kernel
theorem dX9_markGraphsStale_13 : decode cX9_markGraphsStale 13 = .ok (.iconst 1, 1) := by decide +kernel
theorem dX9_markGraphsStale_14 : decode cX9_markGraphsStale 14 = .ok (.putfield 346, 3) := by decide +kernel
theorem dX9_markGraphsStale_17 : decode cX9_markGraphsStale 17 = .ok (.iinc 1 1, 3) := by decide +kernel
theorem dX9_markGraphsStale_20 : decode cX9_markGraphsStale 20 = .ok (.goto (-18), 3) := by decide +kernel
theorem dX9_markGraphsStale_23 : decode cX9_markGraphsStale 23 = .ok (.aload_n 0, 1) := by decide +kernel
theorem dX9_markGraphsStale_24 : decode cX9_markGraphsStale 24 = .ok (.getfield 53, 3) := by decide +kernel
theorem dX9_markGraphsStale_27 : decode cX9_markGraphsStale 27 = .ok (.iconst 1, 1) := by decide +kernel
theorem dX9_markGraphsStale_28 : decode cX9_markGraphsStale 28 = .ok (.putfield 353, 3) := by decide +kernel
theorem dX9_markGraphsStale_31 : decode cX9_markGraphsStale 31 = .ok (.return_, 1) := by decide +kernel
theorem dX9_storeProduct_0 : decode cX9_storeProduct 0 = .ok (.aload_n 0, 1) := by decide +kernel
theorem dX9_storeProduct_1 : decode cX9_storeProduct 1 = .ok (.getfield 69, 3) := by decide +kernel
theorem dX9_storeProduct_4 : decode cX9_storeProduct 4 = .ok (.getfield 139, 3) := by decide +kernel
theorem dX9_storeProduct_7 : decode cX9_storeProduct 7 = .ok (.bipush 60, 2) := by decide +kernel
theorem dX9_storeProduct_9 : decode cX9_storeProduct 9 = .ok (.if_icmp .le 14, 3) := by decide +kernel
theorem dX9_storeProduct_12 : decode cX9_storeProduct 12 = .ok (.new 88, 3) := by decide +kernel
theorem dX9_storeProduct_15 : decode cX9_storeProduct 15 = .ok (.dup, 1) := by decide +kernel
theorem dX9_storeProduct_16 : decode cX9_storeProduct 16 = .ok (.ldc_w 358, 3) := by decide +kernel
theorem dX9_storeProduct_19 : decode cX9_storeProduct 19 = .ok (.invokespecial 92, 3) := by decide +kernel
theorem dX9_storeProduct_22 : decode cX9_storeProduct 22 = .ok (.athrow, 1) := by decide +kernel
theorem dX9_storeProduct_23 : decode cX9_storeProduct 23 = .ok (.aload_n 0, 1) := by decide +kernel
theorem dX9_storeProduct_24 : decode cX9_storeProduct 24 = .ok (.getfield 26, 3) := by decide +kernel
theorem dX9_storeProduct_27 : decode cX9_storeProduct 27 = .ok (.aload_n 0, 1) := by decide +kernel
theorem dX9_storeProduct_28 : decode cX9_storeProduct 28 = .ok (.getfield 16, 3) := by decide +kernel
theorem dX9_storeProduct_31 : decode cX9_storeProduct 31 = .ok (.invokevirtual 290, 3) := by decide +kernel
theorem dX9_storeProduct_34 : decode cX9_storeProduct 34 = .ok (.aload_n 0, 1) := by decide +kernel
theorem dX9_storeProduct_35 : decode cX9_storeProduct 35 = .ok (.getfield 16, 3) := by decide +kernel
theorem dX9_storeProduct_38 : decode cX9_storeProduct 38 = .ok (.getfield 342, 3) := by decide +kernel
theorem dX9_storeProduct_41 : decode cX9_storeProduct 41 = .ok (.iload_n 1, 1) := by decide +kernel
theorem dX9_storeProduct_42 : decode cX9_storeProduct 42 = .ok (.aaload, 1) := by decide +kernel
theorem dX9_storeProduct_43 : decode cX9_storeProduct 43 = .ok (.aload_n 0, 1) := by decide +kernel
theorem dX9_storeProduct_44 : decode cX9_storeProduct 44 = .ok (.getfield 69, 3) := by decide +kernel
theorem dX9_storeProduct_47 : decode cX9_storeProduct 47 = .ok (.invokevirtual 360, 3) := by decide +kernel
theorem dX9_storeProduct_50 : decode cX9_storeProduct 50 = .ok (.aload_n 0, 1) := by decide +kernel
theorem dX9_storeProduct_51 : decode cX9_storeProduct 51 = .ok (.getfield 69, 3) := by decide +kernel
theorem dX9_storeProduct_54 : decode cX9_storeProduct 54 = .ok (.getfield 139, 3) := by decide +kernel
theorem dX9_storeProduct_57 : decode cX9_storeProduct 57 = .ok (.ireturn, 1) := by decide +kernel
theorem dX9_makeCommutator_0 : decode cX9_makeCommutator 0 = .ok (.aload_n 0, 1) := by decide +kernel
theorem dX9_makeCommutator_1 : decode cX9_makeCommutator 1 = .ok (.getfield 69, 3) := by decide +kernel
theorem dX9_makeCommutator_4 : decode cX9_makeCommutator 4 = .ok (.invokevirtual 258, 3) := by decide +kernel
theorem dX9_makeCommutator_7 : decode cX9_makeCommutator 7 = .ok (.aload_n 0, 1) := by decide +kernel
theorem dX9_makeCommutator_8 : decode cX9_makeCommutator 8 = .ok (.getfield 69, 3) := by decide +kernel
theorem dX9_makeCommutator_11 : decode cX9_makeCommutator 11 = .ok (.aload_n 1, 1) := by decide +kernel
theorem dX9_makeCommutator_12 : decode cX9_makeCommutator 12 = .ok (.invokevirtual 276, 3) := by decide +kernel
theorem dX9_makeCommutator_15 : decode cX9_makeCommutator 15 = .ok (.aload_n 0, 1) := by decide +kernel
theorem dX9_makeCommutator_16 : decode cX9_makeCommutator 16 = .ok (.getfield 69, 3) := by decide +kernel
theorem dX9_makeCommutator_19 : decode cX9_makeCommutator 19 = .ok (.aload_n 2, 1) := by decide +kernel
theorem dX9_makeCommutator_20 : decode cX9_makeCommutator 20 = .ok (.invokevirtual 276, 3) := by decide +kernel
theorem dX9_makeCommutator_23 : decode cX9_makeCommutator 23 = .ok (.aload_n 0, 1) := by decide +kernel
theorem dX9_makeCommutator_24 : decode cX9_makeCommutator 24 = .ok (.getfield 69, 3) := by decide +kernel
theorem dX9_makeCommutator_27 : decode cX9_makeCommutator 27 = .ok (.aload_n 1, 1) := by decide +kernel
theorem dX9_makeCommutator_28 : decode cX9_makeCommutator 28 = .ok (.invokevirtual 273, 3) := by decide +kernel
theorem dX9_makeCommutator_31 : decode cX9_makeCommutator 31 = .ok (.aload_n 0, 1) := by decide +kernel
theorem dX9_makeCommutator_32 : decode cX9_makeCommutator 32 = .ok (.getfield 69, 3) := by decide +kernel
theorem dX9_makeCommutator_35 : decode cX9_makeCommutator 35 = .ok (.aload_n 2, 1) := by decide +kernel
theorem dX9_makeCommutator_36 : decode cX9_makeCommutator 36 = .ok (.invokevirtual 273, 3) := by decide +kernel
theorem dX9_makeCommutator_39 : decode cX9_makeCommutator 39 = .ok (.return_, 1) := by decide +kernel
theorem dX9_makeRepresentative_0 : decode cX9_makeRepresentative 0 = .ok (.aload_n 0, 1) := by decide +kernel
theorem dX9_makeRepresentative_1 : decode cX9_makeRepresentative 1 = .ok (.getfield 73, 3) := by decide +kernel
theorem dX9_makeRepresentative_4 : decode cX9_makeRepresentative 4 = .ok (.invokevirtual 258, 3) := by decide +kernel
theorem dX9_makeRepresentative_7 : decode cX9_makeRepresentative 7 = .ok (.aload_n 1, 1) := by decide +kernel
theorem dX9_makeRepresentative_8 : decode cX9_makeRepresentative 8 = .ok (.aload_n 0, 1) := by decide +kernel
theorem dX9_makeRepresentative_9 : decode cX9_makeRepresentative 9 = .ok (.getfield 73, 3) := by decide +kernel
theorem dX9_makeRepresentative_12 : decode cX9_makeRepresentative 12 = .ok (.iload_n 2, 1) := by decide +kernel
theorem dX9_makeRepresentative_13 : decode cX9_makeRepresentative 13 = .ok (.invokevirtual 324, 3) := by decide +kernel
theorem dX9_makeRepresentative_16 : decode cX9_makeRepresentative 16 = .ok (.aload_n 0, 1) := by decide +kernel
theorem dX9_makeRepresentative_17 : decode cX9_makeRepresentative 17 = .ok (.getfield 69, 3) := by decide +kernel
theorem dX9_makeRepresentative_20 : decode cX9_makeRepresentative 20 = .ok (.invokevirtual 258, 3) := by decide +kernel
theorem dX9_makeRepresentative_23 : decode cX9_makeRepresentative 23 = .ok (.aload_n 0, 1) := by decide +kernel
theorem dX9_makeRepresentative_24 : decode cX9_makeRepresentative 24 = .ok (.getfield 69, 3) := by decide +kernel
theorem dX9_makeRepresentative_27 : decode cX9_makeRepresentative 27 = .ok (.aload_n 0, 1) := by decide +kernel
theorem dX9_makeRepresentative_28 : decode cX9_makeRepresentative 28 = .ok (.getfield 73, 3) := by decide +kernel
theorem dX9_makeRepresentative_31 : decode cX9_makeRepresentative 31 = .ok (.invokevirtual 276, 3) := by decide +kernel
theorem dX9_makeRepresentative_34 : decode cX9_makeRepresentative 34 = .ok (.return_, 1) := by decide +kernel
