/-! rows that decode -/
theorem dX9_isInverse_0 : decode cX9_isInverse 0 = .ok (.iload_n 0, 1) := by decide +kernel
theorem dX9_isInverse_1 : decode cX9_isInverse 1 = .ok (.iconst 1, 1) := by decide +kernel
theorem dX9_isInverse_2 : decode cX9_isInverse 2 = .ok (.iand, 1) := by decide +kernel
theorem dX9_isInverse_3 : decode cX9_isInverse 3 = .ok (.ifCond .eq 7, 3) := by decide +kernel
theorem dX9_isInverse_6 : decode cX9_isInverse 6 = .ok (.iconst 1, 1) := by decide +kernel
theorem dX9_isInverse_7 : decode cX9_isInverse 7 = .ok (.goto 4, 3) := by decide +kernel
theorem dX9_isInverse_10 : decode cX9_isInverse 10 = .ok (.iconst 0, 1) := by decide +kernel
theorem dX9_isInverse_11 : decode cX9_isInverse 11 = .ok (.ireturn, 1) := by decide +kernel
theorem dX9_letterOfCode_0 : decode cX9_letterOfCode 0 = .ok (.iload_n 0, 1) := by decide +kernel
theorem dX9_letterOfCode_1 : decode cX9_letterOfCode 1 = .ok (.invokestatic 160, 3) := by decide +kernel
theorem dX9_letterOfCode_4 : decode cX9_letterOfCode 4 = .ok (.ifCond .eq 8, 3) := by decide +kernel
theorem dX9_letterOfCode_7 : decode cX9_letterOfCode 7 = .ok (.bipush 65, 2) := by decide +kernel
theorem dX9_letterOfCode_9 : decode cX9_letterOfCode 9 = .ok (.goto 5, 3) := by decide +kernel
theorem dX9_letterOfCode_12 : decode cX9_letterOfCode 12 = .ok (.bipush 97, 2) := by decide +kernel
theorem dX9_letterOfCode_14 : decode cX9_letterOfCode 14 = .ok (.iload_n 0, 1) := by decide +kernel
theorem dX9_letterOfCode_15 : decode cX9_letterOfCode 15 = .ok (.iconst 2, 1) := by decide +kernel
theorem dX9_letterOfCode_16 : decode cX9_letterOfCode 16 = .ok (.idiv, 1) := by decide +kernel
theorem dX9_letterOfCode_17 : decode cX9_letterOfCode 17 = .ok (.iadd, 1) := by decide +kernel
theorem dX9_letterOfCode_18 : decode cX9_letterOfCode 18 = .ok (.i2c, 1) := by decide +kernel
theorem dX9_letterOfCode_19 : decode cX9_letterOfCode 19 = .ok (.ireturn, 1) := by decide +kernel
theorem dX9_codeOfByte_0 : decode cX9_codeOfByte 0 = .ok (.iload_n 0, 1) := by decide +kernel
theorem dX9_codeOfByte_1 : decode cX9_codeOfByte 1 = .ok (.bipush 97, 2) := by decide +kernel
theorem dX9_codeOfByte_3 : decode cX9_codeOfByte 3 = .ok (.if_icmp .lt 18, 3) := by decide +kernel
theorem dX9_codeOfByte_6 : decode cX9_codeOfByte 6 = .ok (.iload_n 0, 1) := by decide +kernel
theorem dX9_codeOfByte_7 : decode cX9_codeOfByte 7 = .ok (.bipush 97, 2) := by decide +kernel
theorem dX9_codeOfByte_9 : decode cX9_codeOfByte 9 = .ok (.iload_n 1, 1) := by decide +kernel
theorem dX9_codeOfByte_10 : decode cX9_codeOfByte 10 = .ok (.iadd, 1) := by decide +kernel
theorem dX9_codeOfByte_11 : decode cX9_codeOfByte 11 = .ok (.if_icmp .ge 10, 3) := by decide +kernel
theorem dX9_codeOfByte_14 : decode cX9_codeOfByte 14 = .ok (.iconst 2, 1) := by decide +kernel
theorem dX9_codeOfByte_15 : decode cX9_codeOfByte 15 = .ok (.iload_n 0, 1) := by decide +kernel
theorem dX9_codeOfByte_16 : decode cX9_codeOfByte 16 = .ok (.bipush 97, 2) := by decide +kernel
theorem dX9_codeOfByte_18 : decode cX9_codeOfByte 18 = .ok (.isub, 1) := by decide +kernel
theorem dX9_codeOfByte_19 : decode cX9_codeOfByte 19 = .ok (.imul, 1) := by decide +kernel
theorem dX9_codeOfByte_20 : decode cX9_codeOfByte 20 = .ok (.ireturn, 1) := by decide +kernel
theorem dX9_codeOfByte_21 : decode cX9_codeOfByte 21 = .ok (.iload_n 0, 1) := by decide +kernel
theorem dX9_codeOfByte_22 : decode cX9_codeOfByte 22 = .ok (.bipush 65, 2) := by decide +kernel
theorem dX9_codeOfByte_24 : decode cX9_codeOfByte 24 = .ok (.if_icmp .lt 20, 3) := by decide +kernel
theorem dX9_codeOfByte_27 : decode cX9_codeOfByte 27 = .ok (.iload_n 0, 1) := by decide +kernel
theorem dX9_codeOfByte_28 : decode cX9_codeOfByte 28 = .ok (.bipush 65, 2) := by decide +kernel
theorem dX9_codeOfByte_30 : decode cX9_codeOfByte 30 = .ok (.iload_n 1, 1) := by decide +kernel
theorem dX9_codeOfByte_31 : decode cX9_codeOfByte 31 = .ok (.iadd, 1) := by decide +kernel
theorem dX9_codeOfByte_32 : decode cX9_codeOfByte 32 = .ok (.if_icmp .ge 12, 3) := by decide +kernel
theorem dX9_codeOfByte_35 : decode cX9_codeOfByte 35 = .ok (.iconst 2, 1) := by decide +kernel
theorem dX9_codeOfByte_36 : decode cX9_codeOfByte 36 = .ok (.iload_n 0, 1) := by decide +kernel
theorem dX9_codeOfByte_37 : decode cX9_codeOfByte 37 = .ok (.bipush 65, 2) := by decide +kernel
theorem dX9_codeOfByte_39 : decode cX9_codeOfByte 39 = .ok (.isub, 1) := by decide +kernel
theorem dX9_codeOfByte_40 : decode cX9_codeOfByte 40 = .ok (.imul, 1) := by decide +kernel
theorem dX9_codeOfByte_41 : decode cX9_codeOfByte 41 = .ok (.iconst 1, 1) := by decide +kernel
theorem dX9_codeOfByte_42 : decode cX9_codeOfByte 42 = .ok (.iadd, 1) := by decide +kernel
theorem dX9_codeOfByte_43 : decode cX9_codeOfByte 43 = .ok (.ireturn, 1) := by decide +kernel
theorem dX9_codeOfByte_44 : decode cX9_codeOfByte 44 = .ok (.iconst (-1), 1) := by decide +kernel
theorem dX9_codeOfByte_45 : decode cX9_codeOfByte 45 = .ok (.ireturn, 1) := by decide +kernel
theorem dX9_prefixLength_0 : decode cX9_prefixLength 0 = .ok (.aload_n 0, 1) := by decide +kernel
theorem dX9_prefixLength_1 : decode cX9_prefixLength 1 = .ok (.getfield 139, 3) := by decide +kernel
theorem dX9_prefixLength_4 : decode cX9_prefixLength 4 = .ok (.aload_n 1, 1) := by decide +kernel
theorem dX9_prefixLength_5 : decode cX9_prefixLength 5 = .ok (.getfield 139, 3) := by decide +kernel
theorem dX9_prefixLength_8 : decode cX9_prefixLength 8 = .ok (.invokestatic 362, 3) := by decide +kernel
theorem dX9_prefixLength_11 : decode cX9_prefixLength 11 = .ok (.istore_n 2, 1) := by decide +kernel
theorem dX9_prefixLength_12 : decode cX9_prefixLength 12 = .ok (.iconst 0, 1) := by decide +kernel
theorem dX9_prefixLength_13 : decode cX9_prefixLength 13 = .ok (.istore_n 3, 1) := by decide +kernel
theorem dX9_prefixLength_14 : decode cX9_prefixLength 14 = .ok (.iload_n 3, 1) := by decide +kernel
theorem dX9_prefixLength_15 : decode cX9_prefixLength 15 = .ok (.iload_n 2, 1) := by decide +kernel
theorem dX9_prefixLength_16 : decode cX9_prefixLength 16 = .ok (.if_icmp .ge 26, 3) := by decide +kernel
theorem dX9_prefixLength_19 : decode cX9_prefixLength 19 = .ok (.aload_n 0, 1) := by decide +kernel
theorem dX9_prefixLength_20 : decode cX9_prefixLength 20 = .ok (.getfield 146, 3) := by decide +kernel
theorem dX9_prefixLength_23 : decode cX9_prefixLength 23 = .ok (.iload_n 3, 1) := by decide +kernel
theorem dX9_prefixLength_24 : decode cX9_prefixLength 24 = .ok (.iaload, 1) := by decide +kernel
theorem dX9_prefixLength_25 : decode cX9_prefixLength 25 = .ok (.aload_n 1, 1) := by decide +kernel
theorem dX9_prefixLength_26 : decode cX9_prefixLength 26 = .ok (.getfield 146, 3) := by decide +kernel
theorem dX9_prefixLength_29 : decode cX9_prefixLength 29 = .ok (.iload_n 3, 1) := by decide +kernel
theorem dX9_prefixLength_30 : decode cX9_prefixLength 30 = .ok (.iaload, 1) := by decide +kernel
theorem dX9_prefixLength_31 : decode cX9_prefixLength 31 = .ok (.if_icmp .eq 5, 3) := by decide +kernel
theorem dX9_prefixLength_34 : decode cX9_prefixLength 34 = .ok (.iload_n 3, 1) := by decide +kernel
theorem dX9_prefixLength_35 : decode cX9_prefixLength 35 = .ok (.ireturn, 1) := by decide +kernel
theorem dX9_prefixLength_36 : decode cX9_prefixLength 36 = .ok (.iinc 3 1, 3) := by decide +kernel
theorem dX9_prefixLength_39 : decode cX9_prefixLength 39 = .ok (.goto (-25), 3) := by decide +kernel
theorem dX9_prefixLength_42 : decode cX9_prefixLength 42 = .ok (.iload_n 2, 1) := by decide +kernel
theorem dX9_prefixLength_43 : decode cX9_prefixLength 43 = .ok (.ireturn, 1) := by decide +kernel
theorem dX9_order_0 : decode cX9_order 0 = .ok (.aload_n 0, 1) := by decide +kernel
theorem dX9_order_1 : decode cX9_order 1 = .ok (.getfield 139, 3) := by decide +kernel
theorem dX9_order_4 : decode cX9_order 4 = .ok (.aload_n 1, 1) := by decide +kernel
theorem dX9_order_5 : decode cX9_order 5 = .ok (.getfield 139, 3) := by decide +kernel
theorem dX9_order_8 : decode cX9_order 8 = .ok (.if_icmp .eq 20, 3) := by decide +kernel
theorem dX9_order_11 : decode cX9_order 11 = .ok (.aload_n 0, 1) := by decide +kernel
theorem dX9_order_12 : decode cX9_order 12 = .ok (.getfield 139, 3) := by decide +kernel
theorem dX9_order_15 : decode cX9_order 15 = .ok (.aload_n 1, 1) := by decide +kernel
theorem dX9_order_16 : decode cX9_order 16 = .ok (.getfield 139, 3) := by decide +kernel
theorem dX9_order_19 : decode cX9_order 19 = .ok (.if_icmp .ge 7, 3) := by decide +kernel
theorem dX9_order_22 : decode cX9_order 22 = .ok (.iconst (-1), 1) := by decide +kernel
theorem dX9_order_23 : decode cX9_order 23 = .ok (.goto 4, 3) := by decide +kernel
theorem dX9_order_26 : decode cX9_order 26 = .ok (.iconst 1, 1) := by decide +kernel
theorem dX9_order_27 : decode cX9_order 27 = .ok (.ireturn, 1) := by decide +kernel
theorem dX9_order_28 : decode cX9_order 28 = .ok (.aload_n 0, 1) := by decide +kernel
theorem dX9_order_29 : decode cX9_order 29 = .ok (.aload_n 1, 1) := by decide +kernel
theorem dX9_order_30 : decode cX9_order 30 = .ok (.invokestatic 164, 3) := by decide +kernel
theorem dX9_order_33 : decode cX9_order 33 = .ok (.istore_n 2, 1) := by decide +kernel
theorem dX9_order_34 : decode cX9_order 34 = .ok (.iload_n 2, 1) := by decide +kernel
theorem dX9_order_35 : decode cX9_order 35 = .ok (.aload_n 0, 1) := by decide +kernel
theorem dX9_order_36 : decode cX9_order 36 = .ok (.getfield 139, 3) := by decide +kernel
theorem dX9_order_39 : decode cX9_order 39 = .ok (.if_icmp .ne 5, 3) := by decide +kernel
theorem dX9_order_42 : decode cX9_order 42 = .ok (.iconst 0, 1) := by decide +kernel
theorem dX9_order_43 : decode cX9_order 43 = .ok (.ireturn, 1) := by decide +kernel
theorem dX9_order_44 : decode cX9_order 44 = .ok (.aload_n 0, 1) := by decide +kernel
theorem dX9_order_45 : decode cX9_order 45 = .ok (.getfield 146, 3) := by decide +kernel
theorem dX9_order_48 : decode cX9_order 48 = .ok (.iload_n 2, 1) := by decide +kernel
theorem dX9_order_49 : decode cX9_order 49 = .ok (.iaload, 1) := by decide +kernel
theorem dX9_order_50 : decode cX9_order 50 = .ok (.aload_n 1, 1) := by decide +kernel
theorem dX9_order_51 : decode cX9_order 51 = .ok (.getfield 146, 3) := by decide +kernel
theorem dX9_order_54 : decode cX9_order 54 = .ok (.iload_n 2, 1) := by decide +kernel
theorem dX9_order_55 : decode cX9_order 55 = .ok (.iaload, 1) := by decide +kernel
theorem dX9_order_56 : decode cX9_order 56 = .ok (.if_icmp .ge 7, 3) := by decide +kernel
theorem dX9_order_59 : decode cX9_order 59 = .ok (.iconst (-1), 1) := by decide +kernel
theorem dX9_order_60 : decode cX9_order 60 = .ok (.goto 4, 3) := by decide +kernel
theorem dX9_order_63 : decode cX9_order 63 = .ok (.iconst 1, 1) := by decide +kernel
theorem dX9_order_64 : decode cX9_order 64 = .ok (.ireturn, 1) := by decide +kernel
theorem dX9_cancelledPairs_0 : decode cX9_cancelledPairs 0 = .ok (.aload_n 0, 1) := by decide +kernel
theorem dX9_cancelledPairs_1 : decode cX9_cancelledPairs 1 = .ok (.getfield 139, 3) := by decide +kernel
theorem dX9_cancelledPairs_4 : decode cX9_cancelledPairs 4 = .ok (.aload_n 1, 1) := by decide +kernel
theorem dX9_cancelledPairs_5 : decode cX9_cancelledPairs 5 = .ok (.getfield 139, 3) := by decide +kernel
theorem dX9_cancelledPairs_8 : decode cX9_cancelledPairs 8 = .ok (.invokestatic 362, 3) := by decide +kernel
theorem dX9_cancelledPairs_11 : decode cX9_cancelledPairs 11 = .ok (.istore_n 2, 1) := by decide +kernel
theorem dX9_cancelledPairs_12 : decode cX9_cancelledPairs 12 = .ok (.iconst 0, 1) := by decide +kernel
theorem dX9_cancelledPairs_13 : decode cX9_cancelledPairs 13 = .ok (.istore_n 3, 1) := by decide +kernel
theorem dX9_cancelledPairs_14 : decode cX9_cancelledPairs 14 = .ok (.iload_n 3, 1) := by decide +kernel
theorem dX9_cancelledPairs_15 : decode cX9_cancelledPairs 15 = .ok (.iload_n 2, 1) := by decide +kernel
theorem dX9_cancelledPairs_16 : decode cX9_cancelledPairs 16 = .ok (.if_icmp .ge 35, 3) := by decide +kernel
theorem dX9_cancelledPairs_19 : decode cX9_cancelledPairs 19 = .ok (.aload_n 0, 1) := by decide +kernel
theorem dX9_cancelledPairs_20 : decode cX9_cancelledPairs 20 = .ok (.getfield 146, 3) := by decide +kernel
theorem dX9_cancelledPairs_23 : decode cX9_cancelledPairs 23 = .ok (.aload_n 0, 1) := by decide +kernel
theorem dX9_cancelledPairs_24 : decode cX9_cancelledPairs 24 = .ok (.getfield 139, 3) := by decide +kernel
theorem dX9_cancelledPairs_27 : decode cX9_cancelledPairs 27 = .ok (.iconst 1, 1) := by decide +kernel
theorem dX9_cancelledPairs_28 : decode cX9_cancelledPairs 28 = .ok (.isub, 1) := by decide +kernel
theorem dX9_cancelledPairs_29 : decode cX9_cancelledPairs 29 = .ok (.iload_n 3, 1) := by decide +kernel
theorem dX9_cancelledPairs_30 : decode cX9_cancelledPairs 30 = .ok (.isub, 1) := by decide +kernel
theorem dX9_cancelledPairs_31 : decode cX9_cancelledPairs 31 = .ok (.iaload, 1) := by decide +kernel
theorem dX9_cancelledPairs_32 : decode cX9_cancelledPairs 32 = .ok (.aload_n 1, 1) := by decide +kernel
theorem dX9_cancelledPairs_33 : decode cX9_cancelledPairs 33 = .ok (.getfield 146, 3) := by decide +kernel
theorem dX9_cancelledPairs_36 : decode cX9_cancelledPairs 36 = .ok (.iload_n 3, 1) := by decide +kernel
theorem dX9_cancelledPairs_37 : decode cX9_cancelledPairs 37 = .ok (.iaload, 1) := by decide +kernel
theorem dX9_cancelledPairs_38 : decode cX9_cancelledPairs 38 = .ok (.iconst 1, 1) := by decide +kernel
theorem dX9_cancelledPairs_39 : decode cX9_cancelledPairs 39 = .ok (.ixor, 1) := by decide +kernel
theorem dX9_cancelledPairs_40 : decode cX9_cancelledPairs 40 = .ok (.if_icmp .eq 5, 3) := by decide +kernel
theorem dX9_cancelledPairs_43 : decode cX9_cancelledPairs 43 = .ok (.iload_n 3, 1) := by decide +kernel
theorem dX9_cancelledPairs_44 : decode cX9_cancelledPairs 44 = .ok (.ireturn, 1) := by decide +kernel
theorem dX9_cancelledPairs_45 : decode cX9_cancelledPairs 45 = .ok (.iinc 3 1, 3) := by decide +kernel
theorem dX9_cancelledPairs_48 : decode cX9_cancelledPairs 48 = .ok (.goto (-34), 3) := by decide +kernel
theorem dX9_cancelledPairs_51 : decode cX9_cancelledPairs 51 = .ok (.iload_n 2, 1) := by decide +kernel
theorem dX9_cancelledPairs_52 : decode cX9_cancelledPairs 52 = .ok (.ireturn, 1) := by decide +kernel
theorem dX9_smallestRotation_0 : decode cX9_smallestRotation 0 = .ok (.aload_n 0, 1) := by decide +kernel
theorem dX9_smallestRotation_1 : decode cX9_smallestRotation 1 = .ok (.invokevirtual 171, 3) := by decide +kernel
theorem dX9_smallestRotation_4 : decode cX9_smallestRotation 4 = .ok (.istore_n 2, 1) := by decide +kernel
theorem dX9_smallestRotation_5 : decode cX9_smallestRotation 5 = .ok (.aload_n 1, 1) := by decide +kernel
theorem dX9_smallestRotation_6 : decode cX9_smallestRotation 6 = .ok (.invokevirtual 171, 3) := by decide +kernel
theorem dX9_smallestRotation_9 : decode cX9_smallestRotation 9 = .ok (.iload_n 2, 1) := by decide +kernel
theorem dX9_smallestRotation_10 : decode cX9_smallestRotation 10 = .ok (.if_icmp .eq 5, 3) := by decide +kernel
theorem dX9_smallestRotation_13 : decode cX9_smallestRotation 13 = .ok (.iconst (-1), 1) := by decide +kernel
theorem dX9_smallestRotation_14 : decode cX9_smallestRotation 14 = .ok (.ireturn, 1) := by decide +kernel
theorem dX9_smallestRotation_15 : decode cX9_smallestRotation 15 = .ok (.iload_n 2, 1) := by decide +kernel
theorem dX9_smallestRotation_16 : decode cX9_smallestRotation 16 = .ok (.ifCond .ne 5, 3) := by decide +kernel
theorem dX9_smallestRotation_19 : decode cX9_smallestRotation 19 = .ok (.iconst 0, 1) := by decide +kernel
theorem dX9_smallestRotation_20 : decode cX9_smallestRotation 20 = .ok (.ireturn, 1) := by decide +kernel
theorem dX9_smallestRotation_21 : decode cX9_smallestRotation 21 = .ok (.iconst 0, 1) := by decide +kernel
theorem dX9_smallestRotation_22 : decode cX9_smallestRotation 22 = .ok (.istore_n 3, 1) := by decide +kernel
theorem dX9_smallestRotation_23 : decode cX9_smallestRotation 23 = .ok (.iload_n 3, 1) := by decide +kernel
theorem dX9_smallestRotation_24 : decode cX9_smallestRotation 24 = .ok (.iload_n 2, 1) := by decide +kernel
theorem dX9_smallestRotation_25 : decode cX9_smallestRotation 25 = .ok (.if_icmp .ge 20, 3) := by decide +kernel
theorem dX9_smallestRotation_28 : decode cX9_smallestRotation 28 = .ok (.aload_n 0, 1) := by decide +kernel
theorem dX9_smallestRotation_29 : decode cX9_smallestRotation 29 = .ok (.aload_n 1, 1) := by decide +kernel
theorem dX9_smallestRotation_30 : decode cX9_smallestRotation 30 = .ok (.iload_n 3, 1) := by decide +kernel
theorem dX9_smallestRotation_31 : decode cX9_smallestRotation 31 = .ok (.invokestatic 367, 3) := by decide +kernel
theorem dX9_smallestRotation_34 : decode cX9_smallestRotation 34 = .ok (.ifCond .eq 5, 3) := by decide +kernel
theorem dX9_smallestRotation_37 : decode cX9_smallestRotation 37 = .ok (.iload_n 3, 1) := by decide +kernel
theorem dX9_smallestRotation_38 : decode cX9_smallestRotation 38 = .ok (.ireturn, 1) := by decide +kernel
theorem dX9_smallestRotation_39 : decode cX9_smallestRotation 39 = .ok (.iinc 3 1, 3) := by decide +kernel
theorem dX9_smallestRotation_42 : decode cX9_smallestRotation 42 = .ok (.goto (-19), 3) := by decide +kernel
theorem dX9_smallestRotation_45 : decode cX9_smallestRotation 45 = .ok (.iconst (-1), 1) := by decide +kernel
theorem dX9_smallestRotation_46 : decode cX9_smallestRotation 46 = .ok (.ireturn, 1) := by decide +kernel
theorem dX9_isCoreRotated_0 : decode cX9_isCoreRotated 0 = .ok (.aload_n 0, 1) := by decide +kernel
theorem dX9_isCoreRotated_1 : decode cX9_isCoreRotated 1 = .ok (.invokevirtual 171, 3) := by decide +kernel
theorem dX9_isCoreRotated_4 : decode cX9_isCoreRotated 4 = .ok (.istore_n 3, 1) := by decide +kernel
theorem dX9_isCoreRotated_5 : decode cX9_isCoreRotated 5 = .ok (.aload_n 0, 1) := by decide +kernel
theorem dX9_isCoreRotated_6 : decode cX9_isCoreRotated 6 = .ok (.invokevirtual 175, 3) := by decide +kernel
theorem dX9_isCoreRotated_9 : decode cX9_isCoreRotated 9 = .ok (.istore 4, 2) := by decide +kernel
theorem dX9_isCoreRotated_11 : decode cX9_isCoreRotated 11 = .ok (.aload_n 1, 1) := by decide +kernel
theorem dX9_isCoreRotated_12 : decode cX9_isCoreRotated 12 = .ok (.invokevirtual 175, 3) := by decide +kernel
theorem dX9_isCoreRotated_15 : decode cX9_isCoreRotated 15 = .ok (.istore 5, 2) := by decide +kernel
theorem dX9_isCoreRotated_17 : decode cX9_isCoreRotated 17 = .ok (.iconst 0, 1) := by decide +kernel
theorem dX9_isCoreRotated_18 : decode cX9_isCoreRotated 18 = .ok (.istore 6, 2) := by decide +kernel
theorem dX9_isCoreRotated_20 : decode cX9_isCoreRotated 20 = .ok (.iload 6, 2) := by decide +kernel
theorem dX9_isCoreRotated_22 : decode cX9_isCoreRotated 22 = .ok (.iload_n 3, 1) := by decide +kernel
theorem dX9_isCoreRotated_23 : decode cX9_isCoreRotated 23 = .ok (.if_icmp .ge 57, 3) := by decide +kernel
theorem dX9_isCoreRotated_26 : decode cX9_isCoreRotated 26 = .ok (.iload 6, 2) := by decide +kernel
theorem dX9_isCoreRotated_28 : decode cX9_isCoreRotated 28 = .ok (.iload_n 2, 1) := by decide +kernel
theorem dX9_isCoreRotated_29 : decode cX9_isCoreRotated 29 = .ok (.iadd, 1) := by decide +kernel
theorem dX9_isCoreRotated_30 : decode cX9_isCoreRotated 30 = .ok (.iload_n 3, 1) := by decide +kernel
theorem dX9_isCoreRotated_31 : decode cX9_isCoreRotated 31 = .ok (.if_icmp .ge 10, 3) := by decide +kernel
theorem dX9_isCoreRotated_34 : decode cX9_isCoreRotated 34 = .ok (.iload 6, 2) := by decide +kernel
theorem dX9_isCoreRotated_36 : decode cX9_isCoreRotated 36 = .ok (.iload_n 2, 1) := by decide +kernel
theorem dX9_isCoreRotated_37 : decode cX9_isCoreRotated 37 = .ok (.iadd, 1) := by decide +kernel
theorem dX9_isCoreRotated_38 : decode cX9_isCoreRotated 38 = .ok (.goto 9, 3) := by decide +kernel
theorem dX9_isCoreRotated_41 : decode cX9_isCoreRotated 41 = .ok (.iload 6, 2) := by decide +kernel
theorem dX9_isCoreRotated_43 : decode cX9_isCoreRotated 43 = .ok (.iload_n 2, 1) := by decide +kernel
theorem dX9_isCoreRotated_44 : decode cX9_isCoreRotated 44 = .ok (.iadd, 1) := by decide +kernel
theorem dX9_isCoreRotated_45 : decode cX9_isCoreRotated 45 = .ok (.iload_n 3, 1) := by decide +kernel
theorem dX9_isCoreRotated_46 : decode cX9_isCoreRotated 46 = .ok (.isub, 1) := by decide +kernel
theorem dX9_isCoreRotated_47 : decode cX9_isCoreRotated 47 = .ok (.istore 7, 2) := by decide +kernel
theorem dX9_isCoreRotated_49 : decode cX9_isCoreRotated 49 = .ok (.aload_n 0, 1) := by decide +kernel
theorem dX9_isCoreRotated_50 : decode cX9_isCoreRotated 50 = .ok (.getfield 146, 3) := by decide +kernel
theorem dX9_isCoreRotated_53 : decode cX9_isCoreRotated 53 = .ok (.iload 4, 2) := by decide +kernel
theorem dX9_isCoreRotated_55 : decode cX9_isCoreRotated 55 = .ok (.iload 7, 2) := by decide +kernel
theorem dX9_isCoreRotated_57 : decode cX9_isCoreRotated 57 = .ok (.iadd, 1) := by decide +kernel
theorem dX9_isCoreRotated_58 : decode cX9_isCoreRotated 58 = .ok (.iaload, 1) := by decide +kernel
theorem dX9_isCoreRotated_59 : decode cX9_isCoreRotated 59 = .ok (.aload_n 1, 1) := by decide +kernel
theorem dX9_isCoreRotated_60 : decode cX9_isCoreRotated 60 = .ok (.getfield 146, 3) := by decide +kernel
theorem dX9_isCoreRotated_63 : decode cX9_isCoreRotated 63 = .ok (.iload 5, 2) := by decide +kernel
theorem dX9_isCoreRotated_65 : decode cX9_isCoreRotated 65 = .ok (.iload 6, 2) := by decide +kernel
theorem dX9_isCoreRotated_67 : decode cX9_isCoreRotated 67 = .ok (.iadd, 1) := by decide +kernel
theorem dX9_isCoreRotated_68 : decode cX9_isCoreRotated 68 = .ok (.iaload, 1) := by decide +kernel
theorem dX9_isCoreRotated_69 : decode cX9_isCoreRotated 69 = .ok (.if_icmp .eq 5, 3) := by decide +kernel
theorem dX9_isCoreRotated_72 : decode cX9_isCoreRotated 72 = .ok (.iconst 0, 1) := by decide +kernel
theorem dX9_isCoreRotated_73 : decode cX9_isCoreRotated 73 = .ok (.ireturn, 1) := by decide +kernel
theorem dX9_isCoreRotated_74 : decode cX9_isCoreRotated 74 = .ok (.iinc 6 1, 3) := by decide +kernel
theorem dX9_isCoreRotated_77 : decode cX9_isCoreRotated 77 = .ok (.goto (-57), 3) := by decide +kernel
theorem dX9_isCoreRotated_80 : decode cX9_isCoreRotated 80 = .ok (.iconst 1, 1) := by decide +kernel
theorem dX9_isCoreRotated_81 : decode cX9_isCoreRotated 81 = .ok (.ireturn, 1) := by decide +kernel
theorem dJ7_fill_d0a16_0 : decode cJ7_fill_d0a16 0 = .ok (.iconst 0, 1) := by decide +kernel
theorem dJ7_fill_d0a16_1 : decode cJ7_fill_d0a16 1 = .ok (.istore_n 3, 1) := by decide +kernel
theorem dJ7_fill_d0a16_2 : decode cJ7_fill_d0a16 2 = .ok (.aload_n 0, 1) := by decide +kernel
theorem dJ7_fill_d0a16_3 : decode cJ7_fill_d0a16 3 = .ok (.arraylength, 1) := by decide +kernel
theorem dJ7_fill_d0a16_4 : decode cJ7_fill_d0a16 4 = .ok (.istore 4, 2) := by decide +kernel
theorem dJ7_fill_d0a16_6 : decode cJ7_fill_d0a16 6 = .ok (.iload_n 3, 1) := by decide +kernel
theorem dJ7_fill_d0a16_7 : decode cJ7_fill_d0a16 7 = .ok (.iload 4, 2) := by decide +kernel
theorem dJ7_fill_d0a16_9 : decode cJ7_fill_d0a16 9 = .ok (.if_icmp .ge 13, 3) := by decide +kernel
theorem dJ7_fill_d0a16_12 : decode cJ7_fill_d0a16 12 = .ok (.aload_n 0, 1) := by decide +kernel
theorem dJ7_fill_d0a16_13 : decode cJ7_fill_d0a16 13 = .ok (.iload_n 3, 1) := by decide +kernel
theorem dJ7_fill_d0a16_14 : decode cJ7_fill_d0a16 14 = .ok (.lload_n 1, 1) := by decide +kernel
theorem dJ7_fill_d0a16_15 : decode cJ7_fill_d0a16 15 = .ok (.lastore, 1) := by decide +kernel
theorem dJ7_fill_d0a16_16 : decode cJ7_fill_d0a16 16 = .ok (.iinc 3 1, 3) := by decide +kernel
theorem dJ7_fill_d0a16_19 : decode cJ7_fill_d0a16 19 = .ok (.goto (-13), 3) := by decide +kernel
theorem dJ7_fill_d0a16_22 : decode cJ7_fill_d0a16 22 = .ok (.return_, 1) := by decide +kernel
theorem dJ7_fill_53178_0 : decode cJ7_fill_53178 0 = .ok (.iconst 0, 1) := by decide +kernel
theorem dJ7_fill_53178_1 : decode cJ7_fill_53178 1 = .ok (.istore_n 2, 1) := by decide +kernel
theorem dJ7_fill_53178_2 : decode cJ7_fill_53178 2 = .ok (.aload_n 0, 1) := by decide +kernel
theorem dJ7_fill_53178_3 : decode cJ7_fill_53178 3 = .ok (.arraylength, 1) := by decide +kernel
theorem dJ7_fill_53178_4 : decode cJ7_fill_53178 4 = .ok (.istore_n 3, 1) := by decide +kernel
theorem dJ7_fill_53178_5 : decode cJ7_fill_53178 5 = .ok (.iload_n 2, 1) := by decide +kernel
theorem dJ7_fill_53178_6 : decode cJ7_fill_53178 6 = .ok (.iload_n 3, 1) := by decide +kernel
theorem dJ7_fill_53178_7 : decode cJ7_fill_53178 7 = .ok (.if_icmp .ge 13, 3) := by decide +kernel
theorem dJ7_fill_53178_10 : decode cJ7_fill_53178 10 = .ok (.aload_n 0, 1) := by decide +kernel
theorem dJ7_fill_53178_11 : decode cJ7_fill_53178 11 = .ok (.iload_n 2, 1) := by decide +kernel
theorem dJ7_fill_53178_12 : decode cJ7_fill_53178 12 = .ok (.iload_n 1, 1) := by decide +kernel
theorem dJ7_fill_53178_13 : decode cJ7_fill_53178 13 = .ok (.iastore, 1) := by decide +kernel
theorem dJ7_fill_53178_14 : decode cJ7_fill_53178 14 = .ok (.iinc 2 1, 3) := by decide +kernel
theorem dJ7_fill_53178_17 : decode cJ7_fill_53178 17 = .ok (.goto (-12), 3) := by decide +kernel
theorem dJ7_fill_53178_20 : decode cJ7_fill_53178 20 = .ok (.return_, 1) := by decide +kernel

