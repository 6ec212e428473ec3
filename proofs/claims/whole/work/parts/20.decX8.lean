/-! rows that decode -/
theorem dX8_init_0 : decode cX8_init 0 = .ok (.aload_n 0, 1) := by decide +kernel
theorem dX8_init_1 : decode cX8_init 1 = .ok (.invokespecial 1, 3) := by decide +kernel
theorem dX8_init_4 : decode cX8_init 4 = .ok (.aload_n 0, 1) := by decide +kernel
theorem dX8_init_5 : decode cX8_init 5 = .ok (.iload_n 1, 1) := by decide +kernel
theorem dX8_init_6 : decode cX8_init 6 = .ok (.iconst 0, 1) := by decide +kernel
theorem dX8_init_7 : decode cX8_init 7 = .ok (.invokestatic 7, 3) := by decide +kernel
theorem dX8_init_10 : decode cX8_init 10 = .ok (.newarray .int, 2) := by decide +kernel
theorem dX8_init_12 : decode cX8_init 12 = .ok (.putfield 13, 3) := by decide +kernel
theorem dX8_init_15 : decode cX8_init 15 = .ok (.return_, 1) := by decide +kernel
theorem dX8_clear_0 : decode cX8_clear 0 = .ok (.aload_n 0, 1) := by decide +kernel
theorem dX8_clear_1 : decode cX8_clear 1 = .ok (.iconst 0, 1) := by decide +kernel
theorem dX8_clear_2 : decode cX8_clear 2 = .ok (.putfield 19, 3) := by decide +kernel
theorem dX8_clear_5 : decode cX8_clear 5 = .ok (.return_, 1) := by decide +kernel
theorem dX8_put_0 : decode cX8_put 0 = .ok (.aload_n 0, 1) := by decide +kernel
theorem dX8_put_1 : decode cX8_put 1 = .ok (.getfield 19, 3) := by decide +kernel
theorem dX8_put_4 : decode cX8_put 4 = .ok (.ifCond .le 33, 3) := by decide +kernel
theorem dX8_put_7 : decode cX8_put 7 = .ok (.aload_n 0, 1) := by decide +kernel
theorem dX8_put_8 : decode cX8_put 8 = .ok (.getfield 13, 3) := by decide +kernel
theorem dX8_put_11 : decode cX8_put 11 = .ok (.aload_n 0, 1) := by decide +kernel
theorem dX8_put_12 : decode cX8_put 12 = .ok (.getfield 19, 3) := by decide +kernel
theorem dX8_put_15 : decode cX8_put 15 = .ok (.iconst 1, 1) := by decide +kernel
theorem dX8_put_16 : decode cX8_put 16 = .ok (.isub, 1) := by decide +kernel
theorem dX8_put_17 : decode cX8_put 17 = .ok (.iaload, 1) := by decide +kernel
theorem dX8_put_18 : decode cX8_put 18 = .ok (.iload_n 1, 1) := by decide +kernel
theorem dX8_put_19 : decode cX8_put 19 = .ok (.iconst 1, 1) := by decide +kernel
theorem dX8_put_20 : decode cX8_put 20 = .ok (.ixor, 1) := by decide +kernel
theorem dX8_put_21 : decode cX8_put 21 = .ok (.if_icmp .ne 16, 3) := by decide +kernel
theorem dX8_put_24 : decode cX8_put 24 = .ok (.aload_n 0, 1) := by decide +kernel
theorem dX8_put_25 : decode cX8_put 25 = .ok (.dup, 1) := by decide +kernel
theorem dX8_put_26 : decode cX8_put 26 = .ok (.getfield 19, 3) := by decide +kernel
theorem dX8_put_29 : decode cX8_put 29 = .ok (.iconst 1, 1) := by decide +kernel
theorem dX8_put_30 : decode cX8_put 30 = .ok (.isub, 1) := by decide +kernel
theorem dX8_put_31 : decode cX8_put 31 = .ok (.putfield 19, 3) := by decide +kernel
theorem dX8_put_34 : decode cX8_put 34 = .ok (.goto 35, 3) := by decide +kernel
theorem dX8_put_37 : decode cX8_put 37 = .ok (.aload_n 0, 1) := by decide +kernel
theorem dX8_put_38 : decode cX8_put 38 = .ok (.getfield 19, 3) := by decide +kernel
theorem dX8_put_41 : decode cX8_put 41 = .ok (.aload_n 0, 1) := by decide +kernel
theorem dX8_put_42 : decode cX8_put 42 = .ok (.getfield 13, 3) := by decide +kernel
theorem dX8_put_45 : decode cX8_put 45 = .ok (.arraylength, 1) := by decide +kernel
theorem dX8_put_46 : decode cX8_put 46 = .ok (.if_icmp .ge 23, 3) := by decide +kernel
theorem dX8_put_49 : decode cX8_put 49 = .ok (.aload_n 0, 1) := by decide +kernel
theorem dX8_put_50 : decode cX8_put 50 = .ok (.getfield 13, 3) := by decide +kernel
theorem dX8_put_53 : decode cX8_put 53 = .ok (.aload_n 0, 1) := by decide +kernel
theorem dX8_put_54 : decode cX8_put 54 = .ok (.getfield 19, 3) := by decide +kernel
theorem dX8_put_57 : decode cX8_put 57 = .ok (.iload_n 1, 1) := by decide +kernel
theorem dX8_put_58 : decode cX8_put 58 = .ok (.iastore, 1) := by decide +kernel
theorem dX8_put_59 : decode cX8_put 59 = .ok (.aload_n 0, 1) := by decide +kernel
theorem dX8_put_60 : decode cX8_put 60 = .ok (.dup, 1) := by decide +kernel
theorem dX8_put_61 : decode cX8_put 61 = .ok (.getfield 19, 3) := by decide +kernel
theorem dX8_put_64 : decode cX8_put 64 = .ok (.iconst 1, 1) := by decide +kernel
theorem dX8_put_65 : decode cX8_put 65 = .ok (.iadd, 1) := by decide +kernel
theorem dX8_put_66 : decode cX8_put 66 = .ok (.putfield 19, 3) := by decide +kernel
theorem dX8_put_69 : decode cX8_put 69 = .ok (.return_, 1) := by decide +kernel
theorem dX8_putWord_0 : decode cX8_putWord 0 = .ok (.aload_n 0, 1) := by decide +kernel
theorem dX8_putWord_1 : decode cX8_putWord 1 = .ok (.aload_n 1, 1) := by decide +kernel
theorem dX8_putWord_2 : decode cX8_putWord 2 = .ok (.iconst 0, 1) := by decide +kernel
theorem dX8_putWord_3 : decode cX8_putWord 3 = .ok (.aload_n 1, 1) := by decide +kernel
theorem dX8_putWord_4 : decode cX8_putWord 4 = .ok (.getfield 19, 3) := by decide +kernel
theorem dX8_putWord_7 : decode cX8_putWord 7 = .ok (.invokevirtual 23, 3) := by decide +kernel
theorem dX8_putWord_10 : decode cX8_putWord 10 = .ok (.return_, 1) := by decide +kernel
theorem dX8_putPart_0 : decode cX8_putPart 0 = .ok (.iload_n 2, 1) := by decide +kernel
theorem dX8_putPart_1 : decode cX8_putPart 1 = .ok (.istore 4, 2) := by decide +kernel
theorem dX8_putPart_3 : decode cX8_putPart 3 = .ok (.iload 4, 2) := by decide +kernel
theorem dX8_putPart_5 : decode cX8_putPart 5 = .ok (.iload_n 3, 1) := by decide +kernel
theorem dX8_putPart_6 : decode cX8_putPart 6 = .ok (.if_icmp .ge 20, 3) := by decide +kernel
theorem dX8_putPart_9 : decode cX8_putPart 9 = .ok (.aload_n 0, 1) := by decide +kernel
theorem dX8_putPart_10 : decode cX8_putPart 10 = .ok (.aload_n 1, 1) := by decide +kernel
theorem dX8_putPart_11 : decode cX8_putPart 11 = .ok (.getfield 13, 3) := by decide +kernel
theorem dX8_putPart_14 : decode cX8_putPart 14 = .ok (.iload 4, 2) := by decide +kernel
theorem dX8_putPart_16 : decode cX8_putPart 16 = .ok (.iaload, 1) := by decide +kernel
theorem dX8_putPart_17 : decode cX8_putPart 17 = .ok (.invokevirtual 27, 3) := by decide +kernel
theorem dX8_putPart_20 : decode cX8_putPart 20 = .ok (.iinc 4 1, 3) := by decide +kernel
theorem dX8_putPart_23 : decode cX8_putPart 23 = .ok (.goto (-20), 3) := by decide +kernel
theorem dX8_putPart_26 : decode cX8_putPart 26 = .ok (.return_, 1) := by decide +kernel
theorem dX8_putInverse_0 : decode cX8_putInverse 0 = .ok (.aload_n 1, 1) := by decide +kernel
theorem dX8_putInverse_1 : decode cX8_putInverse 1 = .ok (.getfield 19, 3) := by decide +kernel
theorem dX8_putInverse_4 : decode cX8_putInverse 4 = .ok (.iconst 1, 1) := by decide +kernel
theorem dX8_putInverse_5 : decode cX8_putInverse 5 = .ok (.isub, 1) := by decide +kernel
theorem dX8_putInverse_6 : decode cX8_putInverse 6 = .ok (.istore_n 2, 1) := by decide +kernel
theorem dX8_putInverse_7 : decode cX8_putInverse 7 = .ok (.iload_n 2, 1) := by decide +kernel
theorem dX8_putInverse_8 : decode cX8_putInverse 8 = .ok (.ifCond .lt 21, 3) := by decide +kernel
theorem dX8_putInverse_11 : decode cX8_putInverse 11 = .ok (.aload_n 0, 1) := by decide +kernel
theorem dX8_putInverse_12 : decode cX8_putInverse 12 = .ok (.aload_n 1, 1) := by decide +kernel
theorem dX8_putInverse_13 : decode cX8_putInverse 13 = .ok (.getfield 13, 3) := by decide +kernel
theorem dX8_putInverse_16 : decode cX8_putInverse 16 = .ok (.iload_n 2, 1) := by decide +kernel
theorem dX8_putInverse_17 : decode cX8_putInverse 17 = .ok (.iaload, 1) := by decide +kernel
theorem dX8_putInverse_18 : decode cX8_putInverse 18 = .ok (.iconst 1, 1) := by decide +kernel
theorem dX8_putInverse_19 : decode cX8_putInverse 19 = .ok (.ixor, 1) := by decide +kernel
theorem dX8_putInverse_20 : decode cX8_putInverse 20 = .ok (.invokevirtual 27, 3) := by decide +kernel
theorem dX8_putInverse_23 : decode cX8_putInverse 23 = .ok (.iinc 2 (-1), 3) := by decide +kernel
theorem dX8_putInverse_26 : decode cX8_putInverse 26 = .ok (.goto (-19), 3) := by decide +kernel
theorem dX8_putInverse_29 : decode cX8_putInverse 29 = .ok (.return_, 1) := by decide +kernel
theorem dX8_copyFrom_0 : decode cX8_copyFrom 0 = .ok (.aload_n 0, 1) := by decide +kernel
theorem dX8_copyFrom_1 : decode cX8_copyFrom 1 = .ok (.aload_n 1, 1) := by decide +kernel
theorem dX8_copyFrom_2 : decode cX8_copyFrom 2 = .ok (.getfield 19, 3) := by decide +kernel
theorem dX8_copyFrom_5 : decode cX8_copyFrom 5 = .ok (.aload_n 0, 1) := by decide +kernel
theorem dX8_copyFrom_6 : decode cX8_copyFrom 6 = .ok (.getfield 13, 3) := by decide +kernel
theorem dX8_copyFrom_9 : decode cX8_copyFrom 9 = .ok (.arraylength, 1) := by decide +kernel
theorem dX8_copyFrom_10 : decode cX8_copyFrom 10 = .ok (.invokestatic 31, 3) := by decide +kernel
theorem dX8_copyFrom_13 : decode cX8_copyFrom 13 = .ok (.putfield 19, 3) := by decide +kernel
theorem dX8_copyFrom_16 : decode cX8_copyFrom 16 = .ok (.aload_n 1, 1) := by decide +kernel
theorem dX8_copyFrom_17 : decode cX8_copyFrom 17 = .ok (.getfield 13, 3) := by decide +kernel
theorem dX8_copyFrom_20 : decode cX8_copyFrom 20 = .ok (.iconst 0, 1) := by decide +kernel
theorem dX8_copyFrom_21 : decode cX8_copyFrom 21 = .ok (.aload_n 0, 1) := by decide +kernel
theorem dX8_copyFrom_22 : decode cX8_copyFrom 22 = .ok (.getfield 13, 3) := by decide +kernel
theorem dX8_copyFrom_25 : decode cX8_copyFrom 25 = .ok (.iconst 0, 1) := by decide +kernel
theorem dX8_copyFrom_26 : decode cX8_copyFrom 26 = .ok (.aload_n 0, 1) := by decide +kernel
theorem dX8_copyFrom_27 : decode cX8_copyFrom 27 = .ok (.getfield 19, 3) := by decide +kernel
theorem dX8_copyFrom_30 : decode cX8_copyFrom 30 = .ok (.invokestatic 34, 3) := by decide +kernel
theorem dX8_copyFrom_33 : decode cX8_copyFrom 33 = .ok (.return_, 1) := by decide +kernel
theorem dX8_coreStart_0 : decode cX8_coreStart 0 = .ok (.iconst 0, 1) := by decide +kernel
theorem dX8_coreStart_1 : decode cX8_coreStart 1 = .ok (.istore_n 1, 1) := by decide +kernel
theorem dX8_coreStart_2 : decode cX8_coreStart 2 = .ok (.aload_n 0, 1) := by decide +kernel
theorem dX8_coreStart_3 : decode cX8_coreStart 3 = .ok (.getfield 19, 3) := by decide +kernel
theorem dX8_coreStart_6 : decode cX8_coreStart 6 = .ok (.iconst 1, 1) := by decide +kernel
theorem dX8_coreStart_7 : decode cX8_coreStart 7 = .ok (.isub, 1) := by decide +kernel
theorem dX8_coreStart_8 : decode cX8_coreStart 8 = .ok (.istore_n 2, 1) := by decide +kernel
theorem dX8_coreStart_9 : decode cX8_coreStart 9 = .ok (.iload_n 1, 1) := by decide +kernel
theorem dX8_coreStart_10 : decode cX8_coreStart 10 = .ok (.iload_n 2, 1) := by decide +kernel
theorem dX8_coreStart_11 : decode cX8_coreStart 11 = .ok (.if_icmp .ge 29, 3) := by decide +kernel
theorem dX8_coreStart_14 : decode cX8_coreStart 14 = .ok (.aload_n 0, 1) := by decide +kernel
theorem dX8_coreStart_15 : decode cX8_coreStart 15 = .ok (.getfield 13, 3) := by decide +kernel
theorem dX8_coreStart_18 : decode cX8_coreStart 18 = .ok (.iload_n 1, 1) := by decide +kernel
theorem dX8_coreStart_19 : decode cX8_coreStart 19 = .ok (.iaload, 1) := by decide +kernel
theorem dX8_coreStart_20 : decode cX8_coreStart 20 = .ok (.aload_n 0, 1) := by decide +kernel
theorem dX8_coreStart_21 : decode cX8_coreStart 21 = .ok (.getfield 13, 3) := by decide +kernel
theorem dX8_coreStart_24 : decode cX8_coreStart 24 = .ok (.iload_n 2, 1) := by decide +kernel
theorem dX8_coreStart_25 : decode cX8_coreStart 25 = .ok (.iaload, 1) := by decide +kernel
theorem dX8_coreStart_26 : decode cX8_coreStart 26 = .ok (.iconst 1, 1) := by decide +kernel
theorem dX8_coreStart_27 : decode cX8_coreStart 27 = .ok (.ixor, 1) := by decide +kernel
theorem dX8_coreStart_28 : decode cX8_coreStart 28 = .ok (.if_icmp .ne 12, 3) := by decide +kernel
theorem dX8_coreStart_31 : decode cX8_coreStart 31 = .ok (.iinc 1 1, 3) := by decide +kernel
theorem dX8_coreStart_34 : decode cX8_coreStart 34 = .ok (.iinc 2 (-1), 3) := by decide +kernel
theorem dX8_coreStart_37 : decode cX8_coreStart 37 = .ok (.goto (-28), 3) := by decide +kernel
theorem dX8_coreStart_40 : decode cX8_coreStart 40 = .ok (.iload_n 1, 1) := by decide +kernel
theorem dX8_coreStart_41 : decode cX8_coreStart 41 = .ok (.ireturn, 1) := by decide +kernel
theorem dX8_lengthOfCore_0 : decode cX8_lengthOfCore 0 = .ok (.aload_n 0, 1) := by decide +kernel
theorem dX8_lengthOfCore_1 : decode cX8_lengthOfCore 1 = .ok (.getfield 19, 3) := by decide +kernel
theorem dX8_lengthOfCore_4 : decode cX8_lengthOfCore 4 = .ok (.iconst 2, 1) := by decide +kernel
theorem dX8_lengthOfCore_5 : decode cX8_lengthOfCore 5 = .ok (.aload_n 0, 1) := by decide +kernel
theorem dX8_lengthOfCore_6 : decode cX8_lengthOfCore 6 = .ok (.invokevirtual 40, 3) := by decide +kernel
theorem dX8_lengthOfCore_9 : decode cX8_lengthOfCore 9 = .ok (.imul, 1) := by decide +kernel
theorem dX8_lengthOfCore_10 : decode cX8_lengthOfCore 10 = .ok (.isub, 1) := by decide +kernel
theorem dX8_lengthOfCore_11 : decode cX8_lengthOfCore 11 = .ok (.ireturn, 1) := by decide +kernel
theorem dX8_rootLength_0 : decode cX8_rootLength 0 = .ok (.aload_n 0, 1) := by decide +kernel
theorem dX8_rootLength_1 : decode cX8_rootLength 1 = .ok (.invokevirtual 44, 3) := by decide +kernel
theorem dX8_rootLength_4 : decode cX8_rootLength 4 = .ok (.istore_n 1, 1) := by decide +kernel
theorem dX8_rootLength_5 : decode cX8_rootLength 5 = .ok (.iconst 1, 1) := by decide +kernel
theorem dX8_rootLength_6 : decode cX8_rootLength 6 = .ok (.istore_n 2, 1) := by decide +kernel
theorem dX8_rootLength_7 : decode cX8_rootLength 7 = .ok (.iload_n 2, 1) := by decide +kernel
theorem dX8_rootLength_8 : decode cX8_rootLength 8 = .ok (.iload_n 1, 1) := by decide +kernel
theorem dX8_rootLength_9 : decode cX8_rootLength 9 = .ok (.if_icmp .ge 25, 3) := by decide +kernel
theorem dX8_rootLength_12 : decode cX8_rootLength 12 = .ok (.iload_n 1, 1) := by decide +kernel
theorem dX8_rootLength_13 : decode cX8_rootLength 13 = .ok (.iload_n 2, 1) := by decide +kernel
theorem dX8_rootLength_14 : decode cX8_rootLength 14 = .ok (.irem, 1) := by decide +kernel
theorem dX8_rootLength_15 : decode cX8_rootLength 15 = .ok (.ifCond .ne 13, 3) := by decide +kernel
theorem dX8_rootLength_18 : decode cX8_rootLength 18 = .ok (.aload_n 0, 1) := by decide +kernel
theorem dX8_rootLength_19 : decode cX8_rootLength 19 = .ok (.iload_n 2, 1) := by decide +kernel
theorem dX8_rootLength_20 : decode cX8_rootLength 20 = .ok (.invokevirtual 47, 3) := by decide +kernel
theorem dX8_rootLength_23 : decode cX8_rootLength 23 = .ok (.ifCond .eq 5, 3) := by decide +kernel
theorem dX8_rootLength_26 : decode cX8_rootLength 26 = .ok (.iload_n 2, 1) := by decide +kernel
theorem dX8_rootLength_27 : decode cX8_rootLength 27 = .ok (.ireturn, 1) := by decide +kernel
theorem dX8_rootLength_28 : decode cX8_rootLength 28 = .ok (.iinc 2 1, 3) := by decide +kernel
theorem dX8_rootLength_31 : decode cX8_rootLength 31 = .ok (.goto (-24), 3) := by decide +kernel
theorem dX8_rootLength_34 : decode cX8_rootLength 34 = .ok (.iload_n 1, 1) := by decide +kernel
theorem dX8_rootLength_35 : decode cX8_rootLength 35 = .ok (.ireturn, 1) := by decide +kernel
theorem dX8_exponentOfRoot_0 : decode cX8_exponentOfRoot 0 = .ok (.aload_n 0, 1) := by decide +kernel
theorem dX8_exponentOfRoot_1 : decode cX8_exponentOfRoot 1 = .ok (.invokevirtual 51, 3) := by decide +kernel
theorem dX8_exponentOfRoot_4 : decode cX8_exponentOfRoot 4 = .ok (.istore_n 1, 1) := by decide +kernel
theorem dX8_exponentOfRoot_5 : decode cX8_exponentOfRoot 5 = .ok (.iload_n 1, 1) := by decide +kernel
theorem dX8_exponentOfRoot_6 : decode cX8_exponentOfRoot 6 = .ok (.ifCond .ne 7, 3) := by decide +kernel
theorem dX8_exponentOfRoot_9 : decode cX8_exponentOfRoot 9 = .ok (.iconst 0, 1) := by decide +kernel
theorem dX8_exponentOfRoot_10 : decode cX8_exponentOfRoot 10 = .ok (.goto 9, 3) := by decide +kernel
theorem dX8_exponentOfRoot_13 : decode cX8_exponentOfRoot 13 = .ok (.aload_n 0, 1) := by decide +kernel
theorem dX8_exponentOfRoot_14 : decode cX8_exponentOfRoot 14 = .ok (.invokevirtual 44, 3) := by decide +kernel
theorem dX8_exponentOfRoot_17 : decode cX8_exponentOfRoot 17 = .ok (.iload_n 1, 1) := by decide +kernel
theorem dX8_exponentOfRoot_18 : decode cX8_exponentOfRoot 18 = .ok (.idiv, 1) := by decide +kernel
theorem dX8_exponentOfRoot_19 : decode cX8_exponentOfRoot 19 = .ok (.ireturn, 1) := by decide +kernel
theorem dX8_hasCorePeriod_0 : decode cX8_hasCorePeriod 0 = .ok (.aload_n 0, 1) := by decide +kernel
theorem dX8_hasCorePeriod_1 : decode cX8_hasCorePeriod 1 = .ok (.invokevirtual 40, 3) := by decide +kernel
theorem dX8_hasCorePeriod_4 : decode cX8_hasCorePeriod 4 = .ok (.istore_n 2, 1) := by decide +kernel
theorem dX8_hasCorePeriod_5 : decode cX8_hasCorePeriod 5 = .ok (.iload_n 2, 1) := by decide +kernel
theorem dX8_hasCorePeriod_6 : decode cX8_hasCorePeriod 6 = .ok (.iload_n 1, 1) := by decide +kernel
theorem dX8_hasCorePeriod_7 : decode cX8_hasCorePeriod 7 = .ok (.iadd, 1) := by decide +kernel
theorem dX8_hasCorePeriod_8 : decode cX8_hasCorePeriod 8 = .ok (.istore_n 3, 1) := by decide +kernel
theorem dX8_hasCorePeriod_9 : decode cX8_hasCorePeriod 9 = .ok (.iload_n 3, 1) := by decide +kernel
theorem dX8_hasCorePeriod_10 : decode cX8_hasCorePeriod 10 = .ok (.aload_n 0, 1) := by decide +kernel
theorem dX8_hasCorePeriod_11 : decode cX8_hasCorePeriod 11 = .ok (.getfield 19, 3) := by decide +kernel
theorem dX8_hasCorePeriod_14 : decode cX8_hasCorePeriod 14 = .ok (.iload_n 2, 1) := by decide +kernel
theorem dX8_hasCorePeriod_15 : decode cX8_hasCorePeriod 15 = .ok (.isub, 1) := by decide +kernel
theorem dX8_hasCorePeriod_16 : decode cX8_hasCorePeriod 16 = .ok (.if_icmp .ge 28, 3) := by decide +kernel
theorem dX8_hasCorePeriod_19 : decode cX8_hasCorePeriod 19 = .ok (.aload_n 0, 1) := by decide +kernel
theorem dX8_hasCorePeriod_20 : decode cX8_hasCorePeriod 20 = .ok (.getfield 13, 3) := by decide +kernel
theorem dX8_hasCorePeriod_23 : decode cX8_hasCorePeriod 23 = .ok (.iload_n 3, 1) := by decide +kernel
theorem dX8_hasCorePeriod_24 : decode cX8_hasCorePeriod 24 = .ok (.iaload, 1) := by decide +kernel
theorem dX8_hasCorePeriod_25 : decode cX8_hasCorePeriod 25 = .ok (.aload_n 0, 1) := by decide +kernel
theorem dX8_hasCorePeriod_26 : decode cX8_hasCorePeriod 26 = .ok (.getfield 13, 3) := by decide +kernel
theorem dX8_hasCorePeriod_29 : decode cX8_hasCorePeriod 29 = .ok (.iload_n 3, 1) := by decide +kernel
theorem dX8_hasCorePeriod_30 : decode cX8_hasCorePeriod 30 = .ok (.iload_n 1, 1) := by decide +kernel
theorem dX8_hasCorePeriod_31 : decode cX8_hasCorePeriod 31 = .ok (.isub, 1) := by decide +kernel
theorem dX8_hasCorePeriod_32 : decode cX8_hasCorePeriod 32 = .ok (.iaload, 1) := by decide +kernel
theorem dX8_hasCorePeriod_33 : decode cX8_hasCorePeriod 33 = .ok (.if_icmp .eq 5, 3) := by decide +kernel
theorem dX8_hasCorePeriod_36 : decode cX8_hasCorePeriod 36 = .ok (.iconst 0, 1) := by decide +kernel
theorem dX8_hasCorePeriod_37 : decode cX8_hasCorePeriod 37 = .ok (.ireturn, 1) := by decide +kernel
theorem dX8_hasCorePeriod_38 : decode cX8_hasCorePeriod 38 = .ok (.iinc 3 1, 3) := by decide +kernel
theorem dX8_hasCorePeriod_41 : decode cX8_hasCorePeriod 41 = .ok (.goto (-32), 3) := by decide +kernel
theorem dX8_hasCorePeriod_44 : decode cX8_hasCorePeriod 44 = .ok (.iconst 1, 1) := by decide +kernel
theorem dX8_hasCorePeriod_45 : decode cX8_hasCorePeriod 45 = .ok (.ireturn, 1) := by decide +kernel

