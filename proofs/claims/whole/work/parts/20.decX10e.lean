/-! rows that decode -/
theorem dX10_representativeLength_0 : decode cX10_representativeLength 0 = .ok (.aload_n 0, 1) := by decide +kernel
theorem dX10_representativeLength_1 : decode cX10_representativeLength 1 = .ok (.iconst 0, 1) := by decide +kernel
theorem dX10_representativeLength_2 : decode cX10_representativeLength 2 = .ok (.putfield 75, 3) := by decide +kernel
theorem dX10_representativeLength_5 : decode cX10_representativeLength 5 = .ok (.aload_n 0, 1) := by decide +kernel
theorem dX10_representativeLength_6 : decode cX10_representativeLength 6 = .ok (.iload_n 1, 1) := by decide +kernel
theorem dX10_representativeLength_7 : decode cX10_representativeLength 7 = .ok (.iload_n 2, 1) := by decide +kernel
theorem dX10_representativeLength_8 : decode cX10_representativeLength 8 = .ok (.invokevirtual 333, 3) := by decide +kernel
theorem dX10_representativeLength_11 : decode cX10_representativeLength 11 = .ok (.ifCond .eq 12, 3) := by decide +kernel
theorem dX10_representativeLength_14 : decode cX10_representativeLength 14 = .ok (.aload_n 0, 1) := by decide +kernel
theorem dX10_representativeLength_15 : decode cX10_representativeLength 15 = .ok (.iload_n 1, 1) := by decide +kernel
theorem dX10_representativeLength_16 : decode cX10_representativeLength 16 = .ok (.iload_n 2, 1) := by decide +kernel
theorem dX10_representativeLength_17 : decode cX10_representativeLength 17 = .ok (.invokevirtual 354, 3) := by decide +kernel
theorem dX10_representativeLength_20 : decode cX10_representativeLength 20 = .ok (.goto 8, 3) := by decide +kernel
theorem dX10_representativeLength_23 : decode cX10_representativeLength 23 = .ok (.aload_n 0, 1) := by decide +kernel
theorem dX10_representativeLength_24 : decode cX10_representativeLength 24 = .ok (.iconst 1, 1) := by decide +kernel
theorem dX10_representativeLength_25 : decode cX10_representativeLength 25 = .ok (.invokevirtual 275, 3) := by decide +kernel
theorem dX10_representativeLength_28 : decode cX10_representativeLength 28 = .ok (.ireturn, 1) := by decide +kernel
theorem dX10_keeps_0 : decode cX10_keeps 0 = .ok (.aload_n 0, 1) := by decide +kernel
theorem dX10_keeps_1 : decode cX10_keeps 1 = .ok (.invokevirtual 357, 3) := by decide +kernel
theorem dX10_keeps_4 : decode cX10_keeps 4 = .ok (.aload_n 0, 1) := by decide +kernel
theorem dX10_keeps_5 : decode cX10_keeps 5 = .ok (.iload_n 1, 1) := by decide +kernel
theorem dX10_keeps_6 : decode cX10_keeps 6 = .ok (.invokestatic 263, 3) := by decide +kernel
theorem dX10_keeps_9 : decode cX10_keeps 9 = .ok (.invokevirtual 266, 3) := by decide +kernel
theorem dX10_keeps_12 : decode cX10_keeps 12 = .ok (.ireturn, 1) := by decide +kernel
theorem dX10_setRegister_0 : decode cX10_setRegister 0 = .ok (.aload_n 0, 1) := by decide +kernel
theorem dX10_setRegister_1 : decode cX10_setRegister 1 = .ok (.iconst 0, 1) := by decide +kernel
theorem dX10_setRegister_2 : decode cX10_setRegister 2 = .ok (.putfield 75, 3) := by decide +kernel
theorem dX10_setRegister_5 : decode cX10_setRegister 5 = .ok (.iload_n 1, 1) := by decide +kernel
theorem dX10_setRegister_6 : decode cX10_setRegister 6 = .ok (.invokestatic 90, 3) := by decide +kernel
theorem dX10_setRegister_9 : decode cX10_setRegister 9 = .ok (.ifCond .ne 9, 3) := by decide +kernel
theorem dX10_setRegister_12 : decode cX10_setRegister 12 = .ok (.aload_n 0, 1) := by decide +kernel
theorem dX10_setRegister_13 : decode cX10_setRegister 13 = .ok (.iconst 1, 1) := by decide +kernel
theorem dX10_setRegister_14 : decode cX10_setRegister 14 = .ok (.invokevirtual 275, 3) := by decide +kernel
theorem dX10_setRegister_17 : decode cX10_setRegister 17 = .ok (.ireturn, 1) := by decide +kernel
theorem dX10_setRegister_18 : decode cX10_setRegister 18 = .ok (.aload_n 0, 1) := by decide +kernel
theorem dX10_setRegister_19 : decode cX10_setRegister 19 = .ok (.invokevirtual 112, 3) := by decide +kernel
theorem dX10_setRegister_22 : decode cX10_setRegister 22 = .ok (.iconst 0, 1) := by decide +kernel
theorem dX10_setRegister_23 : decode cX10_setRegister 23 = .ok (.istore_n 2, 1) := by decide +kernel
theorem dX10_setRegister_24 : decode cX10_setRegister 24 = .ok (.iload_n 2, 1) := by decide +kernel
theorem dX10_setRegister_25 : decode cX10_setRegister 25 = .ok (.aload_n 0, 1) := by decide +kernel
theorem dX10_setRegister_26 : decode cX10_setRegister 26 = .ok (.getfield 206, 3) := by decide +kernel
theorem dX10_setRegister_29 : decode cX10_setRegister 29 = .ok (.if_icmp .ge 36, 3) := by decide +kernel
theorem dX10_setRegister_32 : decode cX10_setRegister 32 = .ok (.aload_n 0, 1) := by decide +kernel
theorem dX10_setRegister_33 : decode cX10_setRegister 33 = .ok (.aload_n 0, 1) := by decide +kernel
theorem dX10_setRegister_34 : decode cX10_setRegister 34 = .ok (.getfield 13, 3) := by decide +kernel
theorem dX10_setRegister_37 : decode cX10_setRegister 37 = .ok (.iload_n 2, 1) := by decide +kernel
theorem dX10_setRegister_38 : decode cX10_setRegister 38 = .ok (.baload, 1) := by decide +kernel
theorem dX10_setRegister_39 : decode cX10_setRegister 39 = .ok (.invokevirtual 269, 3) := by decide +kernel
theorem dX10_setRegister_42 : decode cX10_setRegister 42 = .ok (.istore_n 3, 1) := by decide +kernel
theorem dX10_setRegister_43 : decode cX10_setRegister 43 = .ok (.iload_n 3, 1) := by decide +kernel
theorem dX10_setRegister_44 : decode cX10_setRegister 44 = .ok (.iconst (-1), 1) := by decide +kernel
theorem dX10_setRegister_45 : decode cX10_setRegister 45 = .ok (.if_icmp .ne 9, 3) := by decide +kernel
theorem dX10_setRegister_48 : decode cX10_setRegister 48 = .ok (.aload_n 0, 1) := by decide +kernel
theorem dX10_setRegister_49 : decode cX10_setRegister 49 = .ok (.iconst 2, 1) := by decide +kernel
theorem dX10_setRegister_50 : decode cX10_setRegister 50 = .ok (.invokevirtual 275, 3) := by decide +kernel
theorem dX10_setRegister_53 : decode cX10_setRegister 53 = .ok (.ireturn, 1) := by decide +kernel
theorem dX10_setRegister_54 : decode cX10_setRegister 54 = .ok (.aload_n 0, 1) := by decide +kernel
theorem dX10_setRegister_55 : decode cX10_setRegister 55 = .ok (.iload_n 3, 1) := by decide +kernel
theorem dX10_setRegister_56 : decode cX10_setRegister 56 = .ok (.invokevirtual 108, 3) := by decide +kernel
theorem dX10_setRegister_59 : decode cX10_setRegister 59 = .ok (.iinc 2 1, 3) := by decide +kernel
theorem dX10_setRegister_62 : decode cX10_setRegister 62 = .ok (.goto (-38), 3) := by decide +kernel
theorem dX10_setRegister_65 : decode cX10_setRegister 65 = .ok (.aload_n 0, 1) := by decide +kernel
theorem dX10_setRegister_66 : decode cX10_setRegister 66 = .ok (.invokevirtual 272, 3) := by decide +kernel
theorem dX10_setRegister_69 : decode cX10_setRegister 69 = .ok (.ifCond .eq 9, 3) := by decide +kernel
theorem dX10_setRegister_72 : decode cX10_setRegister 72 = .ok (.aload_n 0, 1) := by decide +kernel
theorem dX10_setRegister_73 : decode cX10_setRegister 73 = .ok (.iconst 3, 1) := by decide +kernel
theorem dX10_setRegister_74 : decode cX10_setRegister 74 = .ok (.invokevirtual 275, 3) := by decide +kernel
theorem dX10_setRegister_77 : decode cX10_setRegister 77 = .ok (.ireturn, 1) := by decide +kernel
theorem dX10_setRegister_78 : decode cX10_setRegister 78 = .ok (.aload_n 0, 1) := by decide +kernel
theorem dX10_setRegister_79 : decode cX10_setRegister 79 = .ok (.iconst 0, 1) := by decide +kernel
theorem dX10_setRegister_80 : decode cX10_setRegister 80 = .ok (.putfield 206, 3) := by decide +kernel
theorem dX10_setRegister_83 : decode cX10_setRegister 83 = .ok (.aload_n 0, 1) := by decide +kernel
theorem dX10_setRegister_84 : decode cX10_setRegister 84 = .ok (.iload_n 1, 1) := by decide +kernel
theorem dX10_setRegister_85 : decode cX10_setRegister 85 = .ok (.invokevirtual 360, 3) := by decide +kernel
theorem dX10_setRegister_88 : decode cX10_setRegister 88 = .ok (.ireturn, 1) := by decide +kernel
theorem dX10_setProduct_0 : decode cX10_setProduct 0 = .ok (.aload_n 0, 1) := by decide +kernel
theorem dX10_setProduct_1 : decode cX10_setProduct 1 = .ok (.iconst 0, 1) := by decide +kernel
theorem dX10_setProduct_2 : decode cX10_setProduct 2 = .ok (.putfield 75, 3) := by decide +kernel
theorem dX10_setProduct_5 : decode cX10_setProduct 5 = .ok (.iload_n 1, 1) := by decide +kernel
theorem dX10_setProduct_6 : decode cX10_setProduct 6 = .ok (.invokestatic 90, 3) := by decide +kernel
theorem dX10_setProduct_9 : decode cX10_setProduct 9 = .ok (.ifCond .eq 11, 3) := by decide +kernel
theorem dX10_setProduct_12 : decode cX10_setProduct 12 = .ok (.iload_n 2, 1) := by decide +kernel
theorem dX10_setProduct_13 : decode cX10_setProduct 13 = .ok (.iload_n 3, 1) := by decide +kernel
theorem dX10_setProduct_14 : decode cX10_setProduct 14 = .ok (.invokestatic 295, 3) := by decide +kernel
theorem dX10_setProduct_17 : decode cX10_setProduct 17 = .ok (.ifCond .ne 9, 3) := by decide +kernel
theorem dX10_setProduct_20 : decode cX10_setProduct 20 = .ok (.aload_n 0, 1) := by decide +kernel
theorem dX10_setProduct_21 : decode cX10_setProduct 21 = .ok (.iconst 1, 1) := by decide +kernel
theorem dX10_setProduct_22 : decode cX10_setProduct 22 = .ok (.invokevirtual 275, 3) := by decide +kernel
theorem dX10_setProduct_25 : decode cX10_setProduct 25 = .ok (.ireturn, 1) := by decide +kernel
theorem dX10_setProduct_26 : decode cX10_setProduct 26 = .ok (.aload_n 0, 1) := by decide +kernel
theorem dX10_setProduct_27 : decode cX10_setProduct 27 = .ok (.iload_n 2, 1) := by decide +kernel
theorem dX10_setProduct_28 : decode cX10_setProduct 28 = .ok (.invokestatic 263, 3) := by decide +kernel
theorem dX10_setProduct_31 : decode cX10_setProduct 31 = .ok (.iload_n 3, 1) := by decide +kernel
theorem dX10_setProduct_32 : decode cX10_setProduct 32 = .ok (.invokestatic 263, 3) := by decide +kernel
theorem dX10_setProduct_35 : decode cX10_setProduct 35 = .ok (.invokevirtual 301, 3) := by decide +kernel
theorem dX10_setProduct_38 : decode cX10_setProduct 38 = .ok (.aload_n 0, 1) := by decide +kernel
theorem dX10_setProduct_39 : decode cX10_setProduct 39 = .ok (.invokevirtual 272, 3) := by decide +kernel
theorem dX10_setProduct_42 : decode cX10_setProduct 42 = .ok (.ifCond .eq 11, 3) := by decide +kernel
theorem dX10_setProduct_45 : decode cX10_setProduct 45 = .ok (.aload_n 0, 1) := by decide +kernel
theorem dX10_setProduct_46 : decode cX10_setProduct 46 = .ok (.iconst 2, 1) := by decide +kernel
theorem dX10_setProduct_47 : decode cX10_setProduct 47 = .ok (.invokevirtual 275, 3) := by decide +kernel
theorem dX10_setProduct_50 : decode cX10_setProduct 50 = .ok (.goto 8, 3) := by decide +kernel
theorem dX10_setProduct_53 : decode cX10_setProduct 53 = .ok (.aload_n 0, 1) := by decide +kernel
theorem dX10_setProduct_54 : decode cX10_setProduct 54 = .ok (.iload_n 1, 1) := by decide +kernel
theorem dX10_setProduct_55 : decode cX10_setProduct 55 = .ok (.invokevirtual 360, 3) := by decide +kernel
theorem dX10_setProduct_58 : decode cX10_setProduct 58 = .ok (.ireturn, 1) := by decide +kernel
theorem dX10_setInverse_0 : decode cX10_setInverse 0 = .ok (.aload_n 0, 1) := by decide +kernel
theorem dX10_setInverse_1 : decode cX10_setInverse 1 = .ok (.iconst 0, 1) := by decide +kernel
theorem dX10_setInverse_2 : decode cX10_setInverse 2 = .ok (.putfield 75, 3) := by decide +kernel
theorem dX10_setInverse_5 : decode cX10_setInverse 5 = .ok (.iload_n 1, 1) := by decide +kernel
theorem dX10_setInverse_6 : decode cX10_setInverse 6 = .ok (.iload_n 2, 1) := by decide +kernel
theorem dX10_setInverse_7 : decode cX10_setInverse 7 = .ok (.invokestatic 295, 3) := by decide +kernel
theorem dX10_setInverse_10 : decode cX10_setInverse 10 = .ok (.ifCond .ne 9, 3) := by decide +kernel
theorem dX10_setInverse_13 : decode cX10_setInverse 13 = .ok (.aload_n 0, 1) := by decide +kernel
theorem dX10_setInverse_14 : decode cX10_setInverse 14 = .ok (.iconst 1, 1) := by decide +kernel
theorem dX10_setInverse_15 : decode cX10_setInverse 15 = .ok (.invokevirtual 275, 3) := by decide +kernel
theorem dX10_setInverse_18 : decode cX10_setInverse 18 = .ok (.ireturn, 1) := by decide +kernel
theorem dX10_setInverse_19 : decode cX10_setInverse 19 = .ok (.aload_n 0, 1) := by decide +kernel
theorem dX10_setInverse_20 : decode cX10_setInverse 20 = .ok (.invokevirtual 112, 3) := by decide +kernel
theorem dX10_setInverse_23 : decode cX10_setInverse 23 = .ok (.aload_n 0, 1) := by decide +kernel
theorem dX10_setInverse_24 : decode cX10_setInverse 24 = .ok (.iload_n 2, 1) := by decide +kernel
theorem dX10_setInverse_25 : decode cX10_setInverse 25 = .ok (.invokestatic 263, 3) := by decide +kernel
theorem dX10_setInverse_28 : decode cX10_setInverse 28 = .ok (.invokevirtual 363, 3) := by decide +kernel
theorem dX10_setInverse_31 : decode cX10_setInverse 31 = .ok (.aload_n 0, 1) := by decide +kernel
theorem dX10_setInverse_32 : decode cX10_setInverse 32 = .ok (.iload_n 1, 1) := by decide +kernel
theorem dX10_setInverse_33 : decode cX10_setInverse 33 = .ok (.invokevirtual 360, 3) := by decide +kernel
theorem dX10_setInverse_36 : decode cX10_setInverse 36 = .ok (.ireturn, 1) := by decide +kernel
theorem dX10_setConjugate_0 : decode cX10_setConjugate 0 = .ok (.aload_n 0, 1) := by decide +kernel
theorem dX10_setConjugate_1 : decode cX10_setConjugate 1 = .ok (.iconst 0, 1) := by decide +kernel
theorem dX10_setConjugate_2 : decode cX10_setConjugate 2 = .ok (.putfield 75, 3) := by decide +kernel
theorem dX10_setConjugate_5 : decode cX10_setConjugate 5 = .ok (.iload_n 1, 1) := by decide +kernel
theorem dX10_setConjugate_6 : decode cX10_setConjugate 6 = .ok (.invokestatic 90, 3) := by decide +kernel
theorem dX10_setConjugate_9 : decode cX10_setConjugate 9 = .ok (.ifCond .eq 11, 3) := by decide +kernel
theorem dX10_setConjugate_12 : decode cX10_setConjugate 12 = .ok (.iload_n 2, 1) := by decide +kernel
theorem dX10_setConjugate_13 : decode cX10_setConjugate 13 = .ok (.iload_n 3, 1) := by decide +kernel
theorem dX10_setConjugate_14 : decode cX10_setConjugate 14 = .ok (.invokestatic 295, 3) := by decide +kernel
theorem dX10_setConjugate_17 : decode cX10_setConjugate 17 = .ok (.ifCond .ne 9, 3) := by decide +kernel
theorem dX10_setConjugate_20 : decode cX10_setConjugate 20 = .ok (.aload_n 0, 1) := by decide +kernel
theorem dX10_setConjugate_21 : decode cX10_setConjugate 21 = .ok (.iconst 1, 1) := by decide +kernel
theorem dX10_setConjugate_22 : decode cX10_setConjugate 22 = .ok (.invokevirtual 275, 3) := by decide +kernel
theorem dX10_setConjugate_25 : decode cX10_setConjugate 25 = .ok (.ireturn, 1) := by decide +kernel
theorem dX10_setConjugate_26 : decode cX10_setConjugate 26 = .ok (.aload_n 0, 1) := by decide +kernel
theorem dX10_setConjugate_27 : decode cX10_setConjugate 27 = .ok (.invokevirtual 112, 3) := by decide +kernel
theorem dX10_setConjugate_30 : decode cX10_setConjugate 30 = .ok (.aload_n 0, 1) := by decide +kernel
theorem dX10_setConjugate_31 : decode cX10_setConjugate 31 = .ok (.iload_n 3, 1) := by decide +kernel
theorem dX10_setConjugate_32 : decode cX10_setConjugate 32 = .ok (.invokestatic 263, 3) := by decide +kernel
theorem dX10_setConjugate_35 : decode cX10_setConjugate 35 = .ok (.invokevirtual 363, 3) := by decide +kernel
theorem dX10_setConjugate_38 : decode cX10_setConjugate 38 = .ok (.aload_n 0, 1) := by decide +kernel
theorem dX10_setConjugate_39 : decode cX10_setConjugate 39 = .ok (.iload_n 2, 1) := by decide +kernel
theorem dX10_setConjugate_40 : decode cX10_setConjugate 40 = .ok (.invokestatic 263, 3) := by decide +kernel
theorem dX10_setConjugate_43 : decode cX10_setConjugate 43 = .ok (.invokevirtual 115, 3) := by decide +kernel
theorem dX10_setConjugate_46 : decode cX10_setConjugate 46 = .ok (.aload_n 0, 1) := by decide +kernel
theorem dX10_setConjugate_47 : decode cX10_setConjugate 47 = .ok (.iload_n 3, 1) := by decide +kernel
theorem dX10_setConjugate_48 : decode cX10_setConjugate 48 = .ok (.invokestatic 263, 3) := by decide +kernel
theorem dX10_setConjugate_51 : decode cX10_setConjugate 51 = .ok (.invokevirtual 115, 3) := by decide +kernel
theorem dX10_setConjugate_54 : decode cX10_setConjugate 54 = .ok (.aload_n 0, 1) := by decide +kernel
theorem dX10_setConjugate_55 : decode cX10_setConjugate 55 = .ok (.invokevirtual 272, 3) := by decide +kernel
theorem dX10_setConjugate_58 : decode cX10_setConjugate 58 = .ok (.ifCond .eq 11, 3) := by decide +kernel
theorem dX10_setConjugate_61 : decode cX10_setConjugate 61 = .ok (.aload_n 0, 1) := by decide +kernel
theorem dX10_setConjugate_62 : decode cX10_setConjugate 62 = .ok (.iconst 2, 1) := by decide +kernel
theorem dX10_setConjugate_63 : decode cX10_setConjugate 63 = .ok (.invokevirtual 275, 3) := by decide +kernel
theorem dX10_setConjugate_66 : decode cX10_setConjugate 66 = .ok (.goto 8, 3) := by decide +kernel
theorem dX10_setConjugate_69 : decode cX10_setConjugate 69 = .ok (.aload_n 0, 1) := by decide +kernel
theorem dX10_setConjugate_70 : decode cX10_setConjugate 70 = .ok (.iload_n 1, 1) := by decide +kernel
theorem dX10_setConjugate_71 : decode cX10_setConjugate 71 = .ok (.invokevirtual 360, 3) := by decide +kernel
theorem dX10_setConjugate_74 : decode cX10_setConjugate 74 = .ok (.ireturn, 1) := by decide +kernel
theorem dX10_setCommutator_0 : decode cX10_setCommutator 0 = .ok (.aload_n 0, 1) := by decide +kernel
theorem dX10_setCommutator_1 : decode cX10_setCommutator 1 = .ok (.iconst 0, 1) := by decide +kernel
theorem dX10_setCommutator_2 : decode cX10_setCommutator 2 = .ok (.putfield 75, 3) := by decide +kernel
theorem dX10_setCommutator_5 : decode cX10_setCommutator 5 = .ok (.iload_n 1, 1) := by decide +kernel
theorem dX10_setCommutator_6 : decode cX10_setCommutator 6 = .ok (.invokestatic 90, 3) := by decide +kernel
theorem dX10_setCommutator_9 : decode cX10_setCommutator 9 = .ok (.ifCond .eq 11, 3) := by decide +kernel
theorem dX10_setCommutator_12 : decode cX10_setCommutator 12 = .ok (.iload_n 2, 1) := by decide +kernel
theorem dX10_setCommutator_13 : decode cX10_setCommutator 13 = .ok (.iload_n 3, 1) := by decide +kernel
theorem dX10_setCommutator_14 : decode cX10_setCommutator 14 = .ok (.invokestatic 295, 3) := by decide +kernel
theorem dX10_setCommutator_17 : decode cX10_setCommutator 17 = .ok (.ifCond .ne 9, 3) := by decide +kernel
theorem dX10_setCommutator_20 : decode cX10_setCommutator 20 = .ok (.aload_n 0, 1) := by decide +kernel
theorem dX10_setCommutator_21 : decode cX10_setCommutator 21 = .ok (.iconst 1, 1) := by decide +kernel
theorem dX10_setCommutator_22 : decode cX10_setCommutator 22 = .ok (.invokevirtual 275, 3) := by decide +kernel
theorem dX10_setCommutator_25 : decode cX10_setCommutator 25 = .ok (.ireturn, 1) := by decide +kernel
theorem dX10_setCommutator_26 : decode cX10_setCommutator 26 = .ok (.aload_n 0, 1) := by decide +kernel
theorem dX10_setCommutator_27 : decode cX10_setCommutator 27 = .ok (.invokevirtual 112, 3) := by decide +kernel
theorem dX10_setCommutator_30 : decode cX10_setCommutator 30 = .ok (.aload_n 0, 1) := by decide +kernel
theorem dX10_setCommutator_31 : decode cX10_setCommutator 31 = .ok (.iload_n 2, 1) := by decide +kernel
theorem dX10_setCommutator_32 : decode cX10_setCommutator 32 = .ok (.invokestatic 263, 3) := by decide +kernel
theorem dX10_setCommutator_35 : decode cX10_setCommutator 35 = .ok (.invokevirtual 363, 3) := by decide +kernel
theorem dX10_setCommutator_38 : decode cX10_setCommutator 38 = .ok (.aload_n 0, 1) := by decide +kernel
theorem dX10_setCommutator_39 : decode cX10_setCommutator 39 = .ok (.iload_n 3, 1) := by decide +kernel
theorem dX10_setCommutator_40 : decode cX10_setCommutator 40 = .ok (.invokestatic 263, 3) := by decide +kernel
theorem dX10_setCommutator_43 : decode cX10_setCommutator 43 = .ok (.invokevirtual 363, 3) := by decide +kernel
theorem dX10_setCommutator_46 : decode cX10_setCommutator 46 = .ok (.aload_n 0, 1) := by decide +kernel
theorem dX10_setCommutator_47 : decode cX10_setCommutator 47 = .ok (.iload_n 2, 1) := by decide +kernel
theorem dX10_setCommutator_48 : decode cX10_setCommutator 48 = .ok (.invokestatic 263, 3) := by decide +kernel
theorem dX10_setCommutator_51 : decode cX10_setCommutator 51 = .ok (.invokevirtual 115, 3) := by decide +kernel
theorem dX10_setCommutator_54 : decode cX10_setCommutator 54 = .ok (.aload_n 0, 1) := by decide +kernel
theorem dX10_setCommutator_55 : decode cX10_setCommutator 55 = .ok (.iload_n 3, 1) := by decide +kernel
theorem dX10_setCommutator_56 : decode cX10_setCommutator 56 = .ok (.invokestatic 263, 3) := by decide +kernel
theorem dX10_setCommutator_59 : decode cX10_setCommutator 59 = .ok (.invokevirtual 115, 3) := by decide +kernel
theorem dX10_setCommutator_62 : decode cX10_setCommutator 62 = .ok (.aload_n 0, 1) := by decide +kernel
theorem dX10_setCommutator_63 : decode cX10_setCommutator 63 = .ok (.invokevirtual 272, 3) := by decide +kernel
theorem dX10_setCommutator_66 : decode cX10_setCommutator 66 = .ok (.ifCond .eq 11, 3) := by decide +kernel
theorem dX10_setCommutator_69 : decode cX10_setCommutator 69 = .ok (.aload_n 0, 1) := by decide +kernel
theorem dX10_setCommutator_70 : decode cX10_setCommutator 70 = .ok (.iconst 2, 1) := by decide +kernel
theorem dX10_setCommutator_71 : decode cX10_setCommutator 71 = .ok (.invokevirtual 275, 3) := by decide +kernel
theorem dX10_setCommutator_74 : decode cX10_setCommutator 74 = .ok (.goto 8, 3) := by decide +kernel
theorem dX10_setCommutator_77 : decode cX10_setCommutator 77 = .ok (.aload_n 0, 1) := by decide +kernel
theorem dX10_setCommutator_78 : decode cX10_setCommutator 78 = .ok (.iload_n 1, 1) := by decide +kernel
theorem dX10_setCommutator_79 : decode cX10_setCommutator 79 = .ok (.invokevirtual 360, 3) := by decide +kernel
theorem dX10_setCommutator_82 : decode cX10_setCommutator 82 = .ok (.ireturn, 1) := by decide +kernel
theorem dX10_setPower_0 : decode cX10_setPower 0 = .ok (.aload_n 0, 1) := by decide +kernel
theorem dX10_setPower_1 : decode cX10_setPower 1 = .ok (.iconst 0, 1) := by decide +kernel
theorem dX10_setPower_2 : decode cX10_setPower 2 = .ok (.putfield 75, 3) := by decide +kernel
theorem dX10_setPower_5 : decode cX10_setPower 5 = .ok (.iload_n 1, 1) := by decide +kernel
theorem dX10_setPower_6 : decode cX10_setPower 6 = .ok (.iload_n 2, 1) := by decide +kernel
theorem dX10_setPower_7 : decode cX10_setPower 7 = .ok (.invokestatic 295, 3) := by decide +kernel
theorem dX10_setPower_10 : decode cX10_setPower 10 = .ok (.ifCond .ne 9, 3) := by decide +kernel
theorem dX10_setPower_13 : decode cX10_setPower 13 = .ok (.aload_n 0, 1) := by decide +kernel
theorem dX10_setPower_14 : decode cX10_setPower 14 = .ok (.iconst 1, 1) := by decide +kernel
theorem dX10_setPower_15 : decode cX10_setPower 15 = .ok (.invokevirtual 275, 3) := by decide +kernel
theorem dX10_setPower_18 : decode cX10_setPower 18 = .ok (.ireturn, 1) := by decide +kernel
theorem dX10_setPower_19 : decode cX10_setPower 19 = .ok (.iload_n 3, 1) := by decide +kernel
theorem dX10_setPower_20 : decode cX10_setPower 20 = .ok (.bipush (-20), 2) := by decide +kernel
theorem dX10_setPower_22 : decode cX10_setPower 22 = .ok (.if_icmp .lt 9, 3) := by decide +kernel
theorem dX10_setPower_25 : decode cX10_setPower 25 = .ok (.iload_n 3, 1) := by decide +kernel
theorem dX10_setPower_26 : decode cX10_setPower 26 = .ok (.bipush 20, 2) := by decide +kernel
theorem dX10_setPower_28 : decode cX10_setPower 28 = .ok (.if_icmp .le 9, 3) := by decide +kernel
theorem dX10_setPower_31 : decode cX10_setPower 31 = .ok (.aload_n 0, 1) := by decide +kernel
theorem dX10_setPower_32 : decode cX10_setPower 32 = .ok (.iconst 2, 1) := by decide +kernel
theorem dX10_setPower_33 : decode cX10_setPower 33 = .ok (.invokevirtual 275, 3) := by decide +kernel
theorem dX10_setPower_36 : decode cX10_setPower 36 = .ok (.ireturn, 1) := by decide +kernel
theorem dX10_setPower_37 : decode cX10_setPower 37 = .ok (.aload_n 0, 1) := by decide +kernel
theorem dX10_setPower_38 : decode cX10_setPower 38 = .ok (.invokevirtual 112, 3) := by decide +kernel
theorem dX10_setPower_41 : decode cX10_setPower 41 = .ok (.iconst 0, 1) := by decide +kernel
theorem dX10_setPower_42 : decode cX10_setPower 42 = .ok (.istore 4, 2) := by decide +kernel
theorem dX10_setPower_44 : decode cX10_setPower 44 = .ok (.iload 4, 2) := by decide +kernel
theorem dX10_setPower_46 : decode cX10_setPower 46 = .ok (.iload_n 3, 1) := by decide +kernel
theorem dX10_setPower_47 : decode cX10_setPower 47 = .ok (.invokestatic 366, 3) := by decide +kernel
theorem dX10_setPower_50 : decode cX10_setPower 50 = .ok (.if_icmp .ge 32, 3) := by decide +kernel
theorem dX10_setPower_53 : decode cX10_setPower 53 = .ok (.iload_n 3, 1) := by decide +kernel
theorem dX10_setPower_54 : decode cX10_setPower 54 = .ok (.ifCond .le 14, 3) := by decide +kernel
theorem dX10_setPower_57 : decode cX10_setPower 57 = .ok (.aload_n 0, 1) := by decide +kernel
theorem dX10_setPower_58 : decode cX10_setPower 58 = .ok (.iload_n 2, 1) := by decide +kernel
theorem dX10_setPower_59 : decode cX10_setPower 59 = .ok (.invokestatic 263, 3) := by decide +kernel
theorem dX10_setPower_62 : decode cX10_setPower 62 = .ok (.invokevirtual 115, 3) := by decide +kernel
theorem dX10_setPower_65 : decode cX10_setPower 65 = .ok (.goto 11, 3) := by decide +kernel
theorem dX10_setPower_68 : decode cX10_setPower 68 = .ok (.aload_n 0, 1) := by decide +kernel
theorem dX10_setPower_69 : decode cX10_setPower 69 = .ok (.iload_n 2, 1) := by decide +kernel
theorem dX10_setPower_70 : decode cX10_setPower 70 = .ok (.invokestatic 263, 3) := by decide +kernel
theorem dX10_setPower_73 : decode cX10_setPower 73 = .ok (.invokevirtual 363, 3) := by decide +kernel
theorem dX10_setPower_76 : decode cX10_setPower 76 = .ok (.iinc 4 1, 3) := by decide +kernel
theorem dX10_setPower_79 : decode cX10_setPower 79 = .ok (.goto (-35), 3) := by decide +kernel
theorem dX10_setPower_82 : decode cX10_setPower 82 = .ok (.aload_n 0, 1) := by decide +kernel
theorem dX10_setPower_83 : decode cX10_setPower 83 = .ok (.invokevirtual 272, 3) := by decide +kernel
theorem dX10_setPower_86 : decode cX10_setPower 86 = .ok (.ifCond .eq 11, 3) := by decide +kernel
theorem dX10_setPower_89 : decode cX10_setPower 89 = .ok (.aload_n 0, 1) := by decide +kernel
theorem dX10_setPower_90 : decode cX10_setPower 90 = .ok (.iconst 3, 1) := by decide +kernel
theorem dX10_setPower_91 : decode cX10_setPower 91 = .ok (.invokevirtual 275, 3) := by decide +kernel
theorem dX10_setPower_94 : decode cX10_setPower 94 = .ok (.goto 8, 3) := by decide +kernel
theorem dX10_setPower_97 : decode cX10_setPower 97 = .ok (.aload_n 0, 1) := by decide +kernel
theorem dX10_setPower_98 : decode cX10_setPower 98 = .ok (.iload_n 1, 1) := by decide +kernel
theorem dX10_setPower_99 : decode cX10_setPower 99 = .ok (.invokevirtual 360, 3) := by decide +kernel
theorem dX10_setPower_102 : decode cX10_setPower 102 = .ok (.ireturn, 1) := by decide +kernel
theorem dX10_setRoot_0 : decode cX10_setRoot 0 = .ok (.aload_n 0, 1) := by decide +kernel
theorem dX10_setRoot_1 : decode cX10_setRoot 1 = .ok (.iconst 0, 1) := by decide +kernel
theorem dX10_setRoot_2 : decode cX10_setRoot 2 = .ok (.putfield 75, 3) := by decide +kernel
theorem dX10_setRoot_5 : decode cX10_setRoot 5 = .ok (.iload_n 1, 1) := by decide +kernel
theorem dX10_setRoot_6 : decode cX10_setRoot 6 = .ok (.iload_n 2, 1) := by decide +kernel
theorem dX10_setRoot_7 : decode cX10_setRoot 7 = .ok (.invokestatic 295, 3) := by decide +kernel
theorem dX10_setRoot_10 : decode cX10_setRoot 10 = .ok (.ifCond .ne 9, 3) := by decide +kernel
theorem dX10_setRoot_13 : decode cX10_setRoot 13 = .ok (.aload_n 0, 1) := by decide +kernel
theorem dX10_setRoot_14 : decode cX10_setRoot 14 = .ok (.iconst 1, 1) := by decide +kernel
theorem dX10_setRoot_15 : decode cX10_setRoot 15 = .ok (.invokevirtual 275, 3) := by decide +kernel
theorem dX10_setRoot_18 : decode cX10_setRoot 18 = .ok (.ireturn, 1) := by decide +kernel
theorem dX10_setRoot_19 : decode cX10_setRoot 19 = .ok (.iload_n 2, 1) := by decide +kernel
theorem dX10_setRoot_20 : decode cX10_setRoot 20 = .ok (.invokestatic 263, 3) := by decide +kernel
theorem dX10_setRoot_23 : decode cX10_setRoot 23 = .ok (.istore_n 3, 1) := by decide +kernel
theorem dX10_setRoot_24 : decode cX10_setRoot 24 = .ok (.aload_n 0, 1) := by decide +kernel
theorem dX10_setRoot_25 : decode cX10_setRoot 25 = .ok (.iload_n 3, 1) := by decide +kernel
theorem dX10_setRoot_26 : decode cX10_setRoot 26 = .ok (.invokevirtual 94, 3) := by decide +kernel
theorem dX10_setRoot_29 : decode cX10_setRoot 29 = .ok (.ifCond .ne 9, 3) := by decide +kernel
theorem dX10_setRoot_32 : decode cX10_setRoot 32 = .ok (.aload_n 0, 1) := by decide +kernel
theorem dX10_setRoot_33 : decode cX10_setRoot 33 = .ok (.iconst 2, 1) := by decide +kernel
theorem dX10_setRoot_34 : decode cX10_setRoot 34 = .ok (.invokevirtual 275, 3) := by decide +kernel
theorem dX10_setRoot_37 : decode cX10_setRoot 37 = .ok (.ireturn, 1) := by decide +kernel
theorem dX10_setRoot_38 : decode cX10_setRoot 38 = .ok (.aload_n 0, 1) := by decide +kernel
theorem dX10_setRoot_39 : decode cX10_setRoot 39 = .ok (.iload_n 3, 1) := by decide +kernel
theorem dX10_setRoot_40 : decode cX10_setRoot 40 = .ok (.invokevirtual 118, 3) := by decide +kernel
theorem dX10_setRoot_43 : decode cX10_setRoot 43 = .ok (.istore 4, 2) := by decide +kernel
theorem dX10_setRoot_45 : decode cX10_setRoot 45 = .ok (.aload_n 0, 1) := by decide +kernel
theorem dX10_setRoot_46 : decode cX10_setRoot 46 = .ok (.iload_n 3, 1) := by decide +kernel
theorem dX10_setRoot_47 : decode cX10_setRoot 47 = .ok (.invokevirtual 316, 3) := by decide +kernel
theorem dX10_setRoot_50 : decode cX10_setRoot 50 = .ok (.istore 5, 2) := by decide +kernel
theorem dX10_setRoot_52 : decode cX10_setRoot 52 = .ok (.aload_n 0, 1) := by decide +kernel
theorem dX10_setRoot_53 : decode cX10_setRoot 53 = .ok (.invokevirtual 112, 3) := by decide +kernel
theorem dX10_setRoot_56 : decode cX10_setRoot 56 = .ok (.iconst 0, 1) := by decide +kernel
theorem dX10_setRoot_57 : decode cX10_setRoot 57 = .ok (.istore 6, 2) := by decide +kernel
theorem dX10_setRoot_59 : decode cX10_setRoot 59 = .ok (.iload 6, 2) := by decide +kernel
theorem dX10_setRoot_61 : decode cX10_setRoot 61 = .ok (.iload 4, 2) := by decide +kernel
theorem dX10_setRoot_63 : decode cX10_setRoot 63 = .ok (.iload 5, 2) := by decide +kernel
theorem dX10_setRoot_65 : decode cX10_setRoot 65 = .ok (.iadd, 1) := by decide +kernel
theorem dX10_setRoot_66 : decode cX10_setRoot 66 = .ok (.if_icmp .ge 20, 3) := by decide +kernel
theorem dX10_setRoot_69 : decode cX10_setRoot 69 = .ok (.aload_n 0, 1) := by decide +kernel
theorem dX10_setRoot_70 : decode cX10_setRoot 70 = .ok (.aload_n 0, 1) := by decide +kernel
theorem dX10_setRoot_71 : decode cX10_setRoot 71 = .ok (.iload_n 3, 1) := by decide +kernel
theorem dX10_setRoot_72 : decode cX10_setRoot 72 = .ok (.iload 6, 2) := by decide +kernel
theorem dX10_setRoot_74 : decode cX10_setRoot 74 = .ok (.invokevirtual 104, 3) := by decide +kernel
theorem dX10_setRoot_77 : decode cX10_setRoot 77 = .ok (.invokevirtual 108, 3) := by decide +kernel
theorem dX10_setRoot_80 : decode cX10_setRoot 80 = .ok (.iinc 6 1, 3) := by decide +kernel
theorem dX10_setRoot_83 : decode cX10_setRoot 83 = .ok (.goto (-24), 3) := by decide +kernel
theorem dX10_setRoot_86 : decode cX10_setRoot 86 = .ok (.aload_n 0, 1) := by decide +kernel
theorem dX10_setRoot_87 : decode cX10_setRoot 87 = .ok (.iload_n 3, 1) := by decide +kernel
theorem dX10_setRoot_88 : decode cX10_setRoot 88 = .ok (.invokevirtual 94, 3) := by decide +kernel
theorem dX10_setRoot_91 : decode cX10_setRoot 91 = .ok (.iload 4, 2) := by decide +kernel
theorem dX10_setRoot_93 : decode cX10_setRoot 93 = .ok (.isub, 1) := by decide +kernel
theorem dX10_setRoot_94 : decode cX10_setRoot 94 = .ok (.istore 6, 2) := by decide +kernel
theorem dX10_setRoot_96 : decode cX10_setRoot 96 = .ok (.iload 6, 2) := by decide +kernel
theorem dX10_setRoot_98 : decode cX10_setRoot 98 = .ok (.aload_n 0, 1) := by decide +kernel
theorem dX10_setRoot_99 : decode cX10_setRoot 99 = .ok (.iload_n 3, 1) := by decide +kernel
theorem dX10_setRoot_100 : decode cX10_setRoot 100 = .ok (.invokevirtual 94, 3) := by decide +kernel
theorem dX10_setRoot_103 : decode cX10_setRoot 103 = .ok (.if_icmp .ge 20, 3) := by decide +kernel
theorem dX10_setRoot_106 : decode cX10_setRoot 106 = .ok (.aload_n 0, 1) := by decide +kernel
theorem dX10_setRoot_107 : decode cX10_setRoot 107 = .ok (.aload_n 0, 1) := by decide +kernel
theorem dX10_setRoot_108 : decode cX10_setRoot 108 = .ok (.iload_n 3, 1) := by decide +kernel
theorem dX10_setRoot_109 : decode cX10_setRoot 109 = .ok (.iload 6, 2) := by decide +kernel
theorem dX10_setRoot_111 : decode cX10_setRoot 111 = .ok (.invokevirtual 104, 3) := by decide +kernel
theorem dX10_setRoot_114 : decode cX10_setRoot 114 = .ok (.invokevirtual 108, 3) := by decide +kernel
theorem dX10_setRoot_117 : decode cX10_setRoot 117 = .ok (.iinc 6 1, 3) := by decide +kernel
theorem dX10_setRoot_120 : decode cX10_setRoot 120 = .ok (.goto (-24), 3) := by decide +kernel
theorem dX10_setRoot_123 : decode cX10_setRoot 123 = .ok (.aload_n 0, 1) := by decide +kernel
theorem dX10_setRoot_124 : decode cX10_setRoot 124 = .ok (.iload_n 1, 1) := by decide +kernel
theorem dX10_setRoot_125 : decode cX10_setRoot 125 = .ok (.invokevirtual 360, 3) := by decide +kernel
theorem dX10_setRoot_128 : decode cX10_setRoot 128 = .ok (.ireturn, 1) := by decide +kernel
theorem dX10_substitute_0 : decode cX10_substitute 0 = .ok (.aload_n 0, 1) := by decide +kernel
theorem dX10_substitute_1 : decode cX10_substitute 1 = .ok (.iconst 0, 1) := by decide +kernel
theorem dX10_substitute_2 : decode cX10_substitute 2 = .ok (.putfield 75, 3) := by decide +kernel
theorem dX10_substitute_5 : decode cX10_substitute 5 = .ok (.iload_n 1, 1) := by decide +kernel
theorem dX10_substitute_6 : decode cX10_substitute 6 = .ok (.invokestatic 90, 3) := by decide +kernel
theorem dX10_substitute_9 : decode cX10_substitute 9 = .ok (.ifCond .eq 20, 3) := by decide +kernel
theorem dX10_substitute_12 : decode cX10_substitute 12 = .ok (.iload_n 2, 1) := by decide +kernel
theorem dX10_substitute_13 : decode cX10_substitute 13 = .ok (.iload 4, 2) := by decide +kernel
theorem dX10_substitute_15 : decode cX10_substitute 15 = .ok (.invokestatic 295, 3) := by decide +kernel
theorem dX10_substitute_18 : decode cX10_substitute 18 = .ok (.ifCond .eq 11, 3) := by decide +kernel
theorem dX10_substitute_21 : decode cX10_substitute 21 = .ok (.aload_n 0, 1) := by decide +kernel
theorem dX10_substitute_22 : decode cX10_substitute 22 = .ok (.iload_n 3, 1) := by decide +kernel
theorem dX10_substitute_23 : decode cX10_substitute 23 = .ok (.invokevirtual 304, 3) := by decide +kernel
theorem dX10_substitute_26 : decode cX10_substitute 26 = .ok (.ifCond .ne 9, 3) := by decide +kernel
theorem dX10_substitute_29 : decode cX10_substitute 29 = .ok (.aload_n 0, 1) := by decide +kernel
theorem dX10_substitute_30 : decode cX10_substitute 30 = .ok (.iconst 1, 1) := by decide +kernel
theorem dX10_substitute_31 : decode cX10_substitute 31 = .ok (.invokevirtual 275, 3) := by decide +kernel
theorem dX10_substitute_34 : decode cX10_substitute 34 = .ok (.ireturn, 1) := by decide +kernel
theorem dX10_substitute_35 : decode cX10_substitute 35 = .ok (.aload_n 0, 1) := by decide +kernel
theorem dX10_substitute_36 : decode cX10_substitute 36 = .ok (.invokevirtual 112, 3) := by decide +kernel
theorem dX10_substitute_39 : decode cX10_substitute 39 = .ok (.iconst 0, 1) := by decide +kernel
theorem dX10_substitute_40 : decode cX10_substitute 40 = .ok (.istore 5, 2) := by decide +kernel
theorem dX10_substitute_42 : decode cX10_substitute 42 = .ok (.iload 5, 2) := by decide +kernel
theorem dX10_substitute_44 : decode cX10_substitute 44 = .ok (.aload_n 0, 1) := by decide +kernel
theorem dX10_substitute_45 : decode cX10_substitute 45 = .ok (.iload_n 2, 1) := by decide +kernel
theorem dX10_substitute_46 : decode cX10_substitute 46 = .ok (.invokestatic 263, 3) := by decide +kernel
theorem dX10_substitute_49 : decode cX10_substitute 49 = .ok (.invokevirtual 94, 3) := by decide +kernel
theorem dX10_substitute_52 : decode cX10_substitute 52 = .ok (.if_icmp .ge 66, 3) := by decide +kernel
theorem dX10_substitute_55 : decode cX10_substitute 55 = .ok (.aload_n 0, 1) := by decide +kernel
theorem dX10_substitute_56 : decode cX10_substitute 56 = .ok (.iload_n 2, 1) := by decide +kernel
theorem dX10_substitute_57 : decode cX10_substitute 57 = .ok (.invokestatic 263, 3) := by decide +kernel
theorem dX10_substitute_60 : decode cX10_substitute 60 = .ok (.iload 5, 2) := by decide +kernel
theorem dX10_substitute_62 : decode cX10_substitute 62 = .ok (.invokevirtual 104, 3) := by decide +kernel
theorem dX10_substitute_65 : decode cX10_substitute 65 = .ok (.istore 6, 2) := by decide +kernel
theorem dX10_substitute_67 : decode cX10_substitute 67 = .ok (.iload 6, 2) := by decide +kernel
theorem dX10_substitute_69 : decode cX10_substitute 69 = .ok (.iconst 2, 1) := by decide +kernel
theorem dX10_substitute_70 : decode cX10_substitute 70 = .ok (.idiv, 1) := by decide +kernel
theorem dX10_substitute_71 : decode cX10_substitute 71 = .ok (.iload_n 3, 1) := by decide +kernel
theorem dX10_substitute_72 : decode cX10_substitute 72 = .ok (.if_icmp .eq 12, 3) := by decide +kernel
theorem dX10_substitute_75 : decode cX10_substitute 75 = .ok (.aload_n 0, 1) := by decide +kernel
theorem dX10_substitute_76 : decode cX10_substitute 76 = .ok (.iload 6, 2) := by decide +kernel
theorem dX10_substitute_78 : decode cX10_substitute 78 = .ok (.invokevirtual 108, 3) := by decide +kernel
theorem dX10_substitute_81 : decode cX10_substitute 81 = .ok (.goto 31, 3) := by decide +kernel
theorem dX10_substitute_84 : decode cX10_substitute 84 = .ok (.iload 6, 2) := by decide +kernel
theorem dX10_substitute_86 : decode cX10_substitute 86 = .ok (.iconst 2, 1) := by decide +kernel
theorem dX10_substitute_87 : decode cX10_substitute 87 = .ok (.irem, 1) := by decide +kernel
theorem dX10_substitute_88 : decode cX10_substitute 88 = .ok (.ifCond .ne 15, 3) := by decide +kernel
theorem dX10_substitute_91 : decode cX10_substitute 91 = .ok (.aload_n 0, 1) := by decide +kernel
theorem dX10_substitute_92 : decode cX10_substitute 92 = .ok (.iload 4, 2) := by decide +kernel
theorem dX10_substitute_94 : decode cX10_substitute 94 = .ok (.invokestatic 263, 3) := by decide +kernel
theorem dX10_substitute_97 : decode cX10_substitute 97 = .ok (.invokevirtual 115, 3) := by decide +kernel
theorem dX10_substitute_100 : decode cX10_substitute 100 = .ok (.goto 12, 3) := by decide +kernel
theorem dX10_substitute_103 : decode cX10_substitute 103 = .ok (.aload_n 0, 1) := by decide +kernel
theorem dX10_substitute_104 : decode cX10_substitute 104 = .ok (.iload 4, 2) := by decide +kernel
theorem dX10_substitute_106 : decode cX10_substitute 106 = .ok (.invokestatic 263, 3) := by decide +kernel
theorem dX10_substitute_109 : decode cX10_substitute 109 = .ok (.invokevirtual 363, 3) := by decide +kernel
theorem dX10_substitute_112 : decode cX10_substitute 112 = .ok (.iinc 5 1, 3) := by decide +kernel
theorem dX10_substitute_115 : decode cX10_substitute 115 = .ok (.goto (-73), 3) := by decide +kernel
theorem dX10_substitute_118 : decode cX10_substitute 118 = .ok (.aload_n 0, 1) := by decide +kernel
theorem dX10_substitute_119 : decode cX10_substitute 119 = .ok (.invokevirtual 272, 3) := by decide +kernel
theorem dX10_substitute_122 : decode cX10_substitute 122 = .ok (.ifCond .eq 11, 3) := by decide +kernel
theorem dX10_substitute_125 : decode cX10_substitute 125 = .ok (.aload_n 0, 1) := by decide +kernel
theorem dX10_substitute_126 : decode cX10_substitute 126 = .ok (.iconst 2, 1) := by decide +kernel
theorem dX10_substitute_127 : decode cX10_substitute 127 = .ok (.invokevirtual 275, 3) := by decide +kernel
theorem dX10_substitute_130 : decode cX10_substitute 130 = .ok (.goto 8, 3) := by decide +kernel
theorem dX10_substitute_133 : decode cX10_substitute 133 = .ok (.aload_n 0, 1) := by decide +kernel
theorem dX10_substitute_134 : decode cX10_substitute 134 = .ok (.iload_n 1, 1) := by decide +kernel
theorem dX10_substitute_135 : decode cX10_substitute 135 = .ok (.invokevirtual 360, 3) := by decide +kernel
theorem dX10_substitute_138 : decode cX10_substitute 138 = .ok (.ireturn, 1) := by decide +kernel
theorem dX10_appendsWord_0 : decode cX10_appendsWord 0 = .ok (.aload_n 0, 1) := by decide +kernel
theorem dX10_appendsWord_1 : decode cX10_appendsWord 1 = .ok (.iload_n 1, 1) := by decide +kernel
theorem dX10_appendsWord_2 : decode cX10_appendsWord 2 = .ok (.invokestatic 98, 3) := by decide +kernel
theorem dX10_appendsWord_5 : decode cX10_appendsWord 5 = .ok (.invokevirtual 94, 3) := by decide +kernel
theorem dX10_appendsWord_8 : decode cX10_appendsWord 8 = .ok (.istore_n 3, 1) := by decide +kernel
theorem dX10_appendsWord_9 : decode cX10_appendsWord 9 = .ok (.iconst 0, 1) := by decide +kernel
theorem dX10_appendsWord_10 : decode cX10_appendsWord 10 = .ok (.istore 4, 2) := by decide +kernel
theorem dX10_appendsWord_12 : decode cX10_appendsWord 12 = .ok (.iload 4, 2) := by decide +kernel
theorem dX10_appendsWord_14 : decode cX10_appendsWord 14 = .ok (.bipush 61, 2) := by decide +kernel
theorem dX10_appendsWord_16 : decode cX10_appendsWord 16 = .ok (.if_icmp .ge 32, 3) := by decide +kernel
theorem dX10_appendsWord_19 : decode cX10_appendsWord 19 = .ok (.aload_n 0, 1) := by decide +kernel
theorem dX10_appendsWord_20 : decode cX10_appendsWord 20 = .ok (.iload_n 1, 1) := by decide +kernel
theorem dX10_appendsWord_21 : decode cX10_appendsWord 21 = .ok (.iload_n 3, 1) := by decide +kernel
theorem dX10_appendsWord_22 : decode cX10_appendsWord 22 = .ok (.invokestatic 178, 3) := by decide +kernel
theorem dX10_appendsWord_25 : decode cX10_appendsWord 25 = .ok (.iload 4, 2) := by decide +kernel
theorem dX10_appendsWord_27 : decode cX10_appendsWord 27 = .ok (.iadd, 1) := by decide +kernel
theorem dX10_appendsWord_28 : decode cX10_appendsWord 28 = .ok (.aload_n 0, 1) := by decide +kernel
theorem dX10_appendsWord_29 : decode cX10_appendsWord 29 = .ok (.iload_n 2, 1) := by decide +kernel
theorem dX10_appendsWord_30 : decode cX10_appendsWord 30 = .ok (.invokestatic 263, 3) := by decide +kernel
theorem dX10_appendsWord_33 : decode cX10_appendsWord 33 = .ok (.iload 4, 2) := by decide +kernel
theorem dX10_appendsWord_35 : decode cX10_appendsWord 35 = .ok (.iadd, 1) := by decide +kernel
theorem dX10_appendsWord_36 : decode cX10_appendsWord 36 = .ok (.invokevirtual 94, 3) := by decide +kernel
theorem dX10_appendsWord_39 : decode cX10_appendsWord 39 = .ok (.invokevirtual 71, 3) := by decide +kernel
theorem dX10_appendsWord_42 : decode cX10_appendsWord 42 = .ok (.iinc 4 1, 3) := by decide +kernel
theorem dX10_appendsWord_45 : decode cX10_appendsWord 45 = .ok (.goto (-33), 3) := by decide +kernel
theorem dX10_appendsWord_48 : decode cX10_appendsWord 48 = .ok (.aload_n 0, 1) := by decide +kernel
theorem dX10_appendsWord_49 : decode cX10_appendsWord 49 = .ok (.iload_n 1, 1) := by decide +kernel
theorem dX10_appendsWord_50 : decode cX10_appendsWord 50 = .ok (.invokestatic 98, 3) := by decide +kernel
theorem dX10_appendsWord_53 : decode cX10_appendsWord 53 = .ok (.iload_n 3, 1) := by decide +kernel
theorem dX10_appendsWord_54 : decode cX10_appendsWord 54 = .ok (.iconst 1, 1) := by decide +kernel
theorem dX10_appendsWord_55 : decode cX10_appendsWord 55 = .ok (.iadd, 1) := by decide +kernel
theorem dX10_appendsWord_56 : decode cX10_appendsWord 56 = .ok (.invokevirtual 71, 3) := by decide +kernel
theorem dX10_appendsWord_59 : decode cX10_appendsWord 59 = .ok (.return_, 1) := by decide +kernel
theorem dX10_addGeneratingWord_0 : decode cX10_addGeneratingWord 0 = .ok (.aload_n 0, 1) := by decide +kernel
theorem dX10_addGeneratingWord_1 : decode cX10_addGeneratingWord 1 = .ok (.iconst 0, 1) := by decide +kernel
theorem dX10_addGeneratingWord_2 : decode cX10_addGeneratingWord 2 = .ok (.putfield 75, 3) := by decide +kernel
theorem dX10_addGeneratingWord_5 : decode cX10_addGeneratingWord 5 = .ok (.iload_n 1, 1) := by decide +kernel
theorem dX10_addGeneratingWord_6 : decode cX10_addGeneratingWord 6 = .ok (.invokestatic 330, 3) := by decide +kernel
theorem dX10_addGeneratingWord_9 : decode cX10_addGeneratingWord 9 = .ok (.ifCond .eq 10, 3) := by decide +kernel
theorem dX10_addGeneratingWord_12 : decode cX10_addGeneratingWord 12 = .ok (.iload_n 2, 1) := by decide +kernel
theorem dX10_addGeneratingWord_13 : decode cX10_addGeneratingWord 13 = .ok (.invokestatic 90, 3) := by decide +kernel
theorem dX10_addGeneratingWord_16 : decode cX10_addGeneratingWord 16 = .ok (.ifCond .ne 9, 3) := by decide +kernel
theorem dX10_addGeneratingWord_19 : decode cX10_addGeneratingWord 19 = .ok (.aload_n 0, 1) := by decide +kernel
theorem dX10_addGeneratingWord_20 : decode cX10_addGeneratingWord 20 = .ok (.iconst 1, 1) := by decide +kernel
theorem dX10_addGeneratingWord_21 : decode cX10_addGeneratingWord 21 = .ok (.invokevirtual 275, 3) := by decide +kernel
theorem dX10_addGeneratingWord_24 : decode cX10_addGeneratingWord 24 = .ok (.ireturn, 1) := by decide +kernel
theorem dX10_addGeneratingWord_25 : decode cX10_addGeneratingWord 25 = .ok (.aload_n 0, 1) := by decide +kernel
theorem dX10_addGeneratingWord_26 : decode cX10_addGeneratingWord 26 = .ok (.iload_n 1, 1) := by decide +kernel
theorem dX10_addGeneratingWord_27 : decode cX10_addGeneratingWord 27 = .ok (.invokestatic 98, 3) := by decide +kernel
theorem dX10_addGeneratingWord_30 : decode cX10_addGeneratingWord 30 = .ok (.invokevirtual 94, 3) := by decide +kernel
theorem dX10_addGeneratingWord_33 : decode cX10_addGeneratingWord 33 = .ok (.bipush 6, 2) := by decide +kernel
theorem dX10_addGeneratingWord_35 : decode cX10_addGeneratingWord 35 = .ok (.if_icmp .ne 9, 3) := by decide +kernel
theorem dX10_addGeneratingWord_38 : decode cX10_addGeneratingWord 38 = .ok (.aload_n 0, 1) := by decide +kernel
theorem dX10_addGeneratingWord_39 : decode cX10_addGeneratingWord 39 = .ok (.iconst 2, 1) := by decide +kernel
theorem dX10_addGeneratingWord_40 : decode cX10_addGeneratingWord 40 = .ok (.invokevirtual 275, 3) := by decide +kernel
theorem dX10_addGeneratingWord_43 : decode cX10_addGeneratingWord 43 = .ok (.ireturn, 1) := by decide +kernel
theorem dX10_addGeneratingWord_44 : decode cX10_addGeneratingWord 44 = .ok (.aload_n 0, 1) := by decide +kernel
theorem dX10_addGeneratingWord_45 : decode cX10_addGeneratingWord 45 = .ok (.invokevirtual 357, 3) := by decide +kernel
theorem dX10_addGeneratingWord_48 : decode cX10_addGeneratingWord 48 = .ok (.aload_n 0, 1) := by decide +kernel
theorem dX10_addGeneratingWord_49 : decode cX10_addGeneratingWord 49 = .ok (.iload_n 1, 1) := by decide +kernel
theorem dX10_addGeneratingWord_50 : decode cX10_addGeneratingWord 50 = .ok (.iload_n 2, 1) := by decide +kernel
theorem dX10_addGeneratingWord_51 : decode cX10_addGeneratingWord 51 = .ok (.invokevirtual 257, 3) := by decide +kernel
theorem dX10_addGeneratingWord_54 : decode cX10_addGeneratingWord 54 = .ok (.aload_n 0, 1) := by decide +kernel
theorem dX10_addGeneratingWord_55 : decode cX10_addGeneratingWord 55 = .ok (.iload_n 1, 1) := by decide +kernel
theorem dX10_addGeneratingWord_56 : decode cX10_addGeneratingWord 56 = .ok (.invokestatic 98, 3) := by decide +kernel
theorem dX10_addGeneratingWord_59 : decode cX10_addGeneratingWord 59 = .ok (.invokevirtual 94, 3) := by decide +kernel
theorem dX10_addGeneratingWord_62 : decode cX10_addGeneratingWord 62 = .ok (.ireturn, 1) := by decide +kernel
theorem dX10_removeGeneratingWord_0 : decode cX10_removeGeneratingWord 0 = .ok (.aload_n 0, 1) := by decide +kernel
theorem dX10_removeGeneratingWord_1 : decode cX10_removeGeneratingWord 1 = .ok (.iconst 0, 1) := by decide +kernel
theorem dX10_removeGeneratingWord_2 : decode cX10_removeGeneratingWord 2 = .ok (.putfield 75, 3) := by decide +kernel
theorem dX10_removeGeneratingWord_5 : decode cX10_removeGeneratingWord 5 = .ok (.iload_n 1, 1) := by decide +kernel
theorem dX10_removeGeneratingWord_6 : decode cX10_removeGeneratingWord 6 = .ok (.invokestatic 330, 3) := by decide +kernel
theorem dX10_removeGeneratingWord_9 : decode cX10_removeGeneratingWord 9 = .ok (.ifCond .eq 19, 3) := by decide +kernel
theorem dX10_removeGeneratingWord_12 : decode cX10_removeGeneratingWord 12 = .ok (.iload_n 2, 1) := by decide +kernel
theorem dX10_removeGeneratingWord_13 : decode cX10_removeGeneratingWord 13 = .ok (.ifCond .lt 15, 3) := by decide +kernel
theorem dX10_removeGeneratingWord_16 : decode cX10_removeGeneratingWord 16 = .ok (.iload_n 2, 1) := by decide +kernel
theorem dX10_removeGeneratingWord_17 : decode cX10_removeGeneratingWord 17 = .ok (.aload_n 0, 1) := by decide +kernel
theorem dX10_removeGeneratingWord_18 : decode cX10_removeGeneratingWord 18 = .ok (.iload_n 1, 1) := by decide +kernel
theorem dX10_removeGeneratingWord_19 : decode cX10_removeGeneratingWord 19 = .ok (.invokestatic 98, 3) := by decide +kernel
theorem dX10_removeGeneratingWord_22 : decode cX10_removeGeneratingWord 22 = .ok (.invokevirtual 94, 3) := by decide +kernel
theorem dX10_removeGeneratingWord_25 : decode cX10_removeGeneratingWord 25 = .ok (.if_icmp .lt 9, 3) := by decide +kernel
theorem dX10_removeGeneratingWord_28 : decode cX10_removeGeneratingWord 28 = .ok (.aload_n 0, 1) := by decide +kernel
theorem dX10_removeGeneratingWord_29 : decode cX10_removeGeneratingWord 29 = .ok (.iconst 1, 1) := by decide +kernel
theorem dX10_removeGeneratingWord_30 : decode cX10_removeGeneratingWord 30 = .ok (.invokevirtual 275, 3) := by decide +kernel
theorem dX10_removeGeneratingWord_33 : decode cX10_removeGeneratingWord 33 = .ok (.ireturn, 1) := by decide +kernel
theorem dX10_removeGeneratingWord_34 : decode cX10_removeGeneratingWord 34 = .ok (.aload_n 0, 1) := by decide +kernel
theorem dX10_removeGeneratingWord_35 : decode cX10_removeGeneratingWord 35 = .ok (.invokevirtual 357, 3) := by decide +kernel
theorem dX10_removeGeneratingWord_38 : decode cX10_removeGeneratingWord 38 = .ok (.aload_n 0, 1) := by decide +kernel
theorem dX10_removeGeneratingWord_39 : decode cX10_removeGeneratingWord 39 = .ok (.iload_n 1, 1) := by decide +kernel
theorem dX10_removeGeneratingWord_40 : decode cX10_removeGeneratingWord 40 = .ok (.invokestatic 98, 3) := by decide +kernel
theorem dX10_removeGeneratingWord_43 : decode cX10_removeGeneratingWord 43 = .ok (.invokevirtual 94, 3) := by decide +kernel
theorem dX10_removeGeneratingWord_46 : decode cX10_removeGeneratingWord 46 = .ok (.iconst 1, 1) := by decide +kernel
theorem dX10_removeGeneratingWord_47 : decode cX10_removeGeneratingWord 47 = .ok (.isub, 1) := by decide +kernel
theorem dX10_removeGeneratingWord_48 : decode cX10_removeGeneratingWord 48 = .ok (.istore_n 3, 1) := by decide +kernel
theorem dX10_removeGeneratingWord_49 : decode cX10_removeGeneratingWord 49 = .ok (.iload_n 1, 1) := by decide +kernel
theorem dX10_removeGeneratingWord_50 : decode cX10_removeGeneratingWord 50 = .ok (.iload_n 2, 1) := by decide +kernel
theorem dX10_removeGeneratingWord_51 : decode cX10_removeGeneratingWord 51 = .ok (.invokestatic 178, 3) := by decide +kernel
theorem dX10_removeGeneratingWord_54 : decode cX10_removeGeneratingWord 54 = .ok (.istore 4, 2) := by decide +kernel
theorem dX10_removeGeneratingWord_56 : decode cX10_removeGeneratingWord 56 = .ok (.iload 4, 2) := by decide +kernel
theorem dX10_removeGeneratingWord_58 : decode cX10_removeGeneratingWord 58 = .ok (.iload_n 1, 1) := by decide +kernel
theorem dX10_removeGeneratingWord_59 : decode cX10_removeGeneratingWord 59 = .ok (.iload_n 3, 1) := by decide +kernel
theorem dX10_removeGeneratingWord_60 : decode cX10_removeGeneratingWord 60 = .ok (.invokestatic 178, 3) := by decide +kernel
theorem dX10_removeGeneratingWord_63 : decode cX10_removeGeneratingWord 63 = .ok (.if_icmp .ge 24, 3) := by decide +kernel
theorem dX10_removeGeneratingWord_66 : decode cX10_removeGeneratingWord 66 = .ok (.aload_n 0, 1) := by decide +kernel
theorem dX10_removeGeneratingWord_67 : decode cX10_removeGeneratingWord 67 = .ok (.iload 4, 2) := by decide +kernel
theorem dX10_removeGeneratingWord_69 : decode cX10_removeGeneratingWord 69 = .ok (.aload_n 0, 1) := by decide +kernel
theorem dX10_removeGeneratingWord_70 : decode cX10_removeGeneratingWord 70 = .ok (.iload 4, 2) := by decide +kernel
theorem dX10_removeGeneratingWord_72 : decode cX10_removeGeneratingWord 72 = .ok (.bipush 61, 2) := by decide +kernel
theorem dX10_removeGeneratingWord_74 : decode cX10_removeGeneratingWord 74 = .ok (.iadd, 1) := by decide +kernel
theorem dX10_removeGeneratingWord_75 : decode cX10_removeGeneratingWord 75 = .ok (.invokevirtual 94, 3) := by decide +kernel
theorem dX10_removeGeneratingWord_78 : decode cX10_removeGeneratingWord 78 = .ok (.invokevirtual 71, 3) := by decide +kernel
theorem dX10_removeGeneratingWord_81 : decode cX10_removeGeneratingWord 81 = .ok (.iinc 4 1, 3) := by decide +kernel
theorem dX10_removeGeneratingWord_84 : decode cX10_removeGeneratingWord 84 = .ok (.goto (-28), 3) := by decide +kernel
theorem dX10_removeGeneratingWord_87 : decode cX10_removeGeneratingWord 87 = .ok (.aload_n 0, 1) := by decide +kernel
theorem dX10_removeGeneratingWord_88 : decode cX10_removeGeneratingWord 88 = .ok (.iload_n 1, 1) := by decide +kernel
theorem dX10_removeGeneratingWord_89 : decode cX10_removeGeneratingWord 89 = .ok (.invokestatic 98, 3) := by decide +kernel
theorem dX10_removeGeneratingWord_92 : decode cX10_removeGeneratingWord 92 = .ok (.iload_n 3, 1) := by decide +kernel
theorem dX10_removeGeneratingWord_93 : decode cX10_removeGeneratingWord 93 = .ok (.invokevirtual 71, 3) := by decide +kernel
theorem dX10_removeGeneratingWord_96 : decode cX10_removeGeneratingWord 96 = .ok (.iload_n 3, 1) := by decide +kernel
theorem dX10_removeGeneratingWord_97 : decode cX10_removeGeneratingWord 97 = .ok (.ireturn, 1) := by decide +kernel
theorem dX10_undo_0 : decode cX10_undo 0 = .ok (.aload_n 0, 1) := by decide +kernel
theorem dX10_undo_1 : decode cX10_undo 1 = .ok (.iconst 0, 1) := by decide +kernel
theorem dX10_undo_2 : decode cX10_undo 2 = .ok (.putfield 75, 3) := by decide +kernel
theorem dX10_undo_5 : decode cX10_undo 5 = .ok (.aload_n 0, 1) := by decide +kernel
theorem dX10_undo_6 : decode cX10_undo 6 = .ok (.getfield 84, 3) := by decide +kernel
theorem dX10_undo_9 : decode cX10_undo 9 = .ok (.ifCond .ne 9, 3) := by decide +kernel
theorem dX10_undo_12 : decode cX10_undo 12 = .ok (.aload_n 0, 1) := by decide +kernel
theorem dX10_undo_13 : decode cX10_undo 13 = .ok (.iconst 1, 1) := by decide +kernel
theorem dX10_undo_14 : decode cX10_undo 14 = .ok (.invokevirtual 275, 3) := by decide +kernel
theorem dX10_undo_17 : decode cX10_undo 17 = .ok (.ireturn, 1) := by decide +kernel
theorem dX10_undo_18 : decode cX10_undo 18 = .ok (.aload_n 0, 1) := by decide +kernel
theorem dX10_undo_19 : decode cX10_undo 19 = .ok (.dup, 1) := by decide +kernel
theorem dX10_undo_20 : decode cX10_undo 20 = .ok (.getfield 84, 3) := by decide +kernel
theorem dX10_undo_23 : decode cX10_undo 23 = .ok (.iconst 1, 1) := by decide +kernel
theorem dX10_undo_24 : decode cX10_undo 24 = .ok (.isub, 1) := by decide +kernel
theorem dX10_undo_25 : decode cX10_undo 25 = .ok (.putfield 84, 3) := by decide +kernel
theorem dX10_undo_28 : decode cX10_undo 28 = .ok (.aload_n 0, 1) := by decide +kernel
theorem dX10_undo_29 : decode cX10_undo 29 = .ok (.iconst 1, 1) := by decide +kernel
theorem dX10_undo_30 : decode cX10_undo 30 = .ok (.aload_n 0, 1) := by decide +kernel
theorem dX10_undo_31 : decode cX10_undo 31 = .ok (.getfield 81, 3) := by decide +kernel
theorem dX10_undo_34 : decode cX10_undo 34 = .ok (.aload_n 0, 1) := by decide +kernel
theorem dX10_undo_35 : decode cX10_undo 35 = .ok (.getfield 84, 3) := by decide +kernel
theorem dX10_undo_38 : decode cX10_undo 38 = .ok (.iadd, 1) := by decide +kernel
theorem dX10_undo_39 : decode cX10_undo 39 = .ok (.bipush 8, 2) := by decide +kernel
theorem dX10_undo_41 : decode cX10_undo 41 = .ok (.irem, 1) := by decide +kernel
theorem dX10_undo_42 : decode cX10_undo 42 = .ok (.iadd, 1) := by decide +kernel
theorem dX10_undo_43 : decode cX10_undo 43 = .ok (.iconst 0, 1) := by decide +kernel
theorem dX10_undo_44 : decode cX10_undo 44 = .ok (.invokevirtual 87, 3) := by decide +kernel
theorem dX10_undo_47 : decode cX10_undo 47 = .ok (.aload_n 0, 1) := by decide +kernel
theorem dX10_undo_48 : decode cX10_undo 48 = .ok (.getfield 84, 3) := by decide +kernel
theorem dX10_undo_51 : decode cX10_undo 51 = .ok (.ireturn, 1) := by decide +kernel
theorem dX10_allLetters_0 : decode cX10_allLetters 0 = .ok (.iconst 0, 1) := by decide +kernel
theorem dX10_allLetters_1 : decode cX10_allLetters 1 = .ok (.istore_n 1, 1) := by decide +kernel
theorem dX10_allLetters_2 : decode cX10_allLetters 2 = .ok (.iconst 0, 1) := by decide +kernel
theorem dX10_allLetters_3 : decode cX10_allLetters 3 = .ok (.istore_n 2, 1) := by decide +kernel
theorem dX10_allLetters_4 : decode cX10_allLetters 4 = .ok (.iload_n 2, 1) := by decide +kernel
theorem dX10_allLetters_5 : decode cX10_allLetters 5 = .ok (.bipush 8, 2) := by decide +kernel
theorem dX10_allLetters_7 : decode cX10_allLetters 7 = .ok (.if_icmp .ge 20, 3) := by decide +kernel
theorem dX10_allLetters_10 : decode cX10_allLetters 10 = .ok (.iload_n 1, 1) := by decide +kernel
theorem dX10_allLetters_11 : decode cX10_allLetters 11 = .ok (.aload_n 0, 1) := by decide +kernel
theorem dX10_allLetters_12 : decode cX10_allLetters 12 = .ok (.iload_n 2, 1) := by decide +kernel
theorem dX10_allLetters_13 : decode cX10_allLetters 13 = .ok (.invokestatic 263, 3) := by decide +kernel
theorem dX10_allLetters_16 : decode cX10_allLetters 16 = .ok (.invokevirtual 94, 3) := by decide +kernel
theorem dX10_allLetters_19 : decode cX10_allLetters 19 = .ok (.iadd, 1) := by decide +kernel
theorem dX10_allLetters_20 : decode cX10_allLetters 20 = .ok (.istore_n 1, 1) := by decide +kernel
theorem dX10_allLetters_21 : decode cX10_allLetters 21 = .ok (.iinc 2 1, 3) := by decide +kernel
theorem dX10_allLetters_24 : decode cX10_allLetters 24 = .ok (.goto (-20), 3) := by decide +kernel
theorem dX10_allLetters_27 : decode cX10_allLetters 27 = .ok (.iload_n 1, 1) := by decide +kernel
theorem dX10_allLetters_28 : decode cX10_allLetters 28 = .ok (.ireturn, 1) := by decide +kernel
theorem dX10_save_0 : decode cX10_save 0 = .ok (.aload_n 0, 1) := by decide +kernel
theorem dX10_save_1 : decode cX10_save 1 = .ok (.iconst 0, 1) := by decide +kernel
theorem dX10_save_2 : decode cX10_save 2 = .ok (.putfield 75, 3) := by decide +kernel
theorem dX10_save_5 : decode cX10_save 5 = .ok (.aload_n 0, 1) := by decide +kernel
theorem dX10_save_6 : decode cX10_save 6 = .ok (.iconst 0, 1) := by decide +kernel
theorem dX10_save_7 : decode cX10_save 7 = .ok (.bipush 9, 2) := by decide +kernel
theorem dX10_save_9 : decode cX10_save 9 = .ok (.invokevirtual 87, 3) := by decide +kernel
theorem dX10_save_12 : decode cX10_save 12 = .ok (.aload_n 0, 1) := by decide +kernel
theorem dX10_save_13 : decode cX10_save 13 = .ok (.iconst 1, 1) := by decide +kernel
theorem dX10_save_14 : decode cX10_save 14 = .ok (.putfield 287, 3) := by decide +kernel
theorem dX10_save_17 : decode cX10_save 17 = .ok (.aload_n 0, 1) := by decide +kernel
theorem dX10_save_18 : decode cX10_save 18 = .ok (.invokevirtual 368, 3) := by decide +kernel
theorem dX10_save_21 : decode cX10_save 21 = .ok (.ireturn, 1) := by decide +kernel
theorem dX10_restore_0 : decode cX10_restore 0 = .ok (.aload_n 0, 1) := by decide +kernel
theorem dX10_restore_1 : decode cX10_restore 1 = .ok (.iconst 0, 1) := by decide +kernel
theorem dX10_restore_2 : decode cX10_restore 2 = .ok (.putfield 75, 3) := by decide +kernel
theorem dX10_restore_5 : decode cX10_restore 5 = .ok (.aload_n 0, 1) := by decide +kernel
theorem dX10_restore_6 : decode cX10_restore 6 = .ok (.getfield 287, 3) := by decide +kernel
theorem dX10_restore_9 : decode cX10_restore 9 = .ok (.ifCond .ne 9, 3) := by decide +kernel
theorem dX10_restore_12 : decode cX10_restore 12 = .ok (.aload_n 0, 1) := by decide +kernel
theorem dX10_restore_13 : decode cX10_restore 13 = .ok (.iconst 1, 1) := by decide +kernel
theorem dX10_restore_14 : decode cX10_restore 14 = .ok (.invokevirtual 275, 3) := by decide +kernel
theorem dX10_restore_17 : decode cX10_restore 17 = .ok (.ireturn, 1) := by decide +kernel
theorem dX10_restore_18 : decode cX10_restore 18 = .ok (.aload_n 0, 1) := by decide +kernel
theorem dX10_restore_19 : decode cX10_restore 19 = .ok (.invokevirtual 357, 3) := by decide +kernel
theorem dX10_restore_22 : decode cX10_restore 22 = .ok (.aload_n 0, 1) := by decide +kernel
theorem dX10_restore_23 : decode cX10_restore 23 = .ok (.bipush 9, 2) := by decide +kernel
theorem dX10_restore_25 : decode cX10_restore 25 = .ok (.iconst 0, 1) := by decide +kernel
theorem dX10_restore_26 : decode cX10_restore 26 = .ok (.invokevirtual 87, 3) := by decide +kernel
theorem dX10_restore_29 : decode cX10_restore 29 = .ok (.aload_n 0, 1) := by decide +kernel
theorem dX10_restore_30 : decode cX10_restore 30 = .ok (.invokevirtual 368, 3) := by decide +kernel
theorem dX10_restore_33 : decode cX10_restore 33 = .ok (.ireturn, 1) := by decide +kernel
theorem dX10_writes_0 : decode cX10_writes 0 = .ok (.aload_n 0, 1) := by decide +kernel
theorem dX10_writes_1 : decode cX10_writes 1 = .ok (.getfield 17, 3) := by decide +kernel
theorem dX10_writes_4 : decode cX10_writes 4 = .ok (.aload_n 0, 1) := by decide +kernel
theorem dX10_writes_5 : decode cX10_writes 5 = .ok (.getfield 371, 3) := by decide +kernel
theorem dX10_writes_8 : decode cX10_writes 8 = .ok (.iload_n 1, 1) := by decide +kernel
theorem dX10_writes_9 : decode cX10_writes 9 = .ok (.i2c, 1) := by decide +kernel
theorem dX10_writes_10 : decode cX10_writes 10 = .ok (.castore, 1) := by decide +kernel
theorem dX10_writes_11 : decode cX10_writes 11 = .ok (.aload_n 0, 1) := by decide +kernel
theorem dX10_writes_12 : decode cX10_writes 12 = .ok (.dup, 1) := by decide +kernel
theorem dX10_writes_13 : decode cX10_writes 13 = .ok (.getfield 371, 3) := by decide +kernel
theorem dX10_writes_16 : decode cX10_writes 16 = .ok (.iconst 1, 1) := by decide +kernel
theorem dX10_writes_17 : decode cX10_writes 17 = .ok (.iadd, 1) := by decide +kernel
theorem dX10_writes_18 : decode cX10_writes 18 = .ok (.putfield 371, 3) := by decide +kernel
theorem dX10_writes_21 : decode cX10_writes 21 = .ok (.return_, 1) := by decide +kernel
theorem dX10_writesNumber_0 : decode cX10_writesNumber 0 = .ok (.iload_n 1, 1) := by decide +kernel
theorem dX10_writesNumber_1 : decode cX10_writesNumber 1 = .ok (.bipush 10, 2) := by decide +kernel
theorem dX10_writesNumber_3 : decode cX10_writesNumber 3 = .ok (.if_icmp .lt 14, 3) := by decide +kernel
theorem dX10_writesNumber_6 : decode cX10_writesNumber 6 = .ok (.aload_n 0, 1) := by decide +kernel
theorem dX10_writesNumber_7 : decode cX10_writesNumber 7 = .ok (.bipush 48, 2) := by decide +kernel
theorem dX10_writesNumber_9 : decode cX10_writesNumber 9 = .ok (.iload_n 1, 1) := by decide +kernel
theorem dX10_writesNumber_10 : decode cX10_writesNumber 10 = .ok (.bipush 10, 2) := by decide +kernel
theorem dX10_writesNumber_12 : decode cX10_writesNumber 12 = .ok (.idiv, 1) := by decide +kernel
theorem dX10_writesNumber_13 : decode cX10_writesNumber 13 = .ok (.iadd, 1) := by decide +kernel
theorem dX10_writesNumber_14 : decode cX10_writesNumber 14 = .ok (.invokevirtual 374, 3) := by decide +kernel
theorem dX10_writesNumber_17 : decode cX10_writesNumber 17 = .ok (.aload_n 0, 1) := by decide +kernel
theorem dX10_writesNumber_18 : decode cX10_writesNumber 18 = .ok (.bipush 48, 2) := by decide +kernel
theorem dX10_writesNumber_20 : decode cX10_writesNumber 20 = .ok (.iload_n 1, 1) := by decide +kernel
theorem dX10_writesNumber_21 : decode cX10_writesNumber 21 = .ok (.bipush 10, 2) := by decide +kernel
theorem dX10_writesNumber_23 : decode cX10_writesNumber 23 = .ok (.irem, 1) := by decide +kernel
theorem dX10_writesNumber_24 : decode cX10_writesNumber 24 = .ok (.iadd, 1) := by decide +kernel
theorem dX10_writesNumber_25 : decode cX10_writesNumber 25 = .ok (.invokevirtual 374, 3) := by decide +kernel
theorem dX10_writesNumber_28 : decode cX10_writesNumber 28 = .ok (.return_, 1) := by decide +kernel
theorem dX10_formatWord_0 : decode cX10_formatWord 0 = .ok (.aload_n 0, 1) := by decide +kernel
theorem dX10_formatWord_1 : decode cX10_formatWord 1 = .ok (.iconst 0, 1) := by decide +kernel
theorem dX10_formatWord_2 : decode cX10_formatWord 2 = .ok (.putfield 75, 3) := by decide +kernel
theorem dX10_formatWord_5 : decode cX10_formatWord 5 = .ok (.iload_n 1, 1) := by decide +kernel
theorem dX10_formatWord_6 : decode cX10_formatWord 6 = .ok (.invokestatic 90, 3) := by decide +kernel
theorem dX10_formatWord_9 : decode cX10_formatWord 9 = .ok (.ifCond .ne 9, 3) := by decide +kernel
theorem dX10_formatWord_12 : decode cX10_formatWord 12 = .ok (.aload_n 0, 1) := by decide +kernel
theorem dX10_formatWord_13 : decode cX10_formatWord 13 = .ok (.iconst 1, 1) := by decide +kernel
theorem dX10_formatWord_14 : decode cX10_formatWord 14 = .ok (.invokevirtual 275, 3) := by decide +kernel
theorem dX10_formatWord_17 : decode cX10_formatWord 17 = .ok (.ireturn, 1) := by decide +kernel
theorem dX10_formatWord_18 : decode cX10_formatWord 18 = .ok (.iload_n 1, 1) := by decide +kernel
theorem dX10_formatWord_19 : decode cX10_formatWord 19 = .ok (.invokestatic 263, 3) := by decide +kernel
theorem dX10_formatWord_22 : decode cX10_formatWord 22 = .ok (.istore_n 2, 1) := by decide +kernel
theorem dX10_formatWord_23 : decode cX10_formatWord 23 = .ok (.aload_n 0, 1) := by decide +kernel
theorem dX10_formatWord_24 : decode cX10_formatWord 24 = .ok (.iconst 0, 1) := by decide +kernel
theorem dX10_formatWord_25 : decode cX10_formatWord 25 = .ok (.putfield 371, 3) := by decide +kernel
theorem dX10_formatWord_28 : decode cX10_formatWord 28 = .ok (.iconst 0, 1) := by decide +kernel
theorem dX10_formatWord_29 : decode cX10_formatWord 29 = .ok (.istore_n 3, 1) := by decide +kernel
theorem dX10_formatWord_30 : decode cX10_formatWord 30 = .ok (.iload_n 3, 1) := by decide +kernel
theorem dX10_formatWord_31 : decode cX10_formatWord 31 = .ok (.aload_n 0, 1) := by decide +kernel
theorem dX10_formatWord_32 : decode cX10_formatWord 32 = .ok (.iload_n 2, 1) := by decide +kernel
theorem dX10_formatWord_33 : decode cX10_formatWord 33 = .ok (.invokevirtual 94, 3) := by decide +kernel
theorem dX10_formatWord_36 : decode cX10_formatWord 36 = .ok (.if_icmp .ge 91, 3) := by decide +kernel
theorem dX10_formatWord_39 : decode cX10_formatWord 39 = .ok (.aload_n 0, 1) := by decide +kernel
theorem dX10_formatWord_40 : decode cX10_formatWord 40 = .ok (.iload_n 2, 1) := by decide +kernel
theorem dX10_formatWord_41 : decode cX10_formatWord 41 = .ok (.iload_n 3, 1) := by decide +kernel
theorem dX10_formatWord_42 : decode cX10_formatWord 42 = .ok (.invokevirtual 104, 3) := by decide +kernel
theorem dX10_formatWord_45 : decode cX10_formatWord 45 = .ok (.istore 4, 2) := by decide +kernel
theorem dX10_formatWord_47 : decode cX10_formatWord 47 = .ok (.iconst 0, 1) := by decide +kernel
theorem dX10_formatWord_48 : decode cX10_formatWord 48 = .ok (.istore 5, 2) := by decide +kernel
theorem dX10_formatWord_50 : decode cX10_formatWord 50 = .ok (.iload_n 3, 1) := by decide +kernel
theorem dX10_formatWord_51 : decode cX10_formatWord 51 = .ok (.aload_n 0, 1) := by decide +kernel
theorem dX10_formatWord_52 : decode cX10_formatWord 52 = .ok (.iload_n 2, 1) := by decide +kernel
theorem dX10_formatWord_53 : decode cX10_formatWord 53 = .ok (.invokevirtual 94, 3) := by decide +kernel
theorem dX10_formatWord_56 : decode cX10_formatWord 56 = .ok (.if_icmp .ge 23, 3) := by decide +kernel
theorem dX10_formatWord_59 : decode cX10_formatWord 59 = .ok (.aload_n 0, 1) := by decide +kernel
theorem dX10_formatWord_60 : decode cX10_formatWord 60 = .ok (.iload_n 2, 1) := by decide +kernel
theorem dX10_formatWord_61 : decode cX10_formatWord 61 = .ok (.iload_n 3, 1) := by decide +kernel
theorem dX10_formatWord_62 : decode cX10_formatWord 62 = .ok (.invokevirtual 104, 3) := by decide +kernel
theorem dX10_formatWord_65 : decode cX10_formatWord 65 = .ok (.iload 4, 2) := by decide +kernel
theorem dX10_formatWord_67 : decode cX10_formatWord 67 = .ok (.if_icmp .ne 12, 3) := by decide +kernel
theorem dX10_formatWord_70 : decode cX10_formatWord 70 = .ok (.iinc 5 1, 3) := by decide +kernel
theorem dX10_formatWord_73 : decode cX10_formatWord 73 = .ok (.iinc 3 1, 3) := by decide +kernel
theorem dX10_formatWord_76 : decode cX10_formatWord 76 = .ok (.goto (-26), 3) := by decide +kernel
theorem dX10_formatWord_79 : decode cX10_formatWord 79 = .ok (.aload_n 0, 1) := by decide +kernel
theorem dX10_formatWord_80 : decode cX10_formatWord 80 = .ok (.bipush 97, 2) := by decide +kernel
theorem dX10_formatWord_82 : decode cX10_formatWord 82 = .ok (.iload 4, 2) := by decide +kernel
theorem dX10_formatWord_84 : decode cX10_formatWord 84 = .ok (.iconst 2, 1) := by decide +kernel
theorem dX10_formatWord_85 : decode cX10_formatWord 85 = .ok (.idiv, 1) := by decide +kernel
theorem dX10_formatWord_86 : decode cX10_formatWord 86 = .ok (.iadd, 1) := by decide +kernel
theorem dX10_formatWord_87 : decode cX10_formatWord 87 = .ok (.invokevirtual 374, 3) := by decide +kernel
theorem dX10_formatWord_90 : decode cX10_formatWord 90 = .ok (.iload 4, 2) := by decide +kernel
theorem dX10_formatWord_92 : decode cX10_formatWord 92 = .ok (.iconst 2, 1) := by decide +kernel
theorem dX10_formatWord_93 : decode cX10_formatWord 93 = .ok (.irem, 1) := by decide +kernel
theorem dX10_formatWord_94 : decode cX10_formatWord 94 = .ok (.iconst 1, 1) := by decide +kernel
theorem dX10_formatWord_95 : decode cX10_formatWord 95 = .ok (.if_icmp .ne 9, 3) := by decide +kernel
theorem dX10_formatWord_98 : decode cX10_formatWord 98 = .ok (.aload_n 0, 1) := by decide +kernel
theorem dX10_formatWord_99 : decode cX10_formatWord 99 = .ok (.bipush 45, 2) := by decide +kernel
theorem dX10_formatWord_101 : decode cX10_formatWord 101 = .ok (.invokevirtual 374, 3) := by decide +kernel
theorem dX10_formatWord_104 : decode cX10_formatWord 104 = .ok (.iload 5, 2) := by decide +kernel
theorem dX10_formatWord_106 : decode cX10_formatWord 106 = .ok (.iconst 1, 1) := by decide +kernel
theorem dX10_formatWord_107 : decode cX10_formatWord 107 = .ok (.if_icmp .gt 11, 3) := by decide +kernel
theorem dX10_formatWord_110 : decode cX10_formatWord 110 = .ok (.iload 4, 2) := by decide +kernel
theorem dX10_formatWord_112 : decode cX10_formatWord 112 = .ok (.iconst 2, 1) := by decide +kernel
theorem dX10_formatWord_113 : decode cX10_formatWord 113 = .ok (.irem, 1) := by decide +kernel
theorem dX10_formatWord_114 : decode cX10_formatWord 114 = .ok (.iconst 1, 1) := by decide +kernel
theorem dX10_formatWord_115 : decode cX10_formatWord 115 = .ok (.if_icmp .ne 9, 3) := by decide +kernel
theorem dX10_formatWord_118 : decode cX10_formatWord 118 = .ok (.aload_n 0, 1) := by decide +kernel
theorem dX10_formatWord_119 : decode cX10_formatWord 119 = .ok (.iload 5, 2) := by decide +kernel
theorem dX10_formatWord_121 : decode cX10_formatWord 121 = .ok (.invokevirtual 377, 3) := by decide +kernel
theorem dX10_formatWord_124 : decode cX10_formatWord 124 = .ok (.goto (-94), 3) := by decide +kernel
theorem dX10_formatWord_127 : decode cX10_formatWord 127 = .ok (.aload_n 0, 1) := by decide +kernel
theorem dX10_formatWord_128 : decode cX10_formatWord 128 = .ok (.getfield 371, 3) := by decide +kernel
theorem dX10_formatWord_131 : decode cX10_formatWord 131 = .ok (.ifCond .ne 9, 3) := by decide +kernel
theorem dX10_formatWord_134 : decode cX10_formatWord 134 = .ok (.aload_n 0, 1) := by decide +kernel
theorem dX10_formatWord_135 : decode cX10_formatWord 135 = .ok (.bipush 49, 2) := by decide +kernel
theorem dX10_formatWord_137 : decode cX10_formatWord 137 = .ok (.invokevirtual 374, 3) := by decide +kernel
theorem dX10_formatWord_140 : decode cX10_formatWord 140 = .ok (.aload_n 0, 1) := by decide +kernel
theorem dX10_formatWord_141 : decode cX10_formatWord 141 = .ok (.getfield 371, 3) := by decide +kernel
theorem dX10_formatWord_144 : decode cX10_formatWord 144 = .ok (.ireturn, 1) := by decide +kernel
theorem dX10_pushesRepresentative_0 : decode cX10_pushesRepresentative 0 = .ok (.iconst 1, 1) := by decide +kernel
theorem dX10_pushesRepresentative_1 : decode cX10_pushesRepresentative 1 = .ok (.istore_n 3, 1) := by decide +kernel
theorem dX10_pushesRepresentative_2 : decode cX10_pushesRepresentative 2 = .ok (.iload_n 3, 1) := by decide +kernel
theorem dX10_pushesRepresentative_3 : decode cX10_pushesRepresentative 3 = .ok (.aload_n 0, 1) := by decide +kernel
theorem dX10_pushesRepresentative_4 : decode cX10_pushesRepresentative 4 = .ok (.iload_n 1, 1) := by decide +kernel
theorem dX10_pushesRepresentative_5 : decode cX10_pushesRepresentative 5 = .ok (.iload_n 2, 1) := by decide +kernel
theorem dX10_pushesRepresentative_6 : decode cX10_pushesRepresentative 6 = .ok (.invokevirtual 354, 3) := by decide +kernel
theorem dX10_pushesRepresentative_9 : decode cX10_pushesRepresentative 9 = .ok (.if_icmp .gt 64, 3) := by decide +kernel
theorem dX10_pushesRepresentative_12 : decode cX10_pushesRepresentative 12 = .ok (.iload_n 2, 1) := by decide +kernel
theorem dX10_pushesRepresentative_13 : decode cX10_pushesRepresentative 13 = .ok (.istore 4, 2) := by decide +kernel
theorem dX10_pushesRepresentative_15 : decode cX10_pushesRepresentative 15 = .ok (.aload_n 0, 1) := by decide +kernel
theorem dX10_pushesRepresentative_16 : decode cX10_pushesRepresentative 16 = .ok (.iload_n 1, 1) := by decide +kernel
theorem dX10_pushesRepresentative_17 : decode cX10_pushesRepresentative 17 = .ok (.iload_n 2, 1) := by decide +kernel
theorem dX10_pushesRepresentative_18 : decode cX10_pushesRepresentative 18 = .ok (.invokevirtual 354, 3) := by decide +kernel
theorem dX10_pushesRepresentative_21 : decode cX10_pushesRepresentative 21 = .ok (.istore 5, 2) := by decide +kernel
theorem dX10_pushesRepresentative_23 : decode cX10_pushesRepresentative 23 = .ok (.iload 5, 2) := by decide +kernel
theorem dX10_pushesRepresentative_25 : decode cX10_pushesRepresentative 25 = .ok (.iload_n 3, 1) := by decide +kernel
theorem dX10_pushesRepresentative_26 : decode cX10_pushesRepresentative 26 = .ok (.if_icmp .le 24, 3) := by decide +kernel
theorem dX10_pushesRepresentative_29 : decode cX10_pushesRepresentative 29 = .ok (.aload_n 0, 1) := by decide +kernel
theorem dX10_pushesRepresentative_30 : decode cX10_pushesRepresentative 30 = .ok (.getfield 47, 3) := by decide +kernel
theorem dX10_pushesRepresentative_33 : decode cX10_pushesRepresentative 33 = .ok (.sipush 361, 3) := by decide +kernel
theorem dX10_pushesRepresentative_36 : decode cX10_pushesRepresentative 36 = .ok (.iload_n 1, 1) := by decide +kernel
theorem dX10_pushesRepresentative_37 : decode cX10_pushesRepresentative 37 = .ok (.imul, 1) := by decide +kernel
theorem dX10_pushesRepresentative_38 : decode cX10_pushesRepresentative 38 = .ok (.iload 4, 2) := by decide +kernel
theorem dX10_pushesRepresentative_40 : decode cX10_pushesRepresentative 40 = .ok (.iadd, 1) := by decide +kernel
theorem dX10_pushesRepresentative_41 : decode cX10_pushesRepresentative 41 = .ok (.iaload, 1) := by decide +kernel
theorem dX10_pushesRepresentative_42 : decode cX10_pushesRepresentative 42 = .ok (.istore 4, 2) := by decide +kernel
theorem dX10_pushesRepresentative_44 : decode cX10_pushesRepresentative 44 = .ok (.iinc 5 (-1), 3) := by decide +kernel
theorem dX10_pushesRepresentative_47 : decode cX10_pushesRepresentative 47 = .ok (.goto (-24), 3) := by decide +kernel
theorem dX10_pushesRepresentative_50 : decode cX10_pushesRepresentative 50 = .ok (.aload_n 0, 1) := by decide +kernel
theorem dX10_pushesRepresentative_51 : decode cX10_pushesRepresentative 51 = .ok (.aload_n 0, 1) := by decide +kernel
theorem dX10_pushesRepresentative_52 : decode cX10_pushesRepresentative 52 = .ok (.getfield 50, 3) := by decide +kernel
theorem dX10_pushesRepresentative_55 : decode cX10_pushesRepresentative 55 = .ok (.sipush 361, 3) := by decide +kernel
theorem dX10_pushesRepresentative_58 : decode cX10_pushesRepresentative 58 = .ok (.iload_n 1, 1) := by decide +kernel
theorem dX10_pushesRepresentative_59 : decode cX10_pushesRepresentative 59 = .ok (.imul, 1) := by decide +kernel
theorem dX10_pushesRepresentative_60 : decode cX10_pushesRepresentative 60 = .ok (.iload 4, 2) := by decide +kernel
theorem dX10_pushesRepresentative_62 : decode cX10_pushesRepresentative 62 = .ok (.iadd, 1) := by decide +kernel
theorem dX10_pushesRepresentative_63 : decode cX10_pushesRepresentative 63 = .ok (.iaload, 1) := by decide +kernel
theorem dX10_pushesRepresentative_64 : decode cX10_pushesRepresentative 64 = .ok (.invokevirtual 108, 3) := by decide +kernel
theorem dX10_pushesRepresentative_67 : decode cX10_pushesRepresentative 67 = .ok (.iinc 3 1, 3) := by decide +kernel
theorem dX10_pushesRepresentative_70 : decode cX10_pushesRepresentative 70 = .ok (.goto (-68), 3) := by decide +kernel
theorem dX10_pushesRepresentative_73 : decode cX10_pushesRepresentative 73 = .ok (.return_, 1) := by decide +kernel
