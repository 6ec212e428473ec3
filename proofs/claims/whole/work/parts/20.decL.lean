/-! rows that decode -/
theorem dL_append_0 : decode cL_append 0 = .ok (.aload 6, 2) := by decide +kernel
theorem dL_append_2 : decode cL_append 2 = .ok (.iconst 0, 1) := by decide +kernel
theorem dL_append_3 : decode cL_append 3 = .ok (.aload_n 0, 1) := by decide +kernel
theorem dL_append_4 : decode cL_append 4 = .ok (.iload_n 1, 1) := by decide +kernel
theorem dL_append_5 : decode cL_append 5 = .ok (.iload_n 2, 1) := by decide +kernel
theorem dL_append_6 : decode cL_append 6 = .ok (.iload_n 3, 1) := by decide +kernel
theorem dL_append_7 : decode cL_append 7 = .ok (.iload 4, 2) := by decide +kernel
theorem dL_append_9 : decode cL_append 9 = .ok (.iload 5, 2) := by decide +kernel
theorem dL_append_11 : decode cL_append 11 = .ok (.invokevirtual 7, 3) := by decide +kernel
theorem dL_append_14 : decode cL_append 14 = .ok (.i2l, 1) := by decide +kernel
theorem dL_append_15 : decode cL_append 15 = .ok (.lastore, 1) := by decide +kernel
theorem dL_append_16 : decode cL_append 16 = .ok (.goto 7, 3) := by decide +kernel
theorem dL_append_19 : decode cL_append 19 = .ok (.astore 7, 2) := by decide +kernel
theorem dL_append_21 : decode cL_append 21 = .ok (.iconst 1, 1) := by decide +kernel
theorem dL_append_22 : decode cL_append 22 = .ok (.ireturn, 1) := by decide +kernel
theorem dL_append_23 : decode cL_append 23 = .ok (.iconst 0, 1) := by decide +kernel
theorem dL_append_24 : decode cL_append 24 = .ok (.ireturn, 1) := by decide +kernel
theorem dL_truncate_0 : decode cL_truncate 0 = .ok (.aload_n 0, 1) := by decide +kernel
theorem dL_truncate_1 : decode cL_truncate 1 = .ok (.iload_n 1, 1) := by decide +kernel
theorem dL_truncate_2 : decode cL_truncate 2 = .ok (.invokevirtual 15, 3) := by decide +kernel
theorem dL_truncate_5 : decode cL_truncate 5 = .ok (.goto 6, 3) := by decide +kernel
theorem dL_truncate_8 : decode cL_truncate 8 = .ok (.astore_n 2, 1) := by decide +kernel
theorem dL_truncate_9 : decode cL_truncate 9 = .ok (.iconst 1, 1) := by decide +kernel
theorem dL_truncate_10 : decode cL_truncate 10 = .ok (.ireturn, 1) := by decide +kernel
theorem dL_truncate_11 : decode cL_truncate 11 = .ok (.iconst 0, 1) := by decide +kernel
theorem dL_truncate_12 : decode cL_truncate 12 = .ok (.ireturn, 1) := by decide +kernel
theorem dL_load_0 : decode cL_load 0 = .ok (.aload_n 1, 1) := by decide +kernel
theorem dL_load_1 : decode cL_load 1 = .ok (.iconst 0, 1) := by decide +kernel
theorem dL_load_2 : decode cL_load 2 = .ok (.aload_n 0, 1) := by decide +kernel
theorem dL_load_3 : decode cL_load 3 = .ok (.invokevirtual 21, 3) := by decide +kernel
theorem dL_load_6 : decode cL_load 6 = .ok (.i2l, 1) := by decide +kernel
theorem dL_load_7 : decode cL_load 7 = .ok (.lastore, 1) := by decide +kernel
theorem dL_load_8 : decode cL_load 8 = .ok (.goto 6, 3) := by decide +kernel
theorem dL_load_11 : decode cL_load 11 = .ok (.astore_n 2, 1) := by decide +kernel
theorem dL_load_12 : decode cL_load 12 = .ok (.iconst 1, 1) := by decide +kernel
theorem dL_load_13 : decode cL_load 13 = .ok (.ireturn, 1) := by decide +kernel
theorem dL_load_14 : decode cL_load 14 = .ok (.iconst 0, 1) := by decide +kernel
theorem dL_load_15 : decode cL_load 15 = .ok (.ireturn, 1) := by decide +kernel
theorem dL_wordLength_0 : decode cL_wordLength 0 = .ok (.aload_n 2, 1) := by decide +kernel
theorem dL_wordLength_1 : decode cL_wordLength 1 = .ok (.iconst 0, 1) := by decide +kernel
theorem dL_wordLength_2 : decode cL_wordLength 2 = .ok (.aload_n 0, 1) := by decide +kernel
theorem dL_wordLength_3 : decode cL_wordLength 3 = .ok (.iload_n 1, 1) := by decide +kernel
theorem dL_wordLength_4 : decode cL_wordLength 4 = .ok (.invokevirtual 25, 3) := by decide +kernel
theorem dL_wordLength_7 : decode cL_wordLength 7 = .ok (.i2l, 1) := by decide +kernel
theorem dL_wordLength_8 : decode cL_wordLength 8 = .ok (.lastore, 1) := by decide +kernel
theorem dL_wordLength_9 : decode cL_wordLength 9 = .ok (.goto 6, 3) := by decide +kernel
theorem dL_wordLength_12 : decode cL_wordLength 12 = .ok (.astore_n 3, 1) := by decide +kernel
theorem dL_wordLength_13 : decode cL_wordLength 13 = .ok (.iconst 1, 1) := by decide +kernel
theorem dL_wordLength_14 : decode cL_wordLength 14 = .ok (.ireturn, 1) := by decide +kernel
theorem dL_wordLength_15 : decode cL_wordLength 15 = .ok (.iconst 0, 1) := by decide +kernel
theorem dL_wordLength_16 : decode cL_wordLength 16 = .ok (.ireturn, 1) := by decide +kernel
theorem dL_letter_0 : decode cL_letter 0 = .ok (.aload_n 3, 1) := by decide +kernel
theorem dL_letter_1 : decode cL_letter 1 = .ok (.iconst 0, 1) := by decide +kernel
theorem dL_letter_2 : decode cL_letter 2 = .ok (.aload_n 0, 1) := by decide +kernel
theorem dL_letter_3 : decode cL_letter 3 = .ok (.iload_n 1, 1) := by decide +kernel
theorem dL_letter_4 : decode cL_letter 4 = .ok (.iload_n 2, 1) := by decide +kernel
theorem dL_letter_5 : decode cL_letter 5 = .ok (.invokevirtual 31, 3) := by decide +kernel
theorem dL_letter_8 : decode cL_letter 8 = .ok (.i2l, 1) := by decide +kernel
theorem dL_letter_9 : decode cL_letter 9 = .ok (.lastore, 1) := by decide +kernel
theorem dL_letter_10 : decode cL_letter 10 = .ok (.goto 7, 3) := by decide +kernel
theorem dL_letter_13 : decode cL_letter 13 = .ok (.astore 4, 2) := by decide +kernel
theorem dL_letter_15 : decode cL_letter 15 = .ok (.iconst 1, 1) := by decide +kernel
theorem dL_letter_16 : decode cL_letter 16 = .ok (.ireturn, 1) := by decide +kernel
theorem dL_letter_17 : decode cL_letter 17 = .ok (.iconst 0, 1) := by decide +kernel
theorem dL_letter_18 : decode cL_letter 18 = .ok (.ireturn, 1) := by decide +kernel
theorem dL_areEqual_0 : decode cL_areEqual 0 = .ok (.aload_n 3, 1) := by decide +kernel
theorem dL_areEqual_1 : decode cL_areEqual 1 = .ok (.iconst 0, 1) := by decide +kernel
theorem dL_areEqual_2 : decode cL_areEqual 2 = .ok (.aload_n 0, 1) := by decide +kernel
theorem dL_areEqual_3 : decode cL_areEqual 3 = .ok (.iload_n 1, 1) := by decide +kernel
theorem dL_areEqual_4 : decode cL_areEqual 4 = .ok (.iload_n 2, 1) := by decide +kernel
theorem dL_areEqual_5 : decode cL_areEqual 5 = .ok (.invokevirtual 35, 3) := by decide +kernel
theorem dL_areEqual_8 : decode cL_areEqual 8 = .ok (.ifCond .eq 7, 3) := by decide +kernel
theorem dL_areEqual_11 : decode cL_areEqual 11 = .ok (.lconst 1, 1) := by decide +kernel
theorem dL_areEqual_12 : decode cL_areEqual 12 = .ok (.goto 4, 3) := by decide +kernel
theorem dL_areEqual_15 : decode cL_areEqual 15 = .ok (.lconst 0, 1) := by decide +kernel
theorem dL_areEqual_16 : decode cL_areEqual 16 = .ok (.lastore, 1) := by decide +kernel
theorem dL_areEqual_17 : decode cL_areEqual 17 = .ok (.goto 7, 3) := by decide +kernel
theorem dL_areEqual_20 : decode cL_areEqual 20 = .ok (.astore 4, 2) := by decide +kernel
theorem dL_areEqual_22 : decode cL_areEqual 22 = .ok (.iconst 1, 1) := by decide +kernel
theorem dL_areEqual_23 : decode cL_areEqual 23 = .ok (.ireturn, 1) := by decide +kernel
theorem dL_areEqual_24 : decode cL_areEqual 24 = .ok (.iconst 0, 1) := by decide +kernel
theorem dL_areEqual_25 : decode cL_areEqual 25 = .ok (.ireturn, 1) := by decide +kernel
theorem dL_areInverse_0 : decode cL_areInverse 0 = .ok (.aload_n 3, 1) := by decide +kernel
theorem dL_areInverse_1 : decode cL_areInverse 1 = .ok (.iconst 0, 1) := by decide +kernel
theorem dL_areInverse_2 : decode cL_areInverse 2 = .ok (.aload_n 0, 1) := by decide +kernel
theorem dL_areInverse_3 : decode cL_areInverse 3 = .ok (.iload_n 1, 1) := by decide +kernel
theorem dL_areInverse_4 : decode cL_areInverse 4 = .ok (.iload_n 2, 1) := by decide +kernel
theorem dL_areInverse_5 : decode cL_areInverse 5 = .ok (.invokevirtual 39, 3) := by decide +kernel
theorem dL_areInverse_8 : decode cL_areInverse 8 = .ok (.ifCond .eq 7, 3) := by decide +kernel
theorem dL_areInverse_11 : decode cL_areInverse 11 = .ok (.lconst 1, 1) := by decide +kernel
theorem dL_areInverse_12 : decode cL_areInverse 12 = .ok (.goto 4, 3) := by decide +kernel
theorem dL_areInverse_15 : decode cL_areInverse 15 = .ok (.lconst 0, 1) := by decide +kernel
theorem dL_areInverse_16 : decode cL_areInverse 16 = .ok (.lastore, 1) := by decide +kernel
theorem dL_areInverse_17 : decode cL_areInverse 17 = .ok (.goto 7, 3) := by decide +kernel
theorem dL_areInverse_20 : decode cL_areInverse 20 = .ok (.astore 4, 2) := by decide +kernel
theorem dL_areInverse_22 : decode cL_areInverse 22 = .ok (.iconst 1, 1) := by decide +kernel
theorem dL_areInverse_23 : decode cL_areInverse 23 = .ok (.ireturn, 1) := by decide +kernel
theorem dL_areInverse_24 : decode cL_areInverse 24 = .ok (.iconst 0, 1) := by decide +kernel
theorem dL_areInverse_25 : decode cL_areInverse 25 = .ok (.ireturn, 1) := by decide +kernel
theorem dL_compare_0 : decode cL_compare 0 = .ok (.aload_n 3, 1) := by decide +kernel
theorem dL_compare_1 : decode cL_compare 1 = .ok (.iconst 0, 1) := by decide +kernel
theorem dL_compare_2 : decode cL_compare 2 = .ok (.aload_n 0, 1) := by decide +kernel
theorem dL_compare_3 : decode cL_compare 3 = .ok (.iload_n 1, 1) := by decide +kernel
theorem dL_compare_4 : decode cL_compare 4 = .ok (.iload_n 2, 1) := by decide +kernel
theorem dL_compare_5 : decode cL_compare 5 = .ok (.invokevirtual 42, 3) := by decide +kernel
theorem dL_compare_8 : decode cL_compare 8 = .ok (.i2l, 1) := by decide +kernel
theorem dL_compare_9 : decode cL_compare 9 = .ok (.lastore, 1) := by decide +kernel
theorem dL_compare_10 : decode cL_compare 10 = .ok (.goto 7, 3) := by decide +kernel
theorem dL_compare_13 : decode cL_compare 13 = .ok (.astore 4, 2) := by decide +kernel
theorem dL_compare_15 : decode cL_compare 15 = .ok (.iconst 1, 1) := by decide +kernel
theorem dL_compare_16 : decode cL_compare 16 = .ok (.ireturn, 1) := by decide +kernel
theorem dL_compare_17 : decode cL_compare 17 = .ok (.iconst 0, 1) := by decide +kernel
theorem dL_compare_18 : decode cL_compare 18 = .ok (.ireturn, 1) := by decide +kernel
theorem dL_exponentSum_0 : decode cL_exponentSum 0 = .ok (.aload_n 3, 1) := by decide +kernel
theorem dL_exponentSum_1 : decode cL_exponentSum 1 = .ok (.iconst 0, 1) := by decide +kernel
theorem dL_exponentSum_2 : decode cL_exponentSum 2 = .ok (.aload_n 0, 1) := by decide +kernel
theorem dL_exponentSum_3 : decode cL_exponentSum 3 = .ok (.iload_n 1, 1) := by decide +kernel
theorem dL_exponentSum_4 : decode cL_exponentSum 4 = .ok (.iload_n 2, 1) := by decide +kernel
theorem dL_exponentSum_5 : decode cL_exponentSum 5 = .ok (.invokevirtual 46, 3) := by decide +kernel
theorem dL_exponentSum_8 : decode cL_exponentSum 8 = .ok (.i2l, 1) := by decide +kernel
theorem dL_exponentSum_9 : decode cL_exponentSum 9 = .ok (.lastore, 1) := by decide +kernel
theorem dL_exponentSum_10 : decode cL_exponentSum 10 = .ok (.goto 7, 3) := by decide +kernel
theorem dL_exponentSum_13 : decode cL_exponentSum 13 = .ok (.astore 4, 2) := by decide +kernel
theorem dL_exponentSum_15 : decode cL_exponentSum 15 = .ok (.iconst 1, 1) := by decide +kernel
theorem dL_exponentSum_16 : decode cL_exponentSum 16 = .ok (.ireturn, 1) := by decide +kernel
theorem dL_exponentSum_17 : decode cL_exponentSum 17 = .ok (.iconst 0, 1) := by decide +kernel
theorem dL_exponentSum_18 : decode cL_exponentSum 18 = .ok (.ireturn, 1) := by decide +kernel
theorem dL_commonPrefix_0 : decode cL_commonPrefix 0 = .ok (.aload_n 3, 1) := by decide +kernel
theorem dL_commonPrefix_1 : decode cL_commonPrefix 1 = .ok (.iconst 0, 1) := by decide +kernel
theorem dL_commonPrefix_2 : decode cL_commonPrefix 2 = .ok (.aload_n 0, 1) := by decide +kernel
theorem dL_commonPrefix_3 : decode cL_commonPrefix 3 = .ok (.iload_n 1, 1) := by decide +kernel
theorem dL_commonPrefix_4 : decode cL_commonPrefix 4 = .ok (.iload_n 2, 1) := by decide +kernel
theorem dL_commonPrefix_5 : decode cL_commonPrefix 5 = .ok (.invokevirtual 49, 3) := by decide +kernel
theorem dL_commonPrefix_8 : decode cL_commonPrefix 8 = .ok (.i2l, 1) := by decide +kernel
theorem dL_commonPrefix_9 : decode cL_commonPrefix 9 = .ok (.lastore, 1) := by decide +kernel
theorem dL_commonPrefix_10 : decode cL_commonPrefix 10 = .ok (.goto 7, 3) := by decide +kernel
theorem dL_commonPrefix_13 : decode cL_commonPrefix 13 = .ok (.astore 4, 2) := by decide +kernel
theorem dL_commonPrefix_15 : decode cL_commonPrefix 15 = .ok (.iconst 1, 1) := by decide +kernel
theorem dL_commonPrefix_16 : decode cL_commonPrefix 16 = .ok (.ireturn, 1) := by decide +kernel
theorem dL_commonPrefix_17 : decode cL_commonPrefix 17 = .ok (.iconst 0, 1) := by decide +kernel
theorem dL_commonPrefix_18 : decode cL_commonPrefix 18 = .ok (.ireturn, 1) := by decide +kernel
theorem dL_cancellation_0 : decode cL_cancellation 0 = .ok (.aload_n 3, 1) := by decide +kernel
theorem dL_cancellation_1 : decode cL_cancellation 1 = .ok (.iconst 0, 1) := by decide +kernel
theorem dL_cancellation_2 : decode cL_cancellation 2 = .ok (.aload_n 0, 1) := by decide +kernel
theorem dL_cancellation_3 : decode cL_cancellation 3 = .ok (.iload_n 1, 1) := by decide +kernel
theorem dL_cancellation_4 : decode cL_cancellation 4 = .ok (.iload_n 2, 1) := by decide +kernel
theorem dL_cancellation_5 : decode cL_cancellation 5 = .ok (.invokevirtual 52, 3) := by decide +kernel
theorem dL_cancellation_8 : decode cL_cancellation 8 = .ok (.i2l, 1) := by decide +kernel
theorem dL_cancellation_9 : decode cL_cancellation 9 = .ok (.lastore, 1) := by decide +kernel
theorem dL_cancellation_10 : decode cL_cancellation 10 = .ok (.goto 7, 3) := by decide +kernel
theorem dL_cancellation_13 : decode cL_cancellation 13 = .ok (.astore 4, 2) := by decide +kernel
theorem dL_cancellation_15 : decode cL_cancellation 15 = .ok (.iconst 1, 1) := by decide +kernel
theorem dL_cancellation_16 : decode cL_cancellation 16 = .ok (.ireturn, 1) := by decide +kernel
theorem dL_cancellation_17 : decode cL_cancellation 17 = .ok (.iconst 0, 1) := by decide +kernel
theorem dL_cancellation_18 : decode cL_cancellation 18 = .ok (.ireturn, 1) := by decide +kernel
theorem dL_doCommute_0 : decode cL_doCommute 0 = .ok (.aload_n 3, 1) := by decide +kernel
theorem dL_doCommute_1 : decode cL_doCommute 1 = .ok (.iconst 0, 1) := by decide +kernel
theorem dL_doCommute_2 : decode cL_doCommute 2 = .ok (.aload_n 0, 1) := by decide +kernel
theorem dL_doCommute_3 : decode cL_doCommute 3 = .ok (.iload_n 1, 1) := by decide +kernel
theorem dL_doCommute_4 : decode cL_doCommute 4 = .ok (.iload_n 2, 1) := by decide +kernel
theorem dL_doCommute_5 : decode cL_doCommute 5 = .ok (.invokevirtual 55, 3) := by decide +kernel
theorem dL_doCommute_8 : decode cL_doCommute 8 = .ok (.ifCond .eq 7, 3) := by decide +kernel
theorem dL_doCommute_11 : decode cL_doCommute 11 = .ok (.lconst 1, 1) := by decide +kernel
theorem dL_doCommute_12 : decode cL_doCommute 12 = .ok (.goto 4, 3) := by decide +kernel
theorem dL_doCommute_15 : decode cL_doCommute 15 = .ok (.lconst 0, 1) := by decide +kernel
theorem dL_doCommute_16 : decode cL_doCommute 16 = .ok (.lastore, 1) := by decide +kernel
theorem dL_doCommute_17 : decode cL_doCommute 17 = .ok (.goto 7, 3) := by decide +kernel
theorem dL_doCommute_20 : decode cL_doCommute 20 = .ok (.astore 4, 2) := by decide +kernel
theorem dL_doCommute_22 : decode cL_doCommute 22 = .ok (.iconst 1, 1) := by decide +kernel
theorem dL_doCommute_23 : decode cL_doCommute 23 = .ok (.ireturn, 1) := by decide +kernel
theorem dL_doCommute_24 : decode cL_doCommute 24 = .ok (.iconst 0, 1) := by decide +kernel
theorem dL_doCommute_25 : decode cL_doCommute 25 = .ok (.ireturn, 1) := by decide +kernel
theorem dL_coreLength_0 : decode cL_coreLength 0 = .ok (.aload_n 2, 1) := by decide +kernel
theorem dL_coreLength_1 : decode cL_coreLength 1 = .ok (.iconst 0, 1) := by decide +kernel
theorem dL_coreLength_2 : decode cL_coreLength 2 = .ok (.aload_n 0, 1) := by decide +kernel
theorem dL_coreLength_3 : decode cL_coreLength 3 = .ok (.iload_n 1, 1) := by decide +kernel
theorem dL_coreLength_4 : decode cL_coreLength 4 = .ok (.invokevirtual 58, 3) := by decide +kernel
theorem dL_coreLength_7 : decode cL_coreLength 7 = .ok (.i2l, 1) := by decide +kernel
theorem dL_coreLength_8 : decode cL_coreLength 8 = .ok (.lastore, 1) := by decide +kernel
theorem dL_coreLength_9 : decode cL_coreLength 9 = .ok (.goto 6, 3) := by decide +kernel
theorem dL_coreLength_12 : decode cL_coreLength 12 = .ok (.astore_n 3, 1) := by decide +kernel
theorem dL_coreLength_13 : decode cL_coreLength 13 = .ok (.iconst 1, 1) := by decide +kernel
theorem dL_coreLength_14 : decode cL_coreLength 14 = .ok (.ireturn, 1) := by decide +kernel
theorem dL_coreLength_15 : decode cL_coreLength 15 = .ok (.iconst 0, 1) := by decide +kernel
theorem dL_coreLength_16 : decode cL_coreLength 16 = .ok (.ireturn, 1) := by decide +kernel
theorem dL_coreLetter_0 : decode cL_coreLetter 0 = .ok (.aload_n 3, 1) := by decide +kernel
theorem dL_coreLetter_1 : decode cL_coreLetter 1 = .ok (.iconst 0, 1) := by decide +kernel
theorem dL_coreLetter_2 : decode cL_coreLetter 2 = .ok (.aload_n 0, 1) := by decide +kernel
theorem dL_coreLetter_3 : decode cL_coreLetter 3 = .ok (.iload_n 1, 1) := by decide +kernel
theorem dL_coreLetter_4 : decode cL_coreLetter 4 = .ok (.iload_n 2, 1) := by decide +kernel
theorem dL_coreLetter_5 : decode cL_coreLetter 5 = .ok (.invokevirtual 61, 3) := by decide +kernel
theorem dL_coreLetter_8 : decode cL_coreLetter 8 = .ok (.i2l, 1) := by decide +kernel
theorem dL_coreLetter_9 : decode cL_coreLetter 9 = .ok (.lastore, 1) := by decide +kernel
theorem dL_coreLetter_10 : decode cL_coreLetter 10 = .ok (.goto 7, 3) := by decide +kernel
theorem dL_coreLetter_13 : decode cL_coreLetter 13 = .ok (.astore 4, 2) := by decide +kernel
theorem dL_coreLetter_15 : decode cL_coreLetter 15 = .ok (.iconst 1, 1) := by decide +kernel
theorem dL_coreLetter_16 : decode cL_coreLetter 16 = .ok (.ireturn, 1) := by decide +kernel
theorem dL_coreLetter_17 : decode cL_coreLetter 17 = .ok (.iconst 0, 1) := by decide +kernel
theorem dL_coreLetter_18 : decode cL_coreLetter 18 = .ok (.ireturn, 1) := by decide +kernel
theorem dL_areConjugate_0 : decode cL_areConjugate 0 = .ok (.aload_n 3, 1) := by decide +kernel
theorem dL_areConjugate_1 : decode cL_areConjugate 1 = .ok (.iconst 0, 1) := by decide +kernel
theorem dL_areConjugate_2 : decode cL_areConjugate 2 = .ok (.aload_n 0, 1) := by decide +kernel
theorem dL_areConjugate_3 : decode cL_areConjugate 3 = .ok (.iload_n 1, 1) := by decide +kernel
theorem dL_areConjugate_4 : decode cL_areConjugate 4 = .ok (.iload_n 2, 1) := by decide +kernel
theorem dL_areConjugate_5 : decode cL_areConjugate 5 = .ok (.invokevirtual 64, 3) := by decide +kernel
theorem dL_areConjugate_8 : decode cL_areConjugate 8 = .ok (.ifCond .eq 7, 3) := by decide +kernel
theorem dL_areConjugate_11 : decode cL_areConjugate 11 = .ok (.lconst 1, 1) := by decide +kernel
theorem dL_areConjugate_12 : decode cL_areConjugate 12 = .ok (.goto 4, 3) := by decide +kernel
theorem dL_areConjugate_15 : decode cL_areConjugate 15 = .ok (.lconst 0, 1) := by decide +kernel
theorem dL_areConjugate_16 : decode cL_areConjugate 16 = .ok (.lastore, 1) := by decide +kernel
theorem dL_areConjugate_17 : decode cL_areConjugate 17 = .ok (.goto 7, 3) := by decide +kernel
theorem dL_areConjugate_20 : decode cL_areConjugate 20 = .ok (.astore 4, 2) := by decide +kernel
theorem dL_areConjugate_22 : decode cL_areConjugate 22 = .ok (.iconst 1, 1) := by decide +kernel
theorem dL_areConjugate_23 : decode cL_areConjugate 23 = .ok (.ireturn, 1) := by decide +kernel
theorem dL_areConjugate_24 : decode cL_areConjugate 24 = .ok (.iconst 0, 1) := by decide +kernel
theorem dL_areConjugate_25 : decode cL_areConjugate 25 = .ok (.ireturn, 1) := by decide +kernel
theorem dL_rotation_0 : decode cL_rotation 0 = .ok (.aload_n 3, 1) := by decide +kernel
theorem dL_rotation_1 : decode cL_rotation 1 = .ok (.iconst 0, 1) := by decide +kernel
theorem dL_rotation_2 : decode cL_rotation 2 = .ok (.aload_n 0, 1) := by decide +kernel
theorem dL_rotation_3 : decode cL_rotation 3 = .ok (.iload_n 1, 1) := by decide +kernel
theorem dL_rotation_4 : decode cL_rotation 4 = .ok (.iload_n 2, 1) := by decide +kernel
theorem dL_rotation_5 : decode cL_rotation 5 = .ok (.invokevirtual 67, 3) := by decide +kernel
theorem dL_rotation_8 : decode cL_rotation 8 = .ok (.i2l, 1) := by decide +kernel
theorem dL_rotation_9 : decode cL_rotation 9 = .ok (.lastore, 1) := by decide +kernel
theorem dL_rotation_10 : decode cL_rotation 10 = .ok (.goto 11, 3) := by decide +kernel
theorem dL_rotation_13 : decode cL_rotation 13 = .ok (.astore 4, 2) := by decide +kernel
theorem dL_rotation_15 : decode cL_rotation 15 = .ok (.iconst 1, 1) := by decide +kernel
theorem dL_rotation_16 : decode cL_rotation 16 = .ok (.ireturn, 1) := by decide +kernel
theorem dL_rotation_17 : decode cL_rotation 17 = .ok (.astore 4, 2) := by decide +kernel
theorem dL_rotation_19 : decode cL_rotation 19 = .ok (.iconst 2, 1) := by decide +kernel
theorem dL_rotation_20 : decode cL_rotation 20 = .ok (.ireturn, 1) := by decide +kernel
theorem dL_rotation_21 : decode cL_rotation 21 = .ok (.iconst 0, 1) := by decide +kernel
theorem dL_rotation_22 : decode cL_rotation 22 = .ok (.ireturn, 1) := by decide +kernel
theorem dL_rootExponent_0 : decode cL_rootExponent 0 = .ok (.aload_n 2, 1) := by decide +kernel
theorem dL_rootExponent_1 : decode cL_rootExponent 1 = .ok (.iconst 0, 1) := by decide +kernel
theorem dL_rootExponent_2 : decode cL_rootExponent 2 = .ok (.aload_n 0, 1) := by decide +kernel
theorem dL_rootExponent_3 : decode cL_rootExponent 3 = .ok (.iload_n 1, 1) := by decide +kernel
theorem dL_rootExponent_4 : decode cL_rootExponent 4 = .ok (.invokevirtual 72, 3) := by decide +kernel
theorem dL_rootExponent_7 : decode cL_rootExponent 7 = .ok (.i2l, 1) := by decide +kernel
theorem dL_rootExponent_8 : decode cL_rootExponent 8 = .ok (.lastore, 1) := by decide +kernel
theorem dL_rootExponent_9 : decode cL_rootExponent 9 = .ok (.goto 9, 3) := by decide +kernel
theorem dL_rootExponent_12 : decode cL_rootExponent 12 = .ok (.astore_n 3, 1) := by decide +kernel
theorem dL_rootExponent_13 : decode cL_rootExponent 13 = .ok (.iconst 1, 1) := by decide +kernel
theorem dL_rootExponent_14 : decode cL_rootExponent 14 = .ok (.ireturn, 1) := by decide +kernel
theorem dL_rootExponent_15 : decode cL_rootExponent 15 = .ok (.astore_n 3, 1) := by decide +kernel
theorem dL_rootExponent_16 : decode cL_rootExponent 16 = .ok (.iconst 2, 1) := by decide +kernel
theorem dL_rootExponent_17 : decode cL_rootExponent 17 = .ok (.ireturn, 1) := by decide +kernel
theorem dL_rootExponent_18 : decode cL_rootExponent 18 = .ok (.iconst 0, 1) := by decide +kernel
theorem dL_rootExponent_19 : decode cL_rootExponent 19 = .ok (.ireturn, 1) := by decide +kernel
theorem dL_magnusDegree_0 : decode cL_magnusDegree 0 = .ok (.aload_n 2, 1) := by decide +kernel
theorem dL_magnusDegree_1 : decode cL_magnusDegree 1 = .ok (.iconst 0, 1) := by decide +kernel
theorem dL_magnusDegree_2 : decode cL_magnusDegree 2 = .ok (.aload_n 0, 1) := by decide +kernel
theorem dL_magnusDegree_3 : decode cL_magnusDegree 3 = .ok (.iload_n 1, 1) := by decide +kernel
theorem dL_magnusDegree_4 : decode cL_magnusDegree 4 = .ok (.invokevirtual 75, 3) := by decide +kernel
theorem dL_magnusDegree_7 : decode cL_magnusDegree 7 = .ok (.i2l, 1) := by decide +kernel
theorem dL_magnusDegree_8 : decode cL_magnusDegree 8 = .ok (.lastore, 1) := by decide +kernel
theorem dL_magnusDegree_9 : decode cL_magnusDegree 9 = .ok (.goto 6, 3) := by decide +kernel
theorem dL_magnusDegree_12 : decode cL_magnusDegree 12 = .ok (.astore_n 3, 1) := by decide +kernel
theorem dL_magnusDegree_13 : decode cL_magnusDegree 13 = .ok (.iconst 1, 1) := by decide +kernel
theorem dL_magnusDegree_14 : decode cL_magnusDegree 14 = .ok (.ireturn, 1) := by decide +kernel
theorem dL_magnusDegree_15 : decode cL_magnusDegree 15 = .ok (.iconst 0, 1) := by decide +kernel
theorem dL_magnusDegree_16 : decode cL_magnusDegree 16 = .ok (.ireturn, 1) := by decide +kernel
theorem dL_magnusCoefficient_0 : decode cL_magnusCoefficient 0 = .ok (.aload 4, 2) := by decide +kernel
theorem dL_magnusCoefficient_2 : decode cL_magnusCoefficient 2 = .ok (.iconst 0, 1) := by decide +kernel
theorem dL_magnusCoefficient_3 : decode cL_magnusCoefficient 3 = .ok (.aload_n 0, 1) := by decide +kernel
theorem dL_magnusCoefficient_4 : decode cL_magnusCoefficient 4 = .ok (.iload_n 1, 1) := by decide +kernel
theorem dL_magnusCoefficient_5 : decode cL_magnusCoefficient 5 = .ok (.iload_n 2, 1) := by decide +kernel
theorem dL_magnusCoefficient_6 : decode cL_magnusCoefficient 6 = .ok (.iload_n 3, 1) := by decide +kernel
theorem dL_magnusCoefficient_7 : decode cL_magnusCoefficient 7 = .ok (.invokevirtual 78, 3) := by decide +kernel
theorem dL_magnusCoefficient_10 : decode cL_magnusCoefficient 10 = .ok (.i2l, 1) := by decide +kernel
theorem dL_magnusCoefficient_11 : decode cL_magnusCoefficient 11 = .ok (.lastore, 1) := by decide +kernel
theorem dL_magnusCoefficient_12 : decode cL_magnusCoefficient 12 = .ok (.goto 7, 3) := by decide +kernel
theorem dL_magnusCoefficient_15 : decode cL_magnusCoefficient 15 = .ok (.astore 5, 2) := by decide +kernel
theorem dL_magnusCoefficient_17 : decode cL_magnusCoefficient 17 = .ok (.iconst 1, 1) := by decide +kernel
theorem dL_magnusCoefficient_18 : decode cL_magnusCoefficient 18 = .ok (.ireturn, 1) := by decide +kernel
theorem dL_magnusCoefficient_19 : decode cL_magnusCoefficient 19 = .ok (.iconst 0, 1) := by decide +kernel
theorem dL_magnusCoefficient_20 : decode cL_magnusCoefficient 20 = .ok (.ireturn, 1) := by decide +kernel
theorem dL_magnusNorm_0 : decode cL_magnusNorm 0 = .ok (.aload_n 3, 1) := by decide +kernel
theorem dL_magnusNorm_1 : decode cL_magnusNorm 1 = .ok (.iconst 0, 1) := by decide +kernel
theorem dL_magnusNorm_2 : decode cL_magnusNorm 2 = .ok (.aload_n 0, 1) := by decide +kernel
theorem dL_magnusNorm_3 : decode cL_magnusNorm 3 = .ok (.iload_n 1, 1) := by decide +kernel
theorem dL_magnusNorm_4 : decode cL_magnusNorm 4 = .ok (.iload_n 2, 1) := by decide +kernel
theorem dL_magnusNorm_5 : decode cL_magnusNorm 5 = .ok (.invokevirtual 82, 3) := by decide +kernel
theorem dL_magnusNorm_8 : decode cL_magnusNorm 8 = .ok (.lastore, 1) := by decide +kernel
theorem dL_magnusNorm_9 : decode cL_magnusNorm 9 = .ok (.goto 11, 3) := by decide +kernel
theorem dL_magnusNorm_12 : decode cL_magnusNorm 12 = .ok (.astore 4, 2) := by decide +kernel
theorem dL_magnusNorm_14 : decode cL_magnusNorm 14 = .ok (.iconst 1, 1) := by decide +kernel
theorem dL_magnusNorm_15 : decode cL_magnusNorm 15 = .ok (.ireturn, 1) := by decide +kernel
theorem dL_magnusNorm_16 : decode cL_magnusNorm 16 = .ok (.astore 4, 2) := by decide +kernel
theorem dL_magnusNorm_18 : decode cL_magnusNorm 18 = .ok (.iconst 2, 1) := by decide +kernel
theorem dL_magnusNorm_19 : decode cL_magnusNorm 19 = .ok (.ireturn, 1) := by decide +kernel
theorem dL_magnusNorm_20 : decode cL_magnusNorm 20 = .ok (.iconst 0, 1) := by decide +kernel
theorem dL_magnusNorm_21 : decode cL_magnusNorm 21 = .ok (.ireturn, 1) := by decide +kernel
theorem dL_generatingWordCount_0 : decode cL_generatingWordCount 0 = .ok (.aload_n 2, 1) := by decide +kernel
theorem dL_generatingWordCount_1 : decode cL_generatingWordCount 1 = .ok (.iconst 0, 1) := by decide +kernel
theorem dL_generatingWordCount_2 : decode cL_generatingWordCount 2 = .ok (.aload_n 0, 1) := by decide +kernel
theorem dL_generatingWordCount_3 : decode cL_generatingWordCount 3 = .ok (.iload_n 1, 1) := by decide +kernel
theorem dL_generatingWordCount_4 : decode cL_generatingWordCount 4 = .ok (.invokevirtual 86, 3) := by decide +kernel
theorem dL_generatingWordCount_7 : decode cL_generatingWordCount 7 = .ok (.i2l, 1) := by decide +kernel
theorem dL_generatingWordCount_8 : decode cL_generatingWordCount 8 = .ok (.lastore, 1) := by decide +kernel
theorem dL_generatingWordCount_9 : decode cL_generatingWordCount 9 = .ok (.goto 6, 3) := by decide +kernel
theorem dL_generatingWordCount_12 : decode cL_generatingWordCount 12 = .ok (.astore_n 3, 1) := by decide +kernel
theorem dL_generatingWordCount_13 : decode cL_generatingWordCount 13 = .ok (.iconst 1, 1) := by decide +kernel
theorem dL_generatingWordCount_14 : decode cL_generatingWordCount 14 = .ok (.ireturn, 1) := by decide +kernel
theorem dL_generatingWordCount_15 : decode cL_generatingWordCount 15 = .ok (.iconst 0, 1) := by decide +kernel
theorem dL_generatingWordCount_16 : decode cL_generatingWordCount 16 = .ok (.ireturn, 1) := by decide +kernel
theorem dL_vertexCount_0 : decode cL_vertexCount 0 = .ok (.aload_n 2, 1) := by decide +kernel
theorem dL_vertexCount_1 : decode cL_vertexCount 1 = .ok (.iconst 0, 1) := by decide +kernel
theorem dL_vertexCount_2 : decode cL_vertexCount 2 = .ok (.aload_n 0, 1) := by decide +kernel
theorem dL_vertexCount_3 : decode cL_vertexCount 3 = .ok (.iload_n 1, 1) := by decide +kernel
theorem dL_vertexCount_4 : decode cL_vertexCount 4 = .ok (.invokevirtual 89, 3) := by decide +kernel
theorem dL_vertexCount_7 : decode cL_vertexCount 7 = .ok (.i2l, 1) := by decide +kernel
theorem dL_vertexCount_8 : decode cL_vertexCount 8 = .ok (.lastore, 1) := by decide +kernel
theorem dL_vertexCount_9 : decode cL_vertexCount 9 = .ok (.goto 6, 3) := by decide +kernel
theorem dL_vertexCount_12 : decode cL_vertexCount 12 = .ok (.astore_n 3, 1) := by decide +kernel
theorem dL_vertexCount_13 : decode cL_vertexCount 13 = .ok (.iconst 1, 1) := by decide +kernel
theorem dL_vertexCount_14 : decode cL_vertexCount 14 = .ok (.ireturn, 1) := by decide +kernel
theorem dL_vertexCount_15 : decode cL_vertexCount 15 = .ok (.iconst 0, 1) := by decide +kernel
theorem dL_vertexCount_16 : decode cL_vertexCount 16 = .ok (.ireturn, 1) := by decide +kernel
theorem dL_edgeCount_0 : decode cL_edgeCount 0 = .ok (.aload_n 2, 1) := by decide +kernel
theorem dL_edgeCount_1 : decode cL_edgeCount 1 = .ok (.iconst 0, 1) := by decide +kernel
theorem dL_edgeCount_2 : decode cL_edgeCount 2 = .ok (.aload_n 0, 1) := by decide +kernel
theorem dL_edgeCount_3 : decode cL_edgeCount 3 = .ok (.iload_n 1, 1) := by decide +kernel
theorem dL_edgeCount_4 : decode cL_edgeCount 4 = .ok (.invokevirtual 92, 3) := by decide +kernel
theorem dL_edgeCount_7 : decode cL_edgeCount 7 = .ok (.i2l, 1) := by decide +kernel
theorem dL_edgeCount_8 : decode cL_edgeCount 8 = .ok (.lastore, 1) := by decide +kernel
theorem dL_edgeCount_9 : decode cL_edgeCount 9 = .ok (.goto 6, 3) := by decide +kernel
theorem dL_edgeCount_12 : decode cL_edgeCount 12 = .ok (.astore_n 3, 1) := by decide +kernel
theorem dL_edgeCount_13 : decode cL_edgeCount 13 = .ok (.iconst 1, 1) := by decide +kernel
theorem dL_edgeCount_14 : decode cL_edgeCount 14 = .ok (.ireturn, 1) := by decide +kernel
theorem dL_edgeCount_15 : decode cL_edgeCount 15 = .ok (.iconst 0, 1) := by decide +kernel
theorem dL_edgeCount_16 : decode cL_edgeCount 16 = .ok (.ireturn, 1) := by decide +kernel
theorem dL_neighbour_0 : decode cL_neighbour 0 = .ok (.aload 4, 2) := by decide +kernel
theorem dL_neighbour_2 : decode cL_neighbour 2 = .ok (.iconst 0, 1) := by decide +kernel
theorem dL_neighbour_3 : decode cL_neighbour 3 = .ok (.aload_n 0, 1) := by decide +kernel
theorem dL_neighbour_4 : decode cL_neighbour 4 = .ok (.iload_n 1, 1) := by decide +kernel
theorem dL_neighbour_5 : decode cL_neighbour 5 = .ok (.iload_n 2, 1) := by decide +kernel
theorem dL_neighbour_6 : decode cL_neighbour 6 = .ok (.iload_n 3, 1) := by decide +kernel
theorem dL_neighbour_7 : decode cL_neighbour 7 = .ok (.invokevirtual 95, 3) := by decide +kernel
theorem dL_neighbour_10 : decode cL_neighbour 10 = .ok (.i2l, 1) := by decide +kernel
theorem dL_neighbour_11 : decode cL_neighbour 11 = .ok (.lastore, 1) := by decide +kernel
theorem dL_neighbour_12 : decode cL_neighbour 12 = .ok (.goto 7, 3) := by decide +kernel
theorem dL_neighbour_15 : decode cL_neighbour 15 = .ok (.astore 5, 2) := by decide +kernel
theorem dL_neighbour_17 : decode cL_neighbour 17 = .ok (.iconst 1, 1) := by decide +kernel
theorem dL_neighbour_18 : decode cL_neighbour 18 = .ok (.ireturn, 1) := by decide +kernel
theorem dL_neighbour_19 : decode cL_neighbour 19 = .ok (.iconst 0, 1) := by decide +kernel
theorem dL_neighbour_20 : decode cL_neighbour 20 = .ok (.ireturn, 1) := by decide +kernel
theorem dL_subgroupRank_0 : decode cL_subgroupRank 0 = .ok (.aload_n 2, 1) := by decide +kernel
theorem dL_subgroupRank_1 : decode cL_subgroupRank 1 = .ok (.iconst 0, 1) := by decide +kernel
theorem dL_subgroupRank_2 : decode cL_subgroupRank 2 = .ok (.aload_n 0, 1) := by decide +kernel
theorem dL_subgroupRank_3 : decode cL_subgroupRank 3 = .ok (.iload_n 1, 1) := by decide +kernel
theorem dL_subgroupRank_4 : decode cL_subgroupRank 4 = .ok (.invokevirtual 98, 3) := by decide +kernel
theorem dL_subgroupRank_7 : decode cL_subgroupRank 7 = .ok (.i2l, 1) := by decide +kernel
theorem dL_subgroupRank_8 : decode cL_subgroupRank 8 = .ok (.lastore, 1) := by decide +kernel
theorem dL_subgroupRank_9 : decode cL_subgroupRank 9 = .ok (.goto 6, 3) := by decide +kernel
theorem dL_subgroupRank_12 : decode cL_subgroupRank 12 = .ok (.astore_n 3, 1) := by decide +kernel
theorem dL_subgroupRank_13 : decode cL_subgroupRank 13 = .ok (.iconst 1, 1) := by decide +kernel
theorem dL_subgroupRank_14 : decode cL_subgroupRank 14 = .ok (.ireturn, 1) := by decide +kernel
theorem dL_subgroupRank_15 : decode cL_subgroupRank 15 = .ok (.iconst 0, 1) := by decide +kernel
theorem dL_subgroupRank_16 : decode cL_subgroupRank 16 = .ok (.ireturn, 1) := by decide +kernel
theorem dL_index_0 : decode cL_index 0 = .ok (.aload_n 2, 1) := by decide +kernel
theorem dL_index_1 : decode cL_index 1 = .ok (.iconst 0, 1) := by decide +kernel
theorem dL_index_2 : decode cL_index 2 = .ok (.aload_n 0, 1) := by decide +kernel
theorem dL_index_3 : decode cL_index 3 = .ok (.iload_n 1, 1) := by decide +kernel
theorem dL_index_4 : decode cL_index 4 = .ok (.invokevirtual 101, 3) := by decide +kernel
theorem dL_index_7 : decode cL_index 7 = .ok (.i2l, 1) := by decide +kernel
theorem dL_index_8 : decode cL_index 8 = .ok (.lastore, 1) := by decide +kernel
theorem dL_index_9 : decode cL_index 9 = .ok (.goto 6, 3) := by decide +kernel
theorem dL_index_12 : decode cL_index 12 = .ok (.astore_n 3, 1) := by decide +kernel
theorem dL_index_13 : decode cL_index 13 = .ok (.iconst 1, 1) := by decide +kernel
theorem dL_index_14 : decode cL_index 14 = .ok (.ireturn, 1) := by decide +kernel
theorem dL_index_15 : decode cL_index 15 = .ok (.iconst 0, 1) := by decide +kernel
theorem dL_index_16 : decode cL_index 16 = .ok (.ireturn, 1) := by decide +kernel
theorem dL_contains_0 : decode cL_contains 0 = .ok (.aload_n 3, 1) := by decide +kernel
theorem dL_contains_1 : decode cL_contains 1 = .ok (.iconst 0, 1) := by decide +kernel
theorem dL_contains_2 : decode cL_contains 2 = .ok (.aload_n 0, 1) := by decide +kernel
theorem dL_contains_3 : decode cL_contains 3 = .ok (.iload_n 1, 1) := by decide +kernel
theorem dL_contains_4 : decode cL_contains 4 = .ok (.iload_n 2, 1) := by decide +kernel
theorem dL_contains_5 : decode cL_contains 5 = .ok (.invokevirtual 104, 3) := by decide +kernel
theorem dL_contains_8 : decode cL_contains 8 = .ok (.ifCond .eq 7, 3) := by decide +kernel
theorem dL_contains_11 : decode cL_contains 11 = .ok (.lconst 1, 1) := by decide +kernel
theorem dL_contains_12 : decode cL_contains 12 = .ok (.goto 4, 3) := by decide +kernel
theorem dL_contains_15 : decode cL_contains 15 = .ok (.lconst 0, 1) := by decide +kernel
theorem dL_contains_16 : decode cL_contains 16 = .ok (.lastore, 1) := by decide +kernel
theorem dL_contains_17 : decode cL_contains 17 = .ok (.goto 7, 3) := by decide +kernel
theorem dL_contains_20 : decode cL_contains 20 = .ok (.astore 4, 2) := by decide +kernel
theorem dL_contains_22 : decode cL_contains 22 = .ok (.iconst 1, 1) := by decide +kernel
theorem dL_contains_23 : decode cL_contains 23 = .ok (.ireturn, 1) := by decide +kernel
theorem dL_contains_24 : decode cL_contains 24 = .ok (.iconst 0, 1) := by decide +kernel
theorem dL_contains_25 : decode cL_contains 25 = .ok (.ireturn, 1) := by decide +kernel
theorem dL_reachedVertex_0 : decode cL_reachedVertex 0 = .ok (.aload_n 3, 1) := by decide +kernel
theorem dL_reachedVertex_1 : decode cL_reachedVertex 1 = .ok (.iconst 0, 1) := by decide +kernel
theorem dL_reachedVertex_2 : decode cL_reachedVertex 2 = .ok (.aload_n 0, 1) := by decide +kernel
theorem dL_reachedVertex_3 : decode cL_reachedVertex 3 = .ok (.iload_n 1, 1) := by decide +kernel
theorem dL_reachedVertex_4 : decode cL_reachedVertex 4 = .ok (.iload_n 2, 1) := by decide +kernel
theorem dL_reachedVertex_5 : decode cL_reachedVertex 5 = .ok (.invokevirtual 107, 3) := by decide +kernel
theorem dL_reachedVertex_8 : decode cL_reachedVertex 8 = .ok (.i2l, 1) := by decide +kernel
theorem dL_reachedVertex_9 : decode cL_reachedVertex 9 = .ok (.lastore, 1) := by decide +kernel
theorem dL_reachedVertex_10 : decode cL_reachedVertex 10 = .ok (.goto 7, 3) := by decide +kernel
theorem dL_reachedVertex_13 : decode cL_reachedVertex 13 = .ok (.astore 4, 2) := by decide +kernel
theorem dL_reachedVertex_15 : decode cL_reachedVertex 15 = .ok (.iconst 1, 1) := by decide +kernel
theorem dL_reachedVertex_16 : decode cL_reachedVertex 16 = .ok (.ireturn, 1) := by decide +kernel
theorem dL_reachedVertex_17 : decode cL_reachedVertex 17 = .ok (.iconst 0, 1) := by decide +kernel
theorem dL_reachedVertex_18 : decode cL_reachedVertex 18 = .ok (.ireturn, 1) := by decide +kernel
theorem dL_smallestPower_0 : decode cL_smallestPower 0 = .ok (.aload_n 3, 1) := by decide +kernel
theorem dL_smallestPower_1 : decode cL_smallestPower 1 = .ok (.iconst 0, 1) := by decide +kernel
theorem dL_smallestPower_2 : decode cL_smallestPower 2 = .ok (.aload_n 0, 1) := by decide +kernel
theorem dL_smallestPower_3 : decode cL_smallestPower 3 = .ok (.iload_n 1, 1) := by decide +kernel
theorem dL_smallestPower_4 : decode cL_smallestPower 4 = .ok (.iload_n 2, 1) := by decide +kernel
theorem dL_smallestPower_5 : decode cL_smallestPower 5 = .ok (.invokevirtual 110, 3) := by decide +kernel
theorem dL_smallestPower_8 : decode cL_smallestPower 8 = .ok (.i2l, 1) := by decide +kernel
theorem dL_smallestPower_9 : decode cL_smallestPower 9 = .ok (.lastore, 1) := by decide +kernel
theorem dL_smallestPower_10 : decode cL_smallestPower 10 = .ok (.goto 7, 3) := by decide +kernel
theorem dL_smallestPower_13 : decode cL_smallestPower 13 = .ok (.astore 4, 2) := by decide +kernel
theorem dL_smallestPower_15 : decode cL_smallestPower 15 = .ok (.iconst 1, 1) := by decide +kernel
theorem dL_smallestPower_16 : decode cL_smallestPower 16 = .ok (.ireturn, 1) := by decide +kernel
theorem dL_smallestPower_17 : decode cL_smallestPower 17 = .ok (.iconst 0, 1) := by decide +kernel
theorem dL_smallestPower_18 : decode cL_smallestPower 18 = .ok (.ireturn, 1) := by decide +kernel
theorem dL_isNormal_0 : decode cL_isNormal 0 = .ok (.aload_n 2, 1) := by decide +kernel
theorem dL_isNormal_1 : decode cL_isNormal 1 = .ok (.iconst 0, 1) := by decide +kernel
theorem dL_isNormal_2 : decode cL_isNormal 2 = .ok (.aload_n 0, 1) := by decide +kernel
theorem dL_isNormal_3 : decode cL_isNormal 3 = .ok (.iload_n 1, 1) := by decide +kernel
theorem dL_isNormal_4 : decode cL_isNormal 4 = .ok (.invokevirtual 113, 3) := by decide +kernel
theorem dL_isNormal_7 : decode cL_isNormal 7 = .ok (.ifCond .eq 7, 3) := by decide +kernel
theorem dL_isNormal_10 : decode cL_isNormal 10 = .ok (.lconst 1, 1) := by decide +kernel
theorem dL_isNormal_11 : decode cL_isNormal 11 = .ok (.goto 4, 3) := by decide +kernel
theorem dL_isNormal_14 : decode cL_isNormal 14 = .ok (.lconst 0, 1) := by decide +kernel
theorem dL_isNormal_15 : decode cL_isNormal 15 = .ok (.lastore, 1) := by decide +kernel
theorem dL_isNormal_16 : decode cL_isNormal 16 = .ok (.goto 6, 3) := by decide +kernel
theorem dL_isNormal_19 : decode cL_isNormal 19 = .ok (.astore_n 3, 1) := by decide +kernel
theorem dL_isNormal_20 : decode cL_isNormal 20 = .ok (.iconst 1, 1) := by decide +kernel
theorem dL_isNormal_21 : decode cL_isNormal 21 = .ok (.ireturn, 1) := by decide +kernel
theorem dL_isNormal_22 : decode cL_isNormal 22 = .ok (.iconst 0, 1) := by decide +kernel
theorem dL_isNormal_23 : decode cL_isNormal 23 = .ok (.ireturn, 1) := by decide +kernel
theorem dL_containsSubgroup_0 : decode cL_containsSubgroup 0 = .ok (.aload_n 3, 1) := by decide +kernel
theorem dL_containsSubgroup_1 : decode cL_containsSubgroup 1 = .ok (.iconst 0, 1) := by decide +kernel
theorem dL_containsSubgroup_2 : decode cL_containsSubgroup 2 = .ok (.aload_n 0, 1) := by decide +kernel
theorem dL_containsSubgroup_3 : decode cL_containsSubgroup 3 = .ok (.iload_n 1, 1) := by decide +kernel
theorem dL_containsSubgroup_4 : decode cL_containsSubgroup 4 = .ok (.iload_n 2, 1) := by decide +kernel
theorem dL_containsSubgroup_5 : decode cL_containsSubgroup 5 = .ok (.invokevirtual 117, 3) := by decide +kernel
theorem dL_containsSubgroup_8 : decode cL_containsSubgroup 8 = .ok (.ifCond .eq 7, 3) := by decide +kernel
theorem dL_containsSubgroup_11 : decode cL_containsSubgroup 11 = .ok (.lconst 1, 1) := by decide +kernel
theorem dL_containsSubgroup_12 : decode cL_containsSubgroup 12 = .ok (.goto 4, 3) := by decide +kernel
theorem dL_containsSubgroup_15 : decode cL_containsSubgroup 15 = .ok (.lconst 0, 1) := by decide +kernel
theorem dL_containsSubgroup_16 : decode cL_containsSubgroup 16 = .ok (.lastore, 1) := by decide +kernel
theorem dL_containsSubgroup_17 : decode cL_containsSubgroup 17 = .ok (.goto 7, 3) := by decide +kernel
theorem dL_containsSubgroup_20 : decode cL_containsSubgroup 20 = .ok (.astore 4, 2) := by decide +kernel
theorem dL_containsSubgroup_22 : decode cL_containsSubgroup 22 = .ok (.iconst 1, 1) := by decide +kernel
theorem dL_containsSubgroup_23 : decode cL_containsSubgroup 23 = .ok (.ireturn, 1) := by decide +kernel
theorem dL_containsSubgroup_24 : decode cL_containsSubgroup 24 = .ok (.iconst 0, 1) := by decide +kernel
theorem dL_containsSubgroup_25 : decode cL_containsSubgroup 25 = .ok (.ireturn, 1) := by decide +kernel
theorem dL_representativeLength_0 : decode cL_representativeLength 0 = .ok (.aload_n 3, 1) := by decide +kernel
theorem dL_representativeLength_1 : decode cL_representativeLength 1 = .ok (.iconst 0, 1) := by decide +kernel
theorem dL_representativeLength_2 : decode cL_representativeLength 2 = .ok (.aload_n 0, 1) := by decide +kernel
theorem dL_representativeLength_3 : decode cL_representativeLength 3 = .ok (.iload_n 1, 1) := by decide +kernel
theorem dL_representativeLength_4 : decode cL_representativeLength 4 = .ok (.iload_n 2, 1) := by decide +kernel
theorem dL_representativeLength_5 : decode cL_representativeLength 5 = .ok (.invokevirtual 120, 3) := by decide +kernel
theorem dL_representativeLength_8 : decode cL_representativeLength 8 = .ok (.i2l, 1) := by decide +kernel
theorem dL_representativeLength_9 : decode cL_representativeLength 9 = .ok (.lastore, 1) := by decide +kernel
theorem dL_representativeLength_10 : decode cL_representativeLength 10 = .ok (.goto 7, 3) := by decide +kernel
theorem dL_representativeLength_13 : decode cL_representativeLength 13 = .ok (.astore 4, 2) := by decide +kernel
theorem dL_representativeLength_15 : decode cL_representativeLength 15 = .ok (.iconst 1, 1) := by decide +kernel
theorem dL_representativeLength_16 : decode cL_representativeLength 16 = .ok (.ireturn, 1) := by decide +kernel
theorem dL_representativeLength_17 : decode cL_representativeLength 17 = .ok (.iconst 0, 1) := by decide +kernel
theorem dL_representativeLength_18 : decode cL_representativeLength 18 = .ok (.ireturn, 1) := by decide +kernel
theorem dL_setRegister_0 : decode cL_setRegister 0 = .ok (.aload_n 2, 1) := by decide +kernel
theorem dL_setRegister_1 : decode cL_setRegister 1 = .ok (.iconst 0, 1) := by decide +kernel
theorem dL_setRegister_2 : decode cL_setRegister 2 = .ok (.aload_n 0, 1) := by decide +kernel
theorem dL_setRegister_3 : decode cL_setRegister 3 = .ok (.iload_n 1, 1) := by decide +kernel
theorem dL_setRegister_4 : decode cL_setRegister 4 = .ok (.invokevirtual 123, 3) := by decide +kernel
theorem dL_setRegister_7 : decode cL_setRegister 7 = .ok (.i2l, 1) := by decide +kernel
theorem dL_setRegister_8 : decode cL_setRegister 8 = .ok (.lastore, 1) := by decide +kernel
theorem dL_setRegister_9 : decode cL_setRegister 9 = .ok (.goto 12, 3) := by decide +kernel
theorem dL_setRegister_12 : decode cL_setRegister 12 = .ok (.astore_n 3, 1) := by decide +kernel
theorem dL_setRegister_13 : decode cL_setRegister 13 = .ok (.iconst 1, 1) := by decide +kernel
theorem dL_setRegister_14 : decode cL_setRegister 14 = .ok (.ireturn, 1) := by decide +kernel
theorem dL_setRegister_15 : decode cL_setRegister 15 = .ok (.astore_n 3, 1) := by decide +kernel
theorem dL_setRegister_16 : decode cL_setRegister 16 = .ok (.iconst 2, 1) := by decide +kernel
theorem dL_setRegister_17 : decode cL_setRegister 17 = .ok (.ireturn, 1) := by decide +kernel
theorem dL_setRegister_18 : decode cL_setRegister 18 = .ok (.astore_n 3, 1) := by decide +kernel
theorem dL_setRegister_19 : decode cL_setRegister 19 = .ok (.iconst 3, 1) := by decide +kernel
theorem dL_setRegister_20 : decode cL_setRegister 20 = .ok (.ireturn, 1) := by decide +kernel
theorem dL_setRegister_21 : decode cL_setRegister 21 = .ok (.iconst 0, 1) := by decide +kernel
theorem dL_setRegister_22 : decode cL_setRegister 22 = .ok (.ireturn, 1) := by decide +kernel
theorem dL_setProduct_0 : decode cL_setProduct 0 = .ok (.aload 4, 2) := by decide +kernel
theorem dL_setProduct_2 : decode cL_setProduct 2 = .ok (.iconst 0, 1) := by decide +kernel
theorem dL_setProduct_3 : decode cL_setProduct 3 = .ok (.aload_n 0, 1) := by decide +kernel
theorem dL_setProduct_4 : decode cL_setProduct 4 = .ok (.iload_n 1, 1) := by decide +kernel
theorem dL_setProduct_5 : decode cL_setProduct 5 = .ok (.iload_n 2, 1) := by decide +kernel
theorem dL_setProduct_6 : decode cL_setProduct 6 = .ok (.iload_n 3, 1) := by decide +kernel
theorem dL_setProduct_7 : decode cL_setProduct 7 = .ok (.invokevirtual 126, 3) := by decide +kernel
theorem dL_setProduct_10 : decode cL_setProduct 10 = .ok (.i2l, 1) := by decide +kernel
theorem dL_setProduct_11 : decode cL_setProduct 11 = .ok (.lastore, 1) := by decide +kernel
theorem dL_setProduct_12 : decode cL_setProduct 12 = .ok (.goto 11, 3) := by decide +kernel
theorem dL_setProduct_15 : decode cL_setProduct 15 = .ok (.astore 5, 2) := by decide +kernel
theorem dL_setProduct_17 : decode cL_setProduct 17 = .ok (.iconst 1, 1) := by decide +kernel
theorem dL_setProduct_18 : decode cL_setProduct 18 = .ok (.ireturn, 1) := by decide +kernel
theorem dL_setProduct_19 : decode cL_setProduct 19 = .ok (.astore 5, 2) := by decide +kernel
theorem dL_setProduct_21 : decode cL_setProduct 21 = .ok (.iconst 2, 1) := by decide +kernel
theorem dL_setProduct_22 : decode cL_setProduct 22 = .ok (.ireturn, 1) := by decide +kernel
theorem dL_setProduct_23 : decode cL_setProduct 23 = .ok (.iconst 0, 1) := by decide +kernel
theorem dL_setProduct_24 : decode cL_setProduct 24 = .ok (.ireturn, 1) := by decide +kernel
theorem dL_setInverse_0 : decode cL_setInverse 0 = .ok (.aload_n 3, 1) := by decide +kernel
theorem dL_setInverse_1 : decode cL_setInverse 1 = .ok (.iconst 0, 1) := by decide +kernel
theorem dL_setInverse_2 : decode cL_setInverse 2 = .ok (.aload_n 0, 1) := by decide +kernel
theorem dL_setInverse_3 : decode cL_setInverse 3 = .ok (.iload_n 1, 1) := by decide +kernel
theorem dL_setInverse_4 : decode cL_setInverse 4 = .ok (.iload_n 2, 1) := by decide +kernel
theorem dL_setInverse_5 : decode cL_setInverse 5 = .ok (.invokevirtual 129, 3) := by decide +kernel
theorem dL_setInverse_8 : decode cL_setInverse 8 = .ok (.i2l, 1) := by decide +kernel
theorem dL_setInverse_9 : decode cL_setInverse 9 = .ok (.lastore, 1) := by decide +kernel
theorem dL_setInverse_10 : decode cL_setInverse 10 = .ok (.goto 7, 3) := by decide +kernel
theorem dL_setInverse_13 : decode cL_setInverse 13 = .ok (.astore 4, 2) := by decide +kernel
theorem dL_setInverse_15 : decode cL_setInverse 15 = .ok (.iconst 1, 1) := by decide +kernel
theorem dL_setInverse_16 : decode cL_setInverse 16 = .ok (.ireturn, 1) := by decide +kernel
theorem dL_setInverse_17 : decode cL_setInverse 17 = .ok (.iconst 0, 1) := by decide +kernel
theorem dL_setInverse_18 : decode cL_setInverse 18 = .ok (.ireturn, 1) := by decide +kernel
theorem dL_setConjugate_0 : decode cL_setConjugate 0 = .ok (.aload 4, 2) := by decide +kernel
theorem dL_setConjugate_2 : decode cL_setConjugate 2 = .ok (.iconst 0, 1) := by decide +kernel
theorem dL_setConjugate_3 : decode cL_setConjugate 3 = .ok (.aload_n 0, 1) := by decide +kernel
theorem dL_setConjugate_4 : decode cL_setConjugate 4 = .ok (.iload_n 1, 1) := by decide +kernel
theorem dL_setConjugate_5 : decode cL_setConjugate 5 = .ok (.iload_n 2, 1) := by decide +kernel
theorem dL_setConjugate_6 : decode cL_setConjugate 6 = .ok (.iload_n 3, 1) := by decide +kernel
theorem dL_setConjugate_7 : decode cL_setConjugate 7 = .ok (.invokevirtual 132, 3) := by decide +kernel
theorem dL_setConjugate_10 : decode cL_setConjugate 10 = .ok (.i2l, 1) := by decide +kernel
theorem dL_setConjugate_11 : decode cL_setConjugate 11 = .ok (.lastore, 1) := by decide +kernel
theorem dL_setConjugate_12 : decode cL_setConjugate 12 = .ok (.goto 11, 3) := by decide +kernel
theorem dL_setConjugate_15 : decode cL_setConjugate 15 = .ok (.astore 5, 2) := by decide +kernel
theorem dL_setConjugate_17 : decode cL_setConjugate 17 = .ok (.iconst 1, 1) := by decide +kernel
theorem dL_setConjugate_18 : decode cL_setConjugate 18 = .ok (.ireturn, 1) := by decide +kernel
theorem dL_setConjugate_19 : decode cL_setConjugate 19 = .ok (.astore 5, 2) := by decide +kernel
theorem dL_setConjugate_21 : decode cL_setConjugate 21 = .ok (.iconst 2, 1) := by decide +kernel
theorem dL_setConjugate_22 : decode cL_setConjugate 22 = .ok (.ireturn, 1) := by decide +kernel
theorem dL_setConjugate_23 : decode cL_setConjugate 23 = .ok (.iconst 0, 1) := by decide +kernel
theorem dL_setConjugate_24 : decode cL_setConjugate 24 = .ok (.ireturn, 1) := by decide +kernel
theorem dL_setCommutator_0 : decode cL_setCommutator 0 = .ok (.aload 4, 2) := by decide +kernel
theorem dL_setCommutator_2 : decode cL_setCommutator 2 = .ok (.iconst 0, 1) := by decide +kernel
theorem dL_setCommutator_3 : decode cL_setCommutator 3 = .ok (.aload_n 0, 1) := by decide +kernel
theorem dL_setCommutator_4 : decode cL_setCommutator 4 = .ok (.iload_n 1, 1) := by decide +kernel
theorem dL_setCommutator_5 : decode cL_setCommutator 5 = .ok (.iload_n 2, 1) := by decide +kernel
theorem dL_setCommutator_6 : decode cL_setCommutator 6 = .ok (.iload_n 3, 1) := by decide +kernel
theorem dL_setCommutator_7 : decode cL_setCommutator 7 = .ok (.invokevirtual 135, 3) := by decide +kernel
theorem dL_setCommutator_10 : decode cL_setCommutator 10 = .ok (.i2l, 1) := by decide +kernel
theorem dL_setCommutator_11 : decode cL_setCommutator 11 = .ok (.lastore, 1) := by decide +kernel
theorem dL_setCommutator_12 : decode cL_setCommutator 12 = .ok (.goto 11, 3) := by decide +kernel
theorem dL_setCommutator_15 : decode cL_setCommutator 15 = .ok (.astore 5, 2) := by decide +kernel
theorem dL_setCommutator_17 : decode cL_setCommutator 17 = .ok (.iconst 1, 1) := by decide +kernel
theorem dL_setCommutator_18 : decode cL_setCommutator 18 = .ok (.ireturn, 1) := by decide +kernel
theorem dL_setCommutator_19 : decode cL_setCommutator 19 = .ok (.astore 5, 2) := by decide +kernel
theorem dL_setCommutator_21 : decode cL_setCommutator 21 = .ok (.iconst 2, 1) := by decide +kernel
theorem dL_setCommutator_22 : decode cL_setCommutator 22 = .ok (.ireturn, 1) := by decide +kernel
theorem dL_setCommutator_23 : decode cL_setCommutator 23 = .ok (.iconst 0, 1) := by decide +kernel
theorem dL_setCommutator_24 : decode cL_setCommutator 24 = .ok (.ireturn, 1) := by decide +kernel
theorem dL_setPower_0 : decode cL_setPower 0 = .ok (.aload 4, 2) := by decide +kernel
theorem dL_setPower_2 : decode cL_setPower 2 = .ok (.iconst 0, 1) := by decide +kernel
theorem dL_setPower_3 : decode cL_setPower 3 = .ok (.aload_n 0, 1) := by decide +kernel
theorem dL_setPower_4 : decode cL_setPower 4 = .ok (.iload_n 1, 1) := by decide +kernel
theorem dL_setPower_5 : decode cL_setPower 5 = .ok (.iload_n 2, 1) := by decide +kernel
theorem dL_setPower_6 : decode cL_setPower 6 = .ok (.iload_n 3, 1) := by decide +kernel
theorem dL_setPower_7 : decode cL_setPower 7 = .ok (.invokevirtual 138, 3) := by decide +kernel
theorem dL_setPower_10 : decode cL_setPower 10 = .ok (.i2l, 1) := by decide +kernel
theorem dL_setPower_11 : decode cL_setPower 11 = .ok (.lastore, 1) := by decide +kernel
theorem dL_setPower_12 : decode cL_setPower 12 = .ok (.goto 15, 3) := by decide +kernel
theorem dL_setPower_15 : decode cL_setPower 15 = .ok (.astore 5, 2) := by decide +kernel
theorem dL_setPower_17 : decode cL_setPower 17 = .ok (.iconst 1, 1) := by decide +kernel
theorem dL_setPower_18 : decode cL_setPower 18 = .ok (.ireturn, 1) := by decide +kernel
theorem dL_setPower_19 : decode cL_setPower 19 = .ok (.astore 5, 2) := by decide +kernel
theorem dL_setPower_21 : decode cL_setPower 21 = .ok (.iconst 2, 1) := by decide +kernel
theorem dL_setPower_22 : decode cL_setPower 22 = .ok (.ireturn, 1) := by decide +kernel
theorem dL_setPower_23 : decode cL_setPower 23 = .ok (.astore 5, 2) := by decide +kernel
theorem dL_setPower_25 : decode cL_setPower 25 = .ok (.iconst 3, 1) := by decide +kernel
theorem dL_setPower_26 : decode cL_setPower 26 = .ok (.ireturn, 1) := by decide +kernel
theorem dL_setPower_27 : decode cL_setPower 27 = .ok (.iconst 0, 1) := by decide +kernel
theorem dL_setPower_28 : decode cL_setPower 28 = .ok (.ireturn, 1) := by decide +kernel
theorem dL_setRoot_0 : decode cL_setRoot 0 = .ok (.aload_n 3, 1) := by decide +kernel
theorem dL_setRoot_1 : decode cL_setRoot 1 = .ok (.iconst 0, 1) := by decide +kernel
theorem dL_setRoot_2 : decode cL_setRoot 2 = .ok (.aload_n 0, 1) := by decide +kernel
theorem dL_setRoot_3 : decode cL_setRoot 3 = .ok (.iload_n 1, 1) := by decide +kernel
theorem dL_setRoot_4 : decode cL_setRoot 4 = .ok (.iload_n 2, 1) := by decide +kernel
theorem dL_setRoot_5 : decode cL_setRoot 5 = .ok (.invokevirtual 141, 3) := by decide +kernel
theorem dL_setRoot_8 : decode cL_setRoot 8 = .ok (.i2l, 1) := by decide +kernel
theorem dL_setRoot_9 : decode cL_setRoot 9 = .ok (.lastore, 1) := by decide +kernel
theorem dL_setRoot_10 : decode cL_setRoot 10 = .ok (.goto 11, 3) := by decide +kernel
theorem dL_setRoot_13 : decode cL_setRoot 13 = .ok (.astore 4, 2) := by decide +kernel
theorem dL_setRoot_15 : decode cL_setRoot 15 = .ok (.iconst 1, 1) := by decide +kernel
theorem dL_setRoot_16 : decode cL_setRoot 16 = .ok (.ireturn, 1) := by decide +kernel
theorem dL_setRoot_17 : decode cL_setRoot 17 = .ok (.astore 4, 2) := by decide +kernel
theorem dL_setRoot_19 : decode cL_setRoot 19 = .ok (.iconst 2, 1) := by decide +kernel
theorem dL_setRoot_20 : decode cL_setRoot 20 = .ok (.ireturn, 1) := by decide +kernel
theorem dL_setRoot_21 : decode cL_setRoot 21 = .ok (.iconst 0, 1) := by decide +kernel
theorem dL_setRoot_22 : decode cL_setRoot 22 = .ok (.ireturn, 1) := by decide +kernel
theorem dL_substitute_0 : decode cL_substitute 0 = .ok (.aload 5, 2) := by decide +kernel
theorem dL_substitute_2 : decode cL_substitute 2 = .ok (.iconst 0, 1) := by decide +kernel
theorem dL_substitute_3 : decode cL_substitute 3 = .ok (.aload_n 0, 1) := by decide +kernel
theorem dL_substitute_4 : decode cL_substitute 4 = .ok (.iload_n 1, 1) := by decide +kernel
theorem dL_substitute_5 : decode cL_substitute 5 = .ok (.iload_n 2, 1) := by decide +kernel
theorem dL_substitute_6 : decode cL_substitute 6 = .ok (.iload_n 3, 1) := by decide +kernel
theorem dL_substitute_7 : decode cL_substitute 7 = .ok (.iload 4, 2) := by decide +kernel
theorem dL_substitute_9 : decode cL_substitute 9 = .ok (.invokevirtual 144, 3) := by decide +kernel
theorem dL_substitute_12 : decode cL_substitute 12 = .ok (.i2l, 1) := by decide +kernel
theorem dL_substitute_13 : decode cL_substitute 13 = .ok (.lastore, 1) := by decide +kernel
theorem dL_substitute_14 : decode cL_substitute 14 = .ok (.goto 11, 3) := by decide +kernel
theorem dL_substitute_17 : decode cL_substitute 17 = .ok (.astore 6, 2) := by decide +kernel
theorem dL_substitute_19 : decode cL_substitute 19 = .ok (.iconst 1, 1) := by decide +kernel
theorem dL_substitute_20 : decode cL_substitute 20 = .ok (.ireturn, 1) := by decide +kernel
theorem dL_substitute_21 : decode cL_substitute 21 = .ok (.astore 6, 2) := by decide +kernel
theorem dL_substitute_23 : decode cL_substitute 23 = .ok (.iconst 2, 1) := by decide +kernel
theorem dL_substitute_24 : decode cL_substitute 24 = .ok (.ireturn, 1) := by decide +kernel
theorem dL_substitute_25 : decode cL_substitute 25 = .ok (.iconst 0, 1) := by decide +kernel
theorem dL_substitute_26 : decode cL_substitute 26 = .ok (.ireturn, 1) := by decide +kernel
theorem dL_addGeneratingWord_0 : decode cL_addGeneratingWord 0 = .ok (.aload_n 3, 1) := by decide +kernel
theorem dL_addGeneratingWord_1 : decode cL_addGeneratingWord 1 = .ok (.iconst 0, 1) := by decide +kernel
theorem dL_addGeneratingWord_2 : decode cL_addGeneratingWord 2 = .ok (.aload_n 0, 1) := by decide +kernel
theorem dL_addGeneratingWord_3 : decode cL_addGeneratingWord 3 = .ok (.iload_n 1, 1) := by decide +kernel
theorem dL_addGeneratingWord_4 : decode cL_addGeneratingWord 4 = .ok (.iload_n 2, 1) := by decide +kernel
theorem dL_addGeneratingWord_5 : decode cL_addGeneratingWord 5 = .ok (.invokevirtual 148, 3) := by decide +kernel
theorem dL_addGeneratingWord_8 : decode cL_addGeneratingWord 8 = .ok (.i2l, 1) := by decide +kernel
theorem dL_addGeneratingWord_9 : decode cL_addGeneratingWord 9 = .ok (.lastore, 1) := by decide +kernel
theorem dL_addGeneratingWord_10 : decode cL_addGeneratingWord 10 = .ok (.goto 11, 3) := by decide +kernel
theorem dL_addGeneratingWord_13 : decode cL_addGeneratingWord 13 = .ok (.astore 4, 2) := by decide +kernel
theorem dL_addGeneratingWord_15 : decode cL_addGeneratingWord 15 = .ok (.iconst 1, 1) := by decide +kernel
theorem dL_addGeneratingWord_16 : decode cL_addGeneratingWord 16 = .ok (.ireturn, 1) := by decide +kernel
theorem dL_addGeneratingWord_17 : decode cL_addGeneratingWord 17 = .ok (.astore 4, 2) := by decide +kernel
theorem dL_addGeneratingWord_19 : decode cL_addGeneratingWord 19 = .ok (.iconst 2, 1) := by decide +kernel
theorem dL_addGeneratingWord_20 : decode cL_addGeneratingWord 20 = .ok (.ireturn, 1) := by decide +kernel
theorem dL_addGeneratingWord_21 : decode cL_addGeneratingWord 21 = .ok (.iconst 0, 1) := by decide +kernel
theorem dL_addGeneratingWord_22 : decode cL_addGeneratingWord 22 = .ok (.ireturn, 1) := by decide +kernel
theorem dL_removeGeneratingWord_0 : decode cL_removeGeneratingWord 0 = .ok (.aload_n 3, 1) := by decide +kernel
theorem dL_removeGeneratingWord_1 : decode cL_removeGeneratingWord 1 = .ok (.iconst 0, 1) := by decide +kernel
theorem dL_removeGeneratingWord_2 : decode cL_removeGeneratingWord 2 = .ok (.aload_n 0, 1) := by decide +kernel
theorem dL_removeGeneratingWord_3 : decode cL_removeGeneratingWord 3 = .ok (.iload_n 1, 1) := by decide +kernel
theorem dL_removeGeneratingWord_4 : decode cL_removeGeneratingWord 4 = .ok (.iload_n 2, 1) := by decide +kernel
theorem dL_removeGeneratingWord_5 : decode cL_removeGeneratingWord 5 = .ok (.invokevirtual 151, 3) := by decide +kernel
theorem dL_removeGeneratingWord_8 : decode cL_removeGeneratingWord 8 = .ok (.i2l, 1) := by decide +kernel
theorem dL_removeGeneratingWord_9 : decode cL_removeGeneratingWord 9 = .ok (.lastore, 1) := by decide +kernel
theorem dL_removeGeneratingWord_10 : decode cL_removeGeneratingWord 10 = .ok (.goto 7, 3) := by decide +kernel
theorem dL_removeGeneratingWord_13 : decode cL_removeGeneratingWord 13 = .ok (.astore 4, 2) := by decide +kernel
theorem dL_removeGeneratingWord_15 : decode cL_removeGeneratingWord 15 = .ok (.iconst 1, 1) := by decide +kernel
theorem dL_removeGeneratingWord_16 : decode cL_removeGeneratingWord 16 = .ok (.ireturn, 1) := by decide +kernel
theorem dL_removeGeneratingWord_17 : decode cL_removeGeneratingWord 17 = .ok (.iconst 0, 1) := by decide +kernel
theorem dL_removeGeneratingWord_18 : decode cL_removeGeneratingWord 18 = .ok (.ireturn, 1) := by decide +kernel
theorem dL_undo_0 : decode cL_undo 0 = .ok (.aload_n 1, 1) := by decide +kernel
theorem dL_undo_1 : decode cL_undo 1 = .ok (.iconst 0, 1) := by decide +kernel
theorem dL_undo_2 : decode cL_undo 2 = .ok (.aload_n 0, 1) := by decide +kernel
theorem dL_undo_3 : decode cL_undo 3 = .ok (.invokevirtual 154, 3) := by decide +kernel
theorem dL_undo_6 : decode cL_undo 6 = .ok (.i2l, 1) := by decide +kernel
theorem dL_undo_7 : decode cL_undo 7 = .ok (.lastore, 1) := by decide +kernel
theorem dL_undo_8 : decode cL_undo 8 = .ok (.goto 6, 3) := by decide +kernel
theorem dL_undo_11 : decode cL_undo 11 = .ok (.astore_n 2, 1) := by decide +kernel
theorem dL_undo_12 : decode cL_undo 12 = .ok (.iconst 1, 1) := by decide +kernel
theorem dL_undo_13 : decode cL_undo 13 = .ok (.ireturn, 1) := by decide +kernel
theorem dL_undo_14 : decode cL_undo 14 = .ok (.iconst 0, 1) := by decide +kernel
theorem dL_undo_15 : decode cL_undo 15 = .ok (.ireturn, 1) := by decide +kernel
theorem dL_restore_0 : decode cL_restore 0 = .ok (.aload_n 1, 1) := by decide +kernel
theorem dL_restore_1 : decode cL_restore 1 = .ok (.iconst 0, 1) := by decide +kernel
theorem dL_restore_2 : decode cL_restore 2 = .ok (.aload_n 0, 1) := by decide +kernel
theorem dL_restore_3 : decode cL_restore 3 = .ok (.invokevirtual 157, 3) := by decide +kernel
theorem dL_restore_6 : decode cL_restore 6 = .ok (.i2l, 1) := by decide +kernel
theorem dL_restore_7 : decode cL_restore 7 = .ok (.lastore, 1) := by decide +kernel
theorem dL_restore_8 : decode cL_restore 8 = .ok (.goto 6, 3) := by decide +kernel
theorem dL_restore_11 : decode cL_restore 11 = .ok (.astore_n 2, 1) := by decide +kernel
theorem dL_restore_12 : decode cL_restore 12 = .ok (.iconst 1, 1) := by decide +kernel
theorem dL_restore_13 : decode cL_restore 13 = .ok (.ireturn, 1) := by decide +kernel
theorem dL_restore_14 : decode cL_restore 14 = .ok (.iconst 0, 1) := by decide +kernel
theorem dL_restore_15 : decode cL_restore 15 = .ok (.ireturn, 1) := by decide +kernel
theorem dL_formatWord_0 : decode cL_formatWord 0 = .ok (.aload_n 2, 1) := by decide +kernel
theorem dL_formatWord_1 : decode cL_formatWord 1 = .ok (.iconst 0, 1) := by decide +kernel
theorem dL_formatWord_2 : decode cL_formatWord 2 = .ok (.aload_n 0, 1) := by decide +kernel
theorem dL_formatWord_3 : decode cL_formatWord 3 = .ok (.iload_n 1, 1) := by decide +kernel
theorem dL_formatWord_4 : decode cL_formatWord 4 = .ok (.invokevirtual 160, 3) := by decide +kernel
theorem dL_formatWord_7 : decode cL_formatWord 7 = .ok (.i2l, 1) := by decide +kernel
theorem dL_formatWord_8 : decode cL_formatWord 8 = .ok (.lastore, 1) := by decide +kernel
theorem dL_formatWord_9 : decode cL_formatWord 9 = .ok (.goto 6, 3) := by decide +kernel
theorem dL_formatWord_12 : decode cL_formatWord 12 = .ok (.astore_n 3, 1) := by decide +kernel
theorem dL_formatWord_13 : decode cL_formatWord 13 = .ok (.iconst 1, 1) := by decide +kernel
theorem dL_formatWord_14 : decode cL_formatWord 14 = .ok (.ireturn, 1) := by decide +kernel
theorem dL_formatWord_15 : decode cL_formatWord 15 = .ok (.iconst 0, 1) := by decide +kernel
theorem dL_formatWord_16 : decode cL_formatWord 16 = .ok (.ireturn, 1) := by decide +kernel
theorem dL_formatBasisWord_0 : decode cL_formatBasisWord 0 = .ok (.aload_n 3, 1) := by decide +kernel
theorem dL_formatBasisWord_1 : decode cL_formatBasisWord 1 = .ok (.iconst 0, 1) := by decide +kernel
theorem dL_formatBasisWord_2 : decode cL_formatBasisWord 2 = .ok (.aload_n 0, 1) := by decide +kernel
theorem dL_formatBasisWord_3 : decode cL_formatBasisWord 3 = .ok (.iload_n 1, 1) := by decide +kernel
theorem dL_formatBasisWord_4 : decode cL_formatBasisWord 4 = .ok (.iload_n 2, 1) := by decide +kernel
theorem dL_formatBasisWord_5 : decode cL_formatBasisWord 5 = .ok (.invokevirtual 163, 3) := by decide +kernel
theorem dL_formatBasisWord_8 : decode cL_formatBasisWord 8 = .ok (.i2l, 1) := by decide +kernel
theorem dL_formatBasisWord_9 : decode cL_formatBasisWord 9 = .ok (.lastore, 1) := by decide +kernel
theorem dL_formatBasisWord_10 : decode cL_formatBasisWord 10 = .ok (.goto 7, 3) := by decide +kernel
theorem dL_formatBasisWord_13 : decode cL_formatBasisWord 13 = .ok (.astore 4, 2) := by decide +kernel
theorem dL_formatBasisWord_15 : decode cL_formatBasisWord 15 = .ok (.iconst 1, 1) := by decide +kernel
theorem dL_formatBasisWord_16 : decode cL_formatBasisWord 16 = .ok (.ireturn, 1) := by decide +kernel
theorem dL_formatBasisWord_17 : decode cL_formatBasisWord 17 = .ok (.iconst 0, 1) := by decide +kernel
theorem dL_formatBasisWord_18 : decode cL_formatBasisWord 18 = .ok (.ireturn, 1) := by decide +kernel
theorem dL_formatRepresentative_0 : decode cL_formatRepresentative 0 = .ok (.aload_n 3, 1) := by decide +kernel
theorem dL_formatRepresentative_1 : decode cL_formatRepresentative 1 = .ok (.iconst 0, 1) := by decide +kernel
theorem dL_formatRepresentative_2 : decode cL_formatRepresentative 2 = .ok (.aload_n 0, 1) := by decide +kernel
theorem dL_formatRepresentative_3 : decode cL_formatRepresentative 3 = .ok (.iload_n 1, 1) := by decide +kernel
theorem dL_formatRepresentative_4 : decode cL_formatRepresentative 4 = .ok (.iload_n 2, 1) := by decide +kernel
theorem dL_formatRepresentative_5 : decode cL_formatRepresentative 5 = .ok (.invokevirtual 166, 3) := by decide +kernel
theorem dL_formatRepresentative_8 : decode cL_formatRepresentative 8 = .ok (.i2l, 1) := by decide +kernel
theorem dL_formatRepresentative_9 : decode cL_formatRepresentative 9 = .ok (.lastore, 1) := by decide +kernel
theorem dL_formatRepresentative_10 : decode cL_formatRepresentative 10 = .ok (.goto 7, 3) := by decide +kernel
theorem dL_formatRepresentative_13 : decode cL_formatRepresentative 13 = .ok (.astore 4, 2) := by decide +kernel
theorem dL_formatRepresentative_15 : decode cL_formatRepresentative 15 = .ok (.iconst 1, 1) := by decide +kernel
theorem dL_formatRepresentative_16 : decode cL_formatRepresentative 16 = .ok (.ireturn, 1) := by decide +kernel
theorem dL_formatRepresentative_17 : decode cL_formatRepresentative 17 = .ok (.iconst 0, 1) := by decide +kernel
theorem dL_formatRepresentative_18 : decode cL_formatRepresentative 18 = .ok (.ireturn, 1) := by decide +kernel
theorem dL_formattedCharacter_0 : decode cL_formattedCharacter 0 = .ok (.aload_n 2, 1) := by decide +kernel
theorem dL_formattedCharacter_1 : decode cL_formattedCharacter 1 = .ok (.iconst 0, 1) := by decide +kernel
theorem dL_formattedCharacter_2 : decode cL_formattedCharacter 2 = .ok (.aload_n 0, 1) := by decide +kernel
theorem dL_formattedCharacter_3 : decode cL_formattedCharacter 3 = .ok (.iload_n 1, 1) := by decide +kernel
theorem dL_formattedCharacter_4 : decode cL_formattedCharacter 4 = .ok (.invokevirtual 169, 3) := by decide +kernel
theorem dL_formattedCharacter_7 : decode cL_formattedCharacter 7 = .ok (.i2l, 1) := by decide +kernel
theorem dL_formattedCharacter_8 : decode cL_formattedCharacter 8 = .ok (.lastore, 1) := by decide +kernel
theorem dL_formattedCharacter_9 : decode cL_formattedCharacter 9 = .ok (.goto 6, 3) := by decide +kernel
theorem dL_formattedCharacter_12 : decode cL_formattedCharacter 12 = .ok (.astore_n 3, 1) := by decide +kernel
theorem dL_formattedCharacter_13 : decode cL_formattedCharacter 13 = .ok (.iconst 1, 1) := by decide +kernel
theorem dL_formattedCharacter_14 : decode cL_formattedCharacter 14 = .ok (.ireturn, 1) := by decide +kernel
theorem dL_formattedCharacter_15 : decode cL_formattedCharacter 15 = .ok (.iconst 0, 1) := by decide +kernel
theorem dL_formattedCharacter_16 : decode cL_formattedCharacter 16 = .ok (.ireturn, 1) := by decide +kernel
