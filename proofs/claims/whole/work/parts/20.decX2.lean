/-! rows that decode -/
theorem dX2_init_0 : decode cX2_init 0 = .ok (.aload_n 0, 1) := by decide +kernel
theorem dX2_init_1 : decode cX2_init 1 = .ok (.invokespecial 3, 3) := by decide +kernel
theorem dX2_init_4 : decode cX2_init 4 = .ok (.aload_n 0, 1) := by decide +kernel
theorem dX2_init_5 : decode cX2_init 5 = .ok (.sipush 2840, 3) := by decide +kernel
theorem dX2_init_8 : decode cX2_init 8 = .ok (.newarray .int, 2) := by decide +kernel
theorem dX2_init_10 : decode cX2_init 10 = .ok (.putfield 9, 3) := by decide +kernel
theorem dX2_init_13 : decode cX2_init 13 = .ok (.aload_n 0, 1) := by decide +kernel
theorem dX2_init_14 : decode cX2_init 14 = .ok (.sipush 355, 3) := by decide +kernel
theorem dX2_init_17 : decode cX2_init 17 = .ok (.newarray .int, 2) := by decide +kernel
theorem dX2_init_19 : decode cX2_init 19 = .ok (.putfield 15, 3) := by decide +kernel
theorem dX2_init_22 : decode cX2_init 22 = .ok (.aload_n 0, 1) := by decide +kernel
theorem dX2_init_23 : decode cX2_init 23 = .ok (.sipush 355, 3) := by decide +kernel
theorem dX2_init_26 : decode cX2_init 26 = .ok (.newarray .int, 2) := by decide +kernel
theorem dX2_init_28 : decode cX2_init 28 = .ok (.putfield 18, 3) := by decide +kernel
theorem dX2_init_31 : decode cX2_init 31 = .ok (.aload_n 0, 1) := by decide +kernel
theorem dX2_init_32 : decode cX2_init 32 = .ok (.sipush 355, 3) := by decide +kernel
theorem dX2_init_35 : decode cX2_init 35 = .ok (.newarray .int, 2) := by decide +kernel
theorem dX2_init_37 : decode cX2_init 37 = .ok (.putfield 21, 3) := by decide +kernel
theorem dX2_init_40 : decode cX2_init 40 = .ok (.aload_n 0, 1) := by decide +kernel
theorem dX2_init_41 : decode cX2_init 41 = .ok (.iconst 1, 1) := by decide +kernel
theorem dX2_init_42 : decode cX2_init 42 = .ok (.putfield 24, 3) := by decide +kernel
theorem dX2_init_45 : decode cX2_init 45 = .ok (.aload_n 0, 1) := by decide +kernel
theorem dX2_init_46 : decode cX2_init 46 = .ok (.iconst 1, 1) := by decide +kernel
theorem dX2_init_47 : decode cX2_init 47 = .ok (.putfield 28, 3) := by decide +kernel
theorem dX2_init_50 : decode cX2_init 50 = .ok (.return_, 1) := by decide +kernel
theorem dX2_follow_0 : decode cX2_follow 0 = .ok (.aload_n 0, 1) := by decide +kernel
theorem dX2_follow_1 : decode cX2_follow 1 = .ok (.getfield 9, 3) := by decide +kernel
theorem dX2_follow_4 : decode cX2_follow 4 = .ok (.iload_n 1, 1) := by decide +kernel
theorem dX2_follow_5 : decode cX2_follow 5 = .ok (.bipush 8, 2) := by decide +kernel
theorem dX2_follow_7 : decode cX2_follow 7 = .ok (.imul, 1) := by decide +kernel
theorem dX2_follow_8 : decode cX2_follow 8 = .ok (.iload_n 2, 1) := by decide +kernel
theorem dX2_follow_9 : decode cX2_follow 9 = .ok (.iadd, 1) := by decide +kernel
theorem dX2_follow_10 : decode cX2_follow 10 = .ok (.iaload, 1) := by decide +kernel
theorem dX2_follow_11 : decode cX2_follow 11 = .ok (.ireturn, 1) := by decide +kernel
theorem dX2_cycleRank_0 : decode cX2_cycleRank 0 = .ok (.aload_n 0, 1) := by decide +kernel
theorem dX2_cycleRank_1 : decode cX2_cycleRank 1 = .ok (.getfield 32, 3) := by decide +kernel
theorem dX2_cycleRank_4 : decode cX2_cycleRank 4 = .ok (.aload_n 0, 1) := by decide +kernel
theorem dX2_cycleRank_5 : decode cX2_cycleRank 5 = .ok (.getfield 24, 3) := by decide +kernel
theorem dX2_cycleRank_8 : decode cX2_cycleRank 8 = .ok (.isub, 1) := by decide +kernel
theorem dX2_cycleRank_9 : decode cX2_cycleRank 9 = .ok (.iconst 1, 1) := by decide +kernel
theorem dX2_cycleRank_10 : decode cX2_cycleRank 10 = .ok (.iadd, 1) := by decide +kernel
theorem dX2_cycleRank_11 : decode cX2_cycleRank 11 = .ok (.ireturn, 1) := by decide +kernel
theorem dX2_isComplete_0 : decode cX2_isComplete 0 = .ok (.iconst 0, 1) := by decide +kernel
theorem dX2_isComplete_1 : decode cX2_isComplete 1 = .ok (.istore_n 2, 1) := by decide +kernel
theorem dX2_isComplete_2 : decode cX2_isComplete 2 = .ok (.iload_n 2, 1) := by decide +kernel
theorem dX2_isComplete_3 : decode cX2_isComplete 3 = .ok (.aload_n 0, 1) := by decide +kernel
theorem dX2_isComplete_4 : decode cX2_isComplete 4 = .ok (.getfield 24, 3) := by decide +kernel
theorem dX2_isComplete_7 : decode cX2_isComplete 7 = .ok (.if_icmp .ge 36, 3) := by decide +kernel
theorem dX2_isComplete_10 : decode cX2_isComplete 10 = .ok (.iconst 0, 1) := by decide +kernel
theorem dX2_isComplete_11 : decode cX2_isComplete 11 = .ok (.istore_n 3, 1) := by decide +kernel
theorem dX2_isComplete_12 : decode cX2_isComplete 12 = .ok (.iload_n 3, 1) := by decide +kernel
theorem dX2_isComplete_13 : decode cX2_isComplete 13 = .ok (.iconst 2, 1) := by decide +kernel
theorem dX2_isComplete_14 : decode cX2_isComplete 14 = .ok (.iload_n 1, 1) := by decide +kernel
theorem dX2_isComplete_15 : decode cX2_isComplete 15 = .ok (.imul, 1) := by decide +kernel
theorem dX2_isComplete_16 : decode cX2_isComplete 16 = .ok (.if_icmp .ge 21, 3) := by decide +kernel
theorem dX2_isComplete_19 : decode cX2_isComplete 19 = .ok (.aload_n 0, 1) := by decide +kernel
theorem dX2_isComplete_20 : decode cX2_isComplete 20 = .ok (.iload_n 2, 1) := by decide +kernel
theorem dX2_isComplete_21 : decode cX2_isComplete 21 = .ok (.iload_n 3, 1) := by decide +kernel
theorem dX2_isComplete_22 : decode cX2_isComplete 22 = .ok (.invokevirtual 35, 3) := by decide +kernel
theorem dX2_isComplete_25 : decode cX2_isComplete 25 = .ok (.iconst (-1), 1) := by decide +kernel
theorem dX2_isComplete_26 : decode cX2_isComplete 26 = .ok (.if_icmp .ne 5, 3) := by decide +kernel
theorem dX2_isComplete_29 : decode cX2_isComplete 29 = .ok (.iconst 0, 1) := by decide +kernel
theorem dX2_isComplete_30 : decode cX2_isComplete 30 = .ok (.ireturn, 1) := by decide +kernel
theorem dX2_isComplete_31 : decode cX2_isComplete 31 = .ok (.iinc 3 1, 3) := by decide +kernel
theorem dX2_isComplete_34 : decode cX2_isComplete 34 = .ok (.goto (-22), 3) := by decide +kernel
theorem dX2_isComplete_37 : decode cX2_isComplete 37 = .ok (.iinc 2 1, 3) := by decide +kernel
theorem dX2_isComplete_40 : decode cX2_isComplete 40 = .ok (.goto (-38), 3) := by decide +kernel
theorem dX2_isComplete_43 : decode cX2_isComplete 43 = .ok (.iconst 1, 1) := by decide +kernel
theorem dX2_isComplete_44 : decode cX2_isComplete 44 = .ok (.ireturn, 1) := by decide +kernel
theorem dX2_trace_0 : decode cX2_trace 0 = .ok (.iload_n 1, 1) := by decide +kernel
theorem dX2_trace_1 : decode cX2_trace 1 = .ok (.istore 5, 2) := by decide +kernel
theorem dX2_trace_3 : decode cX2_trace 3 = .ok (.iload_n 3, 1) := by decide +kernel
theorem dX2_trace_4 : decode cX2_trace 4 = .ok (.istore 6, 2) := by decide +kernel
theorem dX2_trace_6 : decode cX2_trace 6 = .ok (.iload 6, 2) := by decide +kernel
theorem dX2_trace_8 : decode cX2_trace 8 = .ok (.iload 4, 2) := by decide +kernel
theorem dX2_trace_10 : decode cX2_trace 10 = .ok (.if_icmp .ge 30, 3) := by decide +kernel
theorem dX2_trace_13 : decode cX2_trace 13 = .ok (.iload 5, 2) := by decide +kernel
theorem dX2_trace_15 : decode cX2_trace 15 = .ok (.iconst (-1), 1) := by decide +kernel
theorem dX2_trace_16 : decode cX2_trace 16 = .ok (.if_icmp .eq 24, 3) := by decide +kernel
theorem dX2_trace_19 : decode cX2_trace 19 = .ok (.aload_n 0, 1) := by decide +kernel
theorem dX2_trace_20 : decode cX2_trace 20 = .ok (.iload 5, 2) := by decide +kernel
theorem dX2_trace_22 : decode cX2_trace 22 = .ok (.aload_n 2, 1) := by decide +kernel
theorem dX2_trace_23 : decode cX2_trace 23 = .ok (.getfield 39, 3) := by decide +kernel
theorem dX2_trace_26 : decode cX2_trace 26 = .ok (.iload 6, 2) := by decide +kernel
theorem dX2_trace_28 : decode cX2_trace 28 = .ok (.iaload, 1) := by decide +kernel
theorem dX2_trace_29 : decode cX2_trace 29 = .ok (.invokevirtual 35, 3) := by decide +kernel
theorem dX2_trace_32 : decode cX2_trace 32 = .ok (.istore 5, 2) := by decide +kernel
theorem dX2_trace_34 : decode cX2_trace 34 = .ok (.iinc 6 1, 3) := by decide +kernel
theorem dX2_trace_37 : decode cX2_trace 37 = .ok (.goto (-31), 3) := by decide +kernel
theorem dX2_trace_40 : decode cX2_trace 40 = .ok (.iload 5, 2) := by decide +kernel
theorem dX2_trace_42 : decode cX2_trace 42 = .ok (.ireturn, 1) := by decide +kernel
theorem dX2_isClosedPath_0 : decode cX2_isClosedPath 0 = .ok (.aload_n 0, 1) := by decide +kernel
theorem dX2_isClosedPath_1 : decode cX2_isClosedPath 1 = .ok (.iload_n 1, 1) := by decide +kernel
theorem dX2_isClosedPath_2 : decode cX2_isClosedPath 2 = .ok (.aload_n 2, 1) := by decide +kernel
theorem dX2_isClosedPath_3 : decode cX2_isClosedPath 3 = .ok (.iconst 0, 1) := by decide +kernel
theorem dX2_isClosedPath_4 : decode cX2_isClosedPath 4 = .ok (.aload_n 2, 1) := by decide +kernel
theorem dX2_isClosedPath_5 : decode cX2_isClosedPath 5 = .ok (.getfield 44, 3) := by decide +kernel
theorem dX2_isClosedPath_8 : decode cX2_isClosedPath 8 = .ok (.invokevirtual 47, 3) := by decide +kernel
theorem dX2_isClosedPath_11 : decode cX2_isClosedPath 11 = .ok (.iload_n 1, 1) := by decide +kernel
theorem dX2_isClosedPath_12 : decode cX2_isClosedPath 12 = .ok (.if_icmp .ne 7, 3) := by decide +kernel
theorem dX2_isClosedPath_15 : decode cX2_isClosedPath 15 = .ok (.iconst 1, 1) := by decide +kernel
theorem dX2_isClosedPath_16 : decode cX2_isClosedPath 16 = .ok (.goto 4, 3) := by decide +kernel
theorem dX2_isClosedPath_19 : decode cX2_isClosedPath 19 = .ok (.iconst 0, 1) := by decide +kernel
theorem dX2_isClosedPath_20 : decode cX2_isClosedPath 20 = .ok (.ireturn, 1) := by decide +kernel
theorem dX2_isClosedEverywhere_0 : decode cX2_isClosedEverywhere 0 = .ok (.iconst 0, 1) := by decide +kernel
theorem dX2_isClosedEverywhere_1 : decode cX2_isClosedEverywhere 1 = .ok (.istore_n 2, 1) := by decide +kernel
theorem dX2_isClosedEverywhere_2 : decode cX2_isClosedEverywhere 2 = .ok (.iload_n 2, 1) := by decide +kernel
theorem dX2_isClosedEverywhere_3 : decode cX2_isClosedEverywhere 3 = .ok (.aload_n 0, 1) := by decide +kernel
theorem dX2_isClosedEverywhere_4 : decode cX2_isClosedEverywhere 4 = .ok (.getfield 24, 3) := by decide +kernel
theorem dX2_isClosedEverywhere_7 : decode cX2_isClosedEverywhere 7 = .ok (.if_icmp .ge 20, 3) := by decide +kernel
theorem dX2_isClosedEverywhere_10 : decode cX2_isClosedEverywhere 10 = .ok (.aload_n 0, 1) := by decide +kernel
theorem dX2_isClosedEverywhere_11 : decode cX2_isClosedEverywhere 11 = .ok (.iload_n 2, 1) := by decide +kernel
theorem dX2_isClosedEverywhere_12 : decode cX2_isClosedEverywhere 12 = .ok (.aload_n 1, 1) := by decide +kernel
theorem dX2_isClosedEverywhere_13 : decode cX2_isClosedEverywhere 13 = .ok (.invokevirtual 51, 3) := by decide +kernel
theorem dX2_isClosedEverywhere_16 : decode cX2_isClosedEverywhere 16 = .ok (.ifCond .ne 5, 3) := by decide +kernel
theorem dX2_isClosedEverywhere_19 : decode cX2_isClosedEverywhere 19 = .ok (.iconst 0, 1) := by decide +kernel
theorem dX2_isClosedEverywhere_20 : decode cX2_isClosedEverywhere 20 = .ok (.ireturn, 1) := by decide +kernel
theorem dX2_isClosedEverywhere_21 : decode cX2_isClosedEverywhere 21 = .ok (.iinc 2 1, 3) := by decide +kernel
theorem dX2_isClosedEverywhere_24 : decode cX2_isClosedEverywhere 24 = .ok (.goto (-22), 3) := by decide +kernel
theorem dX2_isClosedEverywhere_27 : decode cX2_isClosedEverywhere 27 = .ok (.iconst 1, 1) := by decide +kernel
theorem dX2_isClosedEverywhere_28 : decode cX2_isClosedEverywhere 28 = .ok (.ireturn, 1) := by decide +kernel
theorem dX2_smallestClosedPower_0 : decode cX2_smallestClosedPower 0 = .ok (.aload_n 1, 1) := by decide +kernel
theorem dX2_smallestClosedPower_1 : decode cX2_smallestClosedPower 1 = .ok (.invokevirtual 55, 3) := by decide +kernel
theorem dX2_smallestClosedPower_4 : decode cX2_smallestClosedPower 4 = .ok (.istore_n 2, 1) := by decide +kernel
theorem dX2_smallestClosedPower_5 : decode cX2_smallestClosedPower 5 = .ok (.aload_n 0, 1) := by decide +kernel
theorem dX2_smallestClosedPower_6 : decode cX2_smallestClosedPower 6 = .ok (.iconst 0, 1) := by decide +kernel
theorem dX2_smallestClosedPower_7 : decode cX2_smallestClosedPower 7 = .ok (.aload_n 1, 1) := by decide +kernel
theorem dX2_smallestClosedPower_8 : decode cX2_smallestClosedPower 8 = .ok (.iconst 0, 1) := by decide +kernel
theorem dX2_smallestClosedPower_9 : decode cX2_smallestClosedPower 9 = .ok (.iload_n 2, 1) := by decide +kernel
theorem dX2_smallestClosedPower_10 : decode cX2_smallestClosedPower 10 = .ok (.invokevirtual 47, 3) := by decide +kernel
theorem dX2_smallestClosedPower_13 : decode cX2_smallestClosedPower 13 = .ok (.istore_n 3, 1) := by decide +kernel
theorem dX2_smallestClosedPower_14 : decode cX2_smallestClosedPower 14 = .ok (.iload_n 3, 1) := by decide +kernel
theorem dX2_smallestClosedPower_15 : decode cX2_smallestClosedPower 15 = .ok (.istore 4, 2) := by decide +kernel
theorem dX2_smallestClosedPower_17 : decode cX2_smallestClosedPower 17 = .ok (.iconst 1, 1) := by decide +kernel
theorem dX2_smallestClosedPower_18 : decode cX2_smallestClosedPower 18 = .ok (.istore 5, 2) := by decide +kernel
theorem dX2_smallestClosedPower_20 : decode cX2_smallestClosedPower 20 = .ok (.iload 5, 2) := by decide +kernel
theorem dX2_smallestClosedPower_22 : decode cX2_smallestClosedPower 22 = .ok (.aload_n 0, 1) := by decide +kernel
theorem dX2_smallestClosedPower_23 : decode cX2_smallestClosedPower 23 = .ok (.getfield 24, 3) := by decide +kernel
theorem dX2_smallestClosedPower_26 : decode cX2_smallestClosedPower 26 = .ok (.if_icmp .gt 46, 3) := by decide +kernel
theorem dX2_smallestClosedPower_29 : decode cX2_smallestClosedPower 29 = .ok (.iload 4, 2) := by decide +kernel
theorem dX2_smallestClosedPower_31 : decode cX2_smallestClosedPower 31 = .ok (.iconst (-1), 1) := by decide +kernel
theorem dX2_smallestClosedPower_32 : decode cX2_smallestClosedPower 32 = .ok (.if_icmp .eq 40, 3) := by decide +kernel
theorem dX2_smallestClosedPower_35 : decode cX2_smallestClosedPower 35 = .ok (.aload_n 0, 1) := by decide +kernel
theorem dX2_smallestClosedPower_36 : decode cX2_smallestClosedPower 36 = .ok (.iload 4, 2) := by decide +kernel
theorem dX2_smallestClosedPower_38 : decode cX2_smallestClosedPower 38 = .ok (.aload_n 1, 1) := by decide +kernel
theorem dX2_smallestClosedPower_39 : decode cX2_smallestClosedPower 39 = .ok (.iload_n 2, 1) := by decide +kernel
theorem dX2_smallestClosedPower_40 : decode cX2_smallestClosedPower 40 = .ok (.aload_n 1, 1) := by decide +kernel
theorem dX2_smallestClosedPower_41 : decode cX2_smallestClosedPower 41 = .ok (.getfield 44, 3) := by decide +kernel
theorem dX2_smallestClosedPower_44 : decode cX2_smallestClosedPower 44 = .ok (.iload_n 2, 1) := by decide +kernel
theorem dX2_smallestClosedPower_45 : decode cX2_smallestClosedPower 45 = .ok (.isub, 1) := by decide +kernel
theorem dX2_smallestClosedPower_46 : decode cX2_smallestClosedPower 46 = .ok (.invokevirtual 47, 3) := by decide +kernel
theorem dX2_smallestClosedPower_49 : decode cX2_smallestClosedPower 49 = .ok (.istore 4, 2) := by decide +kernel
theorem dX2_smallestClosedPower_51 : decode cX2_smallestClosedPower 51 = .ok (.iload 4, 2) := by decide +kernel
theorem dX2_smallestClosedPower_53 : decode cX2_smallestClosedPower 53 = .ok (.iconst (-1), 1) := by decide +kernel
theorem dX2_smallestClosedPower_54 : decode cX2_smallestClosedPower 54 = .ok (.if_icmp .eq 12, 3) := by decide +kernel
theorem dX2_smallestClosedPower_57 : decode cX2_smallestClosedPower 57 = .ok (.iload 4, 2) := by decide +kernel
theorem dX2_smallestClosedPower_59 : decode cX2_smallestClosedPower 59 = .ok (.iload_n 3, 1) := by decide +kernel
theorem dX2_smallestClosedPower_60 : decode cX2_smallestClosedPower 60 = .ok (.if_icmp .ne 6, 3) := by decide +kernel
theorem dX2_smallestClosedPower_63 : decode cX2_smallestClosedPower 63 = .ok (.iload 5, 2) := by decide +kernel
theorem dX2_smallestClosedPower_65 : decode cX2_smallestClosedPower 65 = .ok (.ireturn, 1) := by decide +kernel
theorem dX2_smallestClosedPower_66 : decode cX2_smallestClosedPower 66 = .ok (.iinc 5 1, 3) := by decide +kernel
theorem dX2_smallestClosedPower_69 : decode cX2_smallestClosedPower 69 = .ok (.goto (-49), 3) := by decide +kernel
theorem dX2_smallestClosedPower_72 : decode cX2_smallestClosedPower 72 = .ok (.iconst (-1), 1) := by decide +kernel
theorem dX2_smallestClosedPower_73 : decode cX2_smallestClosedPower 73 = .ok (.ireturn, 1) := by decide +kernel
theorem dX2_putWayBack_0 : decode cX2_putWayBack 0 = .ok (.iload_n 2, 1) := by decide +kernel
theorem dX2_putWayBack_1 : decode cX2_putWayBack 1 = .ok (.istore_n 3, 1) := by decide +kernel
theorem dX2_putWayBack_2 : decode cX2_putWayBack 2 = .ok (.aload_n 0, 1) := by decide +kernel
theorem dX2_putWayBack_3 : decode cX2_putWayBack 3 = .ok (.getfield 21, 3) := by decide +kernel
theorem dX2_putWayBack_6 : decode cX2_putWayBack 6 = .ok (.iload_n 2, 1) := by decide +kernel
theorem dX2_putWayBack_7 : decode cX2_putWayBack 7 = .ok (.iaload, 1) := by decide +kernel
theorem dX2_putWayBack_8 : decode cX2_putWayBack 8 = .ok (.istore 4, 2) := by decide +kernel
theorem dX2_putWayBack_10 : decode cX2_putWayBack 10 = .ok (.iload 4, 2) := by decide +kernel
theorem dX2_putWayBack_12 : decode cX2_putWayBack 12 = .ok (.ifCond .le 28, 3) := by decide +kernel
theorem dX2_putWayBack_15 : decode cX2_putWayBack 15 = .ok (.aload_n 1, 1) := by decide +kernel
theorem dX2_putWayBack_16 : decode cX2_putWayBack 16 = .ok (.aload_n 0, 1) := by decide +kernel
theorem dX2_putWayBack_17 : decode cX2_putWayBack 17 = .ok (.getfield 18, 3) := by decide +kernel
theorem dX2_putWayBack_20 : decode cX2_putWayBack 20 = .ok (.iload_n 3, 1) := by decide +kernel
theorem dX2_putWayBack_21 : decode cX2_putWayBack 21 = .ok (.iaload, 1) := by decide +kernel
theorem dX2_putWayBack_22 : decode cX2_putWayBack 22 = .ok (.iconst 1, 1) := by decide +kernel
theorem dX2_putWayBack_23 : decode cX2_putWayBack 23 = .ok (.ixor, 1) := by decide +kernel
theorem dX2_putWayBack_24 : decode cX2_putWayBack 24 = .ok (.invokevirtual 59, 3) := by decide +kernel
theorem dX2_putWayBack_27 : decode cX2_putWayBack 27 = .ok (.aload_n 0, 1) := by decide +kernel
theorem dX2_putWayBack_28 : decode cX2_putWayBack 28 = .ok (.getfield 15, 3) := by decide +kernel
theorem dX2_putWayBack_31 : decode cX2_putWayBack 31 = .ok (.iload_n 3, 1) := by decide +kernel
theorem dX2_putWayBack_32 : decode cX2_putWayBack 32 = .ok (.iaload, 1) := by decide +kernel
theorem dX2_putWayBack_33 : decode cX2_putWayBack 33 = .ok (.istore_n 3, 1) := by decide +kernel
theorem dX2_putWayBack_34 : decode cX2_putWayBack 34 = .ok (.iinc 4 (-1), 3) := by decide +kernel
theorem dX2_putWayBack_37 : decode cX2_putWayBack 37 = .ok (.goto (-27), 3) := by decide +kernel
theorem dX2_putWayBack_40 : decode cX2_putWayBack 40 = .ok (.return_, 1) := by decide +kernel
theorem dX2_remainingEdge_0 : decode cX2_remainingEdge 0 = .ok (.iconst 0, 1) := by decide +kernel
theorem dX2_remainingEdge_1 : decode cX2_remainingEdge 1 = .ok (.istore_n 2, 1) := by decide +kernel
theorem dX2_remainingEdge_2 : decode cX2_remainingEdge 2 = .ok (.iconst 0, 1) := by decide +kernel
theorem dX2_remainingEdge_3 : decode cX2_remainingEdge 3 = .ok (.istore_n 3, 1) := by decide +kernel
theorem dX2_remainingEdge_4 : decode cX2_remainingEdge 4 = .ok (.iload_n 3, 1) := by decide +kernel
theorem dX2_remainingEdge_5 : decode cX2_remainingEdge 5 = .ok (.aload_n 0, 1) := by decide +kernel
theorem dX2_remainingEdge_6 : decode cX2_remainingEdge 6 = .ok (.getfield 24, 3) := by decide +kernel
theorem dX2_remainingEdge_9 : decode cX2_remainingEdge 9 = .ok (.if_icmp .ge 62, 3) := by decide +kernel
theorem dX2_remainingEdge_12 : decode cX2_remainingEdge 12 = .ok (.iconst 0, 1) := by decide +kernel
theorem dX2_remainingEdge_13 : decode cX2_remainingEdge 13 = .ok (.istore 4, 2) := by decide +kernel
theorem dX2_remainingEdge_15 : decode cX2_remainingEdge 15 = .ok (.iload 4, 2) := by decide +kernel
theorem dX2_remainingEdge_17 : decode cX2_remainingEdge 17 = .ok (.bipush 8, 2) := by decide +kernel
theorem dX2_remainingEdge_19 : decode cX2_remainingEdge 19 = .ok (.if_icmp .ge 46, 3) := by decide +kernel
theorem dX2_remainingEdge_22 : decode cX2_remainingEdge 22 = .ok (.aload_n 0, 1) := by decide +kernel
theorem dX2_remainingEdge_23 : decode cX2_remainingEdge 23 = .ok (.iload_n 3, 1) := by decide +kernel
theorem dX2_remainingEdge_24 : decode cX2_remainingEdge 24 = .ok (.iload 4, 2) := by decide +kernel
theorem dX2_remainingEdge_26 : decode cX2_remainingEdge 26 = .ok (.invokevirtual 35, 3) := by decide +kernel
theorem dX2_remainingEdge_29 : decode cX2_remainingEdge 29 = .ok (.iconst (-1), 1) := by decide +kernel
theorem dX2_remainingEdge_30 : decode cX2_remainingEdge 30 = .ok (.if_icmp .eq 29, 3) := by decide +kernel
theorem dX2_remainingEdge_33 : decode cX2_remainingEdge 33 = .ok (.aload_n 0, 1) := by decide +kernel
theorem dX2_remainingEdge_34 : decode cX2_remainingEdge 34 = .ok (.iload_n 3, 1) := by decide +kernel
theorem dX2_remainingEdge_35 : decode cX2_remainingEdge 35 = .ok (.iload 4, 2) := by decide +kernel
theorem dX2_remainingEdge_37 : decode cX2_remainingEdge 37 = .ok (.invokevirtual 63, 3) := by decide +kernel
theorem dX2_remainingEdge_40 : decode cX2_remainingEdge 40 = .ok (.ifCond .ne 19, 3) := by decide +kernel
theorem dX2_remainingEdge_43 : decode cX2_remainingEdge 43 = .ok (.iload_n 2, 1) := by decide +kernel
theorem dX2_remainingEdge_44 : decode cX2_remainingEdge 44 = .ok (.iload_n 1, 1) := by decide +kernel
theorem dX2_remainingEdge_45 : decode cX2_remainingEdge 45 = .ok (.if_icmp .ne 11, 3) := by decide +kernel
theorem dX2_remainingEdge_48 : decode cX2_remainingEdge 48 = .ok (.iload_n 3, 1) := by decide +kernel
theorem dX2_remainingEdge_49 : decode cX2_remainingEdge 49 = .ok (.bipush 8, 2) := by decide +kernel
theorem dX2_remainingEdge_51 : decode cX2_remainingEdge 51 = .ok (.imul, 1) := by decide +kernel
theorem dX2_remainingEdge_52 : decode cX2_remainingEdge 52 = .ok (.iload 4, 2) := by decide +kernel
theorem dX2_remainingEdge_54 : decode cX2_remainingEdge 54 = .ok (.iadd, 1) := by decide +kernel
theorem dX2_remainingEdge_55 : decode cX2_remainingEdge 55 = .ok (.ireturn, 1) := by decide +kernel
theorem dX2_remainingEdge_56 : decode cX2_remainingEdge 56 = .ok (.iinc 2 1, 3) := by decide +kernel
theorem dX2_remainingEdge_59 : decode cX2_remainingEdge 59 = .ok (.iinc 4 2, 3) := by decide +kernel
theorem dX2_remainingEdge_62 : decode cX2_remainingEdge 62 = .ok (.goto (-47), 3) := by decide +kernel
theorem dX2_remainingEdge_65 : decode cX2_remainingEdge 65 = .ok (.iinc 3 1, 3) := by decide +kernel
theorem dX2_remainingEdge_68 : decode cX2_remainingEdge 68 = .ok (.goto (-64), 3) := by decide +kernel
theorem dX2_remainingEdge_71 : decode cX2_remainingEdge 71 = .ok (.iconst 0, 1) := by decide +kernel
theorem dX2_remainingEdge_72 : decode cX2_remainingEdge 72 = .ok (.ireturn, 1) := by decide +kernel
theorem dX2_isTreeEdge_0 : decode cX2_isTreeEdge 0 = .ok (.aload_n 0, 1) := by decide +kernel
theorem dX2_isTreeEdge_1 : decode cX2_isTreeEdge 1 = .ok (.iload_n 1, 1) := by decide +kernel
theorem dX2_isTreeEdge_2 : decode cX2_isTreeEdge 2 = .ok (.iload_n 2, 1) := by decide +kernel
theorem dX2_isTreeEdge_3 : decode cX2_isTreeEdge 3 = .ok (.invokevirtual 35, 3) := by decide +kernel
theorem dX2_isTreeEdge_6 : decode cX2_isTreeEdge 6 = .ok (.istore_n 3, 1) := by decide +kernel
theorem dX2_isTreeEdge_7 : decode cX2_isTreeEdge 7 = .ok (.iload_n 3, 1) := by decide +kernel
theorem dX2_isTreeEdge_8 : decode cX2_isTreeEdge 8 = .ok (.ifCond .le 27, 3) := by decide +kernel
theorem dX2_isTreeEdge_11 : decode cX2_isTreeEdge 11 = .ok (.aload_n 0, 1) := by decide +kernel
theorem dX2_isTreeEdge_12 : decode cX2_isTreeEdge 12 = .ok (.getfield 15, 3) := by decide +kernel
theorem dX2_isTreeEdge_15 : decode cX2_isTreeEdge 15 = .ok (.iload_n 3, 1) := by decide +kernel
theorem dX2_isTreeEdge_16 : decode cX2_isTreeEdge 16 = .ok (.iaload, 1) := by decide +kernel
theorem dX2_isTreeEdge_17 : decode cX2_isTreeEdge 17 = .ok (.iload_n 1, 1) := by decide +kernel
theorem dX2_isTreeEdge_18 : decode cX2_isTreeEdge 18 = .ok (.if_icmp .ne 17, 3) := by decide +kernel
theorem dX2_isTreeEdge_21 : decode cX2_isTreeEdge 21 = .ok (.aload_n 0, 1) := by decide +kernel
theorem dX2_isTreeEdge_22 : decode cX2_isTreeEdge 22 = .ok (.getfield 18, 3) := by decide +kernel
theorem dX2_isTreeEdge_25 : decode cX2_isTreeEdge 25 = .ok (.iload_n 3, 1) := by decide +kernel
theorem dX2_isTreeEdge_26 : decode cX2_isTreeEdge 26 = .ok (.iaload, 1) := by decide +kernel
theorem dX2_isTreeEdge_27 : decode cX2_isTreeEdge 27 = .ok (.iload_n 2, 1) := by decide +kernel
theorem dX2_isTreeEdge_28 : decode cX2_isTreeEdge 28 = .ok (.if_icmp .ne 7, 3) := by decide +kernel
theorem dX2_isTreeEdge_31 : decode cX2_isTreeEdge 31 = .ok (.iconst 1, 1) := by decide +kernel
theorem dX2_isTreeEdge_32 : decode cX2_isTreeEdge 32 = .ok (.goto 4, 3) := by decide +kernel
theorem dX2_isTreeEdge_35 : decode cX2_isTreeEdge 35 = .ok (.iconst 0, 1) := by decide +kernel
theorem dX2_isTreeEdge_36 : decode cX2_isTreeEdge 36 = .ok (.istore 4, 2) := by decide +kernel
theorem dX2_isTreeEdge_38 : decode cX2_isTreeEdge 38 = .ok (.iload_n 1, 1) := by decide +kernel
theorem dX2_isTreeEdge_39 : decode cX2_isTreeEdge 39 = .ok (.ifCond .le 29, 3) := by decide +kernel
theorem dX2_isTreeEdge_42 : decode cX2_isTreeEdge 42 = .ok (.aload_n 0, 1) := by decide +kernel
theorem dX2_isTreeEdge_43 : decode cX2_isTreeEdge 43 = .ok (.getfield 15, 3) := by decide +kernel
theorem dX2_isTreeEdge_46 : decode cX2_isTreeEdge 46 = .ok (.iload_n 1, 1) := by decide +kernel
theorem dX2_isTreeEdge_47 : decode cX2_isTreeEdge 47 = .ok (.iaload, 1) := by decide +kernel
theorem dX2_isTreeEdge_48 : decode cX2_isTreeEdge 48 = .ok (.iload_n 3, 1) := by decide +kernel
theorem dX2_isTreeEdge_49 : decode cX2_isTreeEdge 49 = .ok (.if_icmp .ne 19, 3) := by decide +kernel
theorem dX2_isTreeEdge_52 : decode cX2_isTreeEdge 52 = .ok (.aload_n 0, 1) := by decide +kernel
theorem dX2_isTreeEdge_53 : decode cX2_isTreeEdge 53 = .ok (.getfield 18, 3) := by decide +kernel
theorem dX2_isTreeEdge_56 : decode cX2_isTreeEdge 56 = .ok (.iload_n 1, 1) := by decide +kernel
theorem dX2_isTreeEdge_57 : decode cX2_isTreeEdge 57 = .ok (.iaload, 1) := by decide +kernel
theorem dX2_isTreeEdge_58 : decode cX2_isTreeEdge 58 = .ok (.iload_n 2, 1) := by decide +kernel
theorem dX2_isTreeEdge_59 : decode cX2_isTreeEdge 59 = .ok (.iconst 1, 1) := by decide +kernel
theorem dX2_isTreeEdge_60 : decode cX2_isTreeEdge 60 = .ok (.ixor, 1) := by decide +kernel
theorem dX2_isTreeEdge_61 : decode cX2_isTreeEdge 61 = .ok (.if_icmp .ne 7, 3) := by decide +kernel
theorem dX2_isTreeEdge_64 : decode cX2_isTreeEdge 64 = .ok (.iconst 1, 1) := by decide +kernel
theorem dX2_isTreeEdge_65 : decode cX2_isTreeEdge 65 = .ok (.goto 4, 3) := by decide +kernel
theorem dX2_isTreeEdge_68 : decode cX2_isTreeEdge 68 = .ok (.iconst 0, 1) := by decide +kernel
theorem dX2_isTreeEdge_69 : decode cX2_isTreeEdge 69 = .ok (.istore 5, 2) := by decide +kernel
theorem dX2_isTreeEdge_71 : decode cX2_isTreeEdge 71 = .ok (.iload 4, 2) := by decide +kernel
theorem dX2_isTreeEdge_73 : decode cX2_isTreeEdge 73 = .ok (.ifCond .ne 8, 3) := by decide +kernel
theorem dX2_isTreeEdge_76 : decode cX2_isTreeEdge 76 = .ok (.iload 5, 2) := by decide +kernel
theorem dX2_isTreeEdge_78 : decode cX2_isTreeEdge 78 = .ok (.ifCond .eq 7, 3) := by decide +kernel
theorem dX2_isTreeEdge_81 : decode cX2_isTreeEdge 81 = .ok (.iconst 1, 1) := by decide +kernel
theorem dX2_isTreeEdge_82 : decode cX2_isTreeEdge 82 = .ok (.goto 4, 3) := by decide +kernel
theorem dX2_isTreeEdge_85 : decode cX2_isTreeEdge 85 = .ok (.iconst 0, 1) := by decide +kernel
theorem dX2_isTreeEdge_86 : decode cX2_isTreeEdge 86 = .ok (.ireturn, 1) := by decide +kernel

