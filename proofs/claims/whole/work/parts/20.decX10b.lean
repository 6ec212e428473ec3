/-! rows that decode -/
theorem dX10_merges_0 : decode cX10_merges 0 = .ok (.aload_n 0, 1) := by decide +kernel
theorem dX10_merges_1 : decode cX10_merges 1 = .ok (.iconst 0, 1) := by decide +kernel
theorem dX10_merges_2 : decode cX10_merges 2 = .ok (.putfield 143, 3) := by decide +kernel
theorem dX10_merges_5 : decode cX10_merges 5 = .ok (.aload_n 0, 1) := by decide +kernel
theorem dX10_merges_6 : decode cX10_merges 6 = .ok (.iload_n 1, 1) := by decide +kernel
theorem dX10_merges_7 : decode cX10_merges 7 = .ok (.iload_n 2, 1) := by decide +kernel
theorem dX10_merges_8 : decode cX10_merges 8 = .ok (.invokevirtual 146, 3) := by decide +kernel
theorem dX10_merges_11 : decode cX10_merges 11 = .ok (.aload_n 0, 1) := by decide +kernel
theorem dX10_merges_12 : decode cX10_merges 12 = .ok (.getfield 143, 3) := by decide +kernel
theorem dX10_merges_15 : decode cX10_merges 15 = .ok (.ifCond .le 73, 3) := by decide +kernel
theorem dX10_merges_18 : decode cX10_merges 18 = .ok (.aload_n 0, 1) := by decide +kernel
theorem dX10_merges_19 : decode cX10_merges 19 = .ok (.dup, 1) := by decide +kernel
theorem dX10_merges_20 : decode cX10_merges 20 = .ok (.getfield 143, 3) := by decide +kernel
theorem dX10_merges_23 : decode cX10_merges 23 = .ok (.iconst 1, 1) := by decide +kernel
theorem dX10_merges_24 : decode cX10_merges 24 = .ok (.isub, 1) := by decide +kernel
theorem dX10_merges_25 : decode cX10_merges 25 = .ok (.putfield 143, 3) := by decide +kernel
theorem dX10_merges_28 : decode cX10_merges 28 = .ok (.aload_n 0, 1) := by decide +kernel
theorem dX10_merges_29 : decode cX10_merges 29 = .ok (.aload_n 0, 1) := by decide +kernel
theorem dX10_merges_30 : decode cX10_merges 30 = .ok (.getfield 38, 3) := by decide +kernel
theorem dX10_merges_33 : decode cX10_merges 33 = .ok (.iconst 2, 1) := by decide +kernel
theorem dX10_merges_34 : decode cX10_merges 34 = .ok (.aload_n 0, 1) := by decide +kernel
theorem dX10_merges_35 : decode cX10_merges 35 = .ok (.getfield 143, 3) := by decide +kernel
theorem dX10_merges_38 : decode cX10_merges 38 = .ok (.imul, 1) := by decide +kernel
theorem dX10_merges_39 : decode cX10_merges 39 = .ok (.iaload, 1) := by decide +kernel
theorem dX10_merges_40 : decode cX10_merges 40 = .ok (.invokevirtual 149, 3) := by decide +kernel
theorem dX10_merges_43 : decode cX10_merges 43 = .ok (.istore_n 3, 1) := by decide +kernel
theorem dX10_merges_44 : decode cX10_merges 44 = .ok (.aload_n 0, 1) := by decide +kernel
theorem dX10_merges_45 : decode cX10_merges 45 = .ok (.aload_n 0, 1) := by decide +kernel
theorem dX10_merges_46 : decode cX10_merges 46 = .ok (.getfield 38, 3) := by decide +kernel
theorem dX10_merges_49 : decode cX10_merges 49 = .ok (.iconst 2, 1) := by decide +kernel
theorem dX10_merges_50 : decode cX10_merges 50 = .ok (.aload_n 0, 1) := by decide +kernel
theorem dX10_merges_51 : decode cX10_merges 51 = .ok (.getfield 143, 3) := by decide +kernel
theorem dX10_merges_54 : decode cX10_merges 54 = .ok (.imul, 1) := by decide +kernel
theorem dX10_merges_55 : decode cX10_merges 55 = .ok (.iconst 1, 1) := by decide +kernel
theorem dX10_merges_56 : decode cX10_merges 56 = .ok (.iadd, 1) := by decide +kernel
theorem dX10_merges_57 : decode cX10_merges 57 = .ok (.iaload, 1) := by decide +kernel
theorem dX10_merges_58 : decode cX10_merges 58 = .ok (.invokevirtual 149, 3) := by decide +kernel
theorem dX10_merges_61 : decode cX10_merges 61 = .ok (.istore 4, 2) := by decide +kernel
theorem dX10_merges_63 : decode cX10_merges 63 = .ok (.iload_n 3, 1) := by decide +kernel
theorem dX10_merges_64 : decode cX10_merges 64 = .ok (.iload 4, 2) := by decide +kernel
theorem dX10_merges_66 : decode cX10_merges 66 = .ok (.if_icmp .eq 19, 3) := by decide +kernel
theorem dX10_merges_69 : decode cX10_merges 69 = .ok (.aload_n 0, 1) := by decide +kernel
theorem dX10_merges_70 : decode cX10_merges 70 = .ok (.iload_n 3, 1) := by decide +kernel
theorem dX10_merges_71 : decode cX10_merges 71 = .ok (.iload 4, 2) := by decide +kernel
theorem dX10_merges_73 : decode cX10_merges 73 = .ok (.invokestatic 152, 3) := by decide +kernel
theorem dX10_merges_76 : decode cX10_merges 76 = .ok (.iload_n 3, 1) := by decide +kernel
theorem dX10_merges_77 : decode cX10_merges 77 = .ok (.iload 4, 2) := by decide +kernel
theorem dX10_merges_79 : decode cX10_merges 79 = .ok (.invokestatic 157, 3) := by decide +kernel
theorem dX10_merges_82 : decode cX10_merges 82 = .ok (.invokevirtual 160, 3) := by decide +kernel
theorem dX10_merges_85 : decode cX10_merges 85 = .ok (.goto (-74), 3) := by decide +kernel
theorem dX10_merges_88 : decode cX10_merges 88 = .ok (.return_, 1) := by decide +kernel
theorem dX10_mergesInto_0 : decode cX10_mergesInto 0 = .ok (.aload_n 0, 1) := by decide +kernel
theorem dX10_mergesInto_1 : decode cX10_mergesInto 1 = .ok (.getfield 34, 3) := by decide +kernel
theorem dX10_mergesInto_4 : decode cX10_mergesInto 4 = .ok (.iload_n 2, 1) := by decide +kernel
theorem dX10_mergesInto_5 : decode cX10_mergesInto 5 = .ok (.iload_n 1, 1) := by decide +kernel
theorem dX10_mergesInto_6 : decode cX10_mergesInto 6 = .ok (.iastore, 1) := by decide +kernel
theorem dX10_mergesInto_7 : decode cX10_mergesInto 7 = .ok (.iconst 0, 1) := by decide +kernel
theorem dX10_mergesInto_8 : decode cX10_mergesInto 8 = .ok (.istore_n 3, 1) := by decide +kernel
theorem dX10_mergesInto_9 : decode cX10_mergesInto 9 = .ok (.iload_n 3, 1) := by decide +kernel
theorem dX10_mergesInto_10 : decode cX10_mergesInto 10 = .ok (.bipush 8, 2) := by decide +kernel
theorem dX10_mergesInto_12 : decode cX10_mergesInto 12 = .ok (.if_icmp .ge 79, 3) := by decide +kernel
theorem dX10_mergesInto_15 : decode cX10_mergesInto 15 = .ok (.aload_n 0, 1) := by decide +kernel
theorem dX10_mergesInto_16 : decode cX10_mergesInto 16 = .ok (.getfield 31, 3) := by decide +kernel
theorem dX10_mergesInto_19 : decode cX10_mergesInto 19 = .ok (.bipush 8, 2) := by decide +kernel
theorem dX10_mergesInto_21 : decode cX10_mergesInto 21 = .ok (.iload_n 2, 1) := by decide +kernel
theorem dX10_mergesInto_22 : decode cX10_mergesInto 22 = .ok (.imul, 1) := by decide +kernel
theorem dX10_mergesInto_23 : decode cX10_mergesInto 23 = .ok (.iload_n 3, 1) := by decide +kernel
theorem dX10_mergesInto_24 : decode cX10_mergesInto 24 = .ok (.iadd, 1) := by decide +kernel
theorem dX10_mergesInto_25 : decode cX10_mergesInto 25 = .ok (.iaload, 1) := by decide +kernel
theorem dX10_mergesInto_26 : decode cX10_mergesInto 26 = .ok (.istore 4, 2) := by decide +kernel
theorem dX10_mergesInto_28 : decode cX10_mergesInto 28 = .ok (.iload 4, 2) := by decide +kernel
theorem dX10_mergesInto_30 : decode cX10_mergesInto 30 = .ok (.iconst (-1), 1) := by decide +kernel
theorem dX10_mergesInto_31 : decode cX10_mergesInto 31 = .ok (.if_icmp .ne 6, 3) := by decide +kernel
theorem dX10_mergesInto_34 : decode cX10_mergesInto 34 = .ok (.goto 51, 3) := by decide +kernel
theorem dX10_mergesInto_37 : decode cX10_mergesInto 37 = .ok (.aload_n 0, 1) := by decide +kernel
theorem dX10_mergesInto_38 : decode cX10_mergesInto 38 = .ok (.getfield 31, 3) := by decide +kernel
theorem dX10_mergesInto_41 : decode cX10_mergesInto 41 = .ok (.bipush 8, 2) := by decide +kernel
theorem dX10_mergesInto_43 : decode cX10_mergesInto 43 = .ok (.iload_n 1, 1) := by decide +kernel
theorem dX10_mergesInto_44 : decode cX10_mergesInto 44 = .ok (.imul, 1) := by decide +kernel
theorem dX10_mergesInto_45 : decode cX10_mergesInto 45 = .ok (.iload_n 3, 1) := by decide +kernel
theorem dX10_mergesInto_46 : decode cX10_mergesInto 46 = .ok (.iadd, 1) := by decide +kernel
theorem dX10_mergesInto_47 : decode cX10_mergesInto 47 = .ok (.iaload, 1) := by decide +kernel
theorem dX10_mergesInto_48 : decode cX10_mergesInto 48 = .ok (.iconst (-1), 1) := by decide +kernel
theorem dX10_mergesInto_49 : decode cX10_mergesInto 49 = .ok (.if_icmp .ne 19, 3) := by decide +kernel
theorem dX10_mergesInto_52 : decode cX10_mergesInto 52 = .ok (.aload_n 0, 1) := by decide +kernel
theorem dX10_mergesInto_53 : decode cX10_mergesInto 53 = .ok (.getfield 31, 3) := by decide +kernel
theorem dX10_mergesInto_56 : decode cX10_mergesInto 56 = .ok (.bipush 8, 2) := by decide +kernel
theorem dX10_mergesInto_58 : decode cX10_mergesInto 58 = .ok (.iload_n 1, 1) := by decide +kernel
theorem dX10_mergesInto_59 : decode cX10_mergesInto 59 = .ok (.imul, 1) := by decide +kernel
theorem dX10_mergesInto_60 : decode cX10_mergesInto 60 = .ok (.iload_n 3, 1) := by decide +kernel
theorem dX10_mergesInto_61 : decode cX10_mergesInto 61 = .ok (.iadd, 1) := by decide +kernel
theorem dX10_mergesInto_62 : decode cX10_mergesInto 62 = .ok (.iload 4, 2) := by decide +kernel
theorem dX10_mergesInto_64 : decode cX10_mergesInto 64 = .ok (.iastore, 1) := by decide +kernel
theorem dX10_mergesInto_65 : decode cX10_mergesInto 65 = .ok (.goto 20, 3) := by decide +kernel
theorem dX10_mergesInto_68 : decode cX10_mergesInto 68 = .ok (.aload_n 0, 1) := by decide +kernel
theorem dX10_mergesInto_69 : decode cX10_mergesInto 69 = .ok (.aload_n 0, 1) := by decide +kernel
theorem dX10_mergesInto_70 : decode cX10_mergesInto 70 = .ok (.getfield 31, 3) := by decide +kernel
theorem dX10_mergesInto_73 : decode cX10_mergesInto 73 = .ok (.bipush 8, 2) := by decide +kernel
theorem dX10_mergesInto_75 : decode cX10_mergesInto 75 = .ok (.iload_n 1, 1) := by decide +kernel
theorem dX10_mergesInto_76 : decode cX10_mergesInto 76 = .ok (.imul, 1) := by decide +kernel
theorem dX10_mergesInto_77 : decode cX10_mergesInto 77 = .ok (.iload_n 3, 1) := by decide +kernel
theorem dX10_mergesInto_78 : decode cX10_mergesInto 78 = .ok (.iadd, 1) := by decide +kernel
theorem dX10_mergesInto_79 : decode cX10_mergesInto 79 = .ok (.iaload, 1) := by decide +kernel
theorem dX10_mergesInto_80 : decode cX10_mergesInto 80 = .ok (.iload 4, 2) := by decide +kernel
theorem dX10_mergesInto_82 : decode cX10_mergesInto 82 = .ok (.invokevirtual 146, 3) := by decide +kernel
theorem dX10_mergesInto_85 : decode cX10_mergesInto 85 = .ok (.iinc 3 1, 3) := by decide +kernel
theorem dX10_mergesInto_88 : decode cX10_mergesInto 88 = .ok (.goto (-79), 3) := by decide +kernel
theorem dX10_mergesInto_91 : decode cX10_mergesInto 91 = .ok (.return_, 1) := by decide +kernel
theorem dX10_joins_0 : decode cX10_joins 0 = .ok (.aload_n 0, 1) := by decide +kernel
theorem dX10_joins_1 : decode cX10_joins 1 = .ok (.iload_n 1, 1) := by decide +kernel
theorem dX10_joins_2 : decode cX10_joins 2 = .ok (.invokevirtual 149, 3) := by decide +kernel
theorem dX10_joins_5 : decode cX10_joins 5 = .ok (.istore 4, 2) := by decide +kernel
theorem dX10_joins_7 : decode cX10_joins 7 = .ok (.aload_n 0, 1) := by decide +kernel
theorem dX10_joins_8 : decode cX10_joins 8 = .ok (.iload_n 3, 1) := by decide +kernel
theorem dX10_joins_9 : decode cX10_joins 9 = .ok (.invokevirtual 149, 3) := by decide +kernel
theorem dX10_joins_12 : decode cX10_joins 12 = .ok (.istore 5, 2) := by decide +kernel
theorem dX10_joins_14 : decode cX10_joins 14 = .ok (.aload_n 0, 1) := by decide +kernel
theorem dX10_joins_15 : decode cX10_joins 15 = .ok (.getfield 31, 3) := by decide +kernel
theorem dX10_joins_18 : decode cX10_joins 18 = .ok (.bipush 8, 2) := by decide +kernel
theorem dX10_joins_20 : decode cX10_joins 20 = .ok (.iload 4, 2) := by decide +kernel
theorem dX10_joins_22 : decode cX10_joins 22 = .ok (.imul, 1) := by decide +kernel
theorem dX10_joins_23 : decode cX10_joins 23 = .ok (.iload_n 2, 1) := by decide +kernel
theorem dX10_joins_24 : decode cX10_joins 24 = .ok (.iadd, 1) := by decide +kernel
theorem dX10_joins_25 : decode cX10_joins 25 = .ok (.iaload, 1) := by decide +kernel
theorem dX10_joins_26 : decode cX10_joins 26 = .ok (.istore 6, 2) := by decide +kernel
theorem dX10_joins_28 : decode cX10_joins 28 = .ok (.aload_n 0, 1) := by decide +kernel
theorem dX10_joins_29 : decode cX10_joins 29 = .ok (.getfield 31, 3) := by decide +kernel
theorem dX10_joins_32 : decode cX10_joins 32 = .ok (.bipush 8, 2) := by decide +kernel
theorem dX10_joins_34 : decode cX10_joins 34 = .ok (.iload 5, 2) := by decide +kernel
theorem dX10_joins_36 : decode cX10_joins 36 = .ok (.imul, 1) := by decide +kernel
theorem dX10_joins_37 : decode cX10_joins 37 = .ok (.iload_n 2, 1) := by decide +kernel
theorem dX10_joins_38 : decode cX10_joins 38 = .ok (.iconst 1, 1) := by decide +kernel
theorem dX10_joins_39 : decode cX10_joins 39 = .ok (.ixor, 1) := by decide +kernel
theorem dX10_joins_40 : decode cX10_joins 40 = .ok (.iadd, 1) := by decide +kernel
theorem dX10_joins_41 : decode cX10_joins 41 = .ok (.iaload, 1) := by decide +kernel
theorem dX10_joins_42 : decode cX10_joins 42 = .ok (.istore 7, 2) := by decide +kernel
theorem dX10_joins_44 : decode cX10_joins 44 = .ok (.iload 6, 2) := by decide +kernel
theorem dX10_joins_46 : decode cX10_joins 46 = .ok (.iconst (-1), 1) := by decide +kernel
theorem dX10_joins_47 : decode cX10_joins 47 = .ok (.if_icmp .eq 12, 3) := by decide +kernel
theorem dX10_joins_50 : decode cX10_joins 50 = .ok (.aload_n 0, 1) := by decide +kernel
theorem dX10_joins_51 : decode cX10_joins 51 = .ok (.iload 6, 2) := by decide +kernel
theorem dX10_joins_53 : decode cX10_joins 53 = .ok (.iload 5, 2) := by decide +kernel
theorem dX10_joins_55 : decode cX10_joins 55 = .ok (.invokevirtual 163, 3) := by decide +kernel
theorem dX10_joins_58 : decode cX10_joins 58 = .ok (.return_, 1) := by decide +kernel
theorem dX10_joins_59 : decode cX10_joins 59 = .ok (.iload 7, 2) := by decide +kernel
theorem dX10_joins_61 : decode cX10_joins 61 = .ok (.iconst (-1), 1) := by decide +kernel
theorem dX10_joins_62 : decode cX10_joins 62 = .ok (.if_icmp .eq 12, 3) := by decide +kernel
theorem dX10_joins_65 : decode cX10_joins 65 = .ok (.aload_n 0, 1) := by decide +kernel
theorem dX10_joins_66 : decode cX10_joins 66 = .ok (.iload 7, 2) := by decide +kernel
theorem dX10_joins_68 : decode cX10_joins 68 = .ok (.iload 4, 2) := by decide +kernel
theorem dX10_joins_70 : decode cX10_joins 70 = .ok (.invokevirtual 163, 3) := by decide +kernel
theorem dX10_joins_73 : decode cX10_joins 73 = .ok (.return_, 1) := by decide +kernel
theorem dX10_joins_74 : decode cX10_joins 74 = .ok (.aload_n 0, 1) := by decide +kernel
theorem dX10_joins_75 : decode cX10_joins 75 = .ok (.getfield 31, 3) := by decide +kernel
theorem dX10_joins_78 : decode cX10_joins 78 = .ok (.bipush 8, 2) := by decide +kernel
theorem dX10_joins_80 : decode cX10_joins 80 = .ok (.iload 4, 2) := by decide +kernel
theorem dX10_joins_82 : decode cX10_joins 82 = .ok (.imul, 1) := by decide +kernel
theorem dX10_joins_83 : decode cX10_joins 83 = .ok (.iload_n 2, 1) := by decide +kernel
theorem dX10_joins_84 : decode cX10_joins 84 = .ok (.iadd, 1) := by decide +kernel
theorem dX10_joins_85 : decode cX10_joins 85 = .ok (.iload 5, 2) := by decide +kernel
theorem dX10_joins_87 : decode cX10_joins 87 = .ok (.iastore, 1) := by decide +kernel
theorem dX10_joins_88 : decode cX10_joins 88 = .ok (.aload_n 0, 1) := by decide +kernel
theorem dX10_joins_89 : decode cX10_joins 89 = .ok (.getfield 31, 3) := by decide +kernel
theorem dX10_joins_92 : decode cX10_joins 92 = .ok (.bipush 8, 2) := by decide +kernel
theorem dX10_joins_94 : decode cX10_joins 94 = .ok (.iload 5, 2) := by decide +kernel
theorem dX10_joins_96 : decode cX10_joins 96 = .ok (.imul, 1) := by decide +kernel
theorem dX10_joins_97 : decode cX10_joins 97 = .ok (.iload_n 2, 1) := by decide +kernel
theorem dX10_joins_98 : decode cX10_joins 98 = .ok (.iconst 1, 1) := by decide +kernel
theorem dX10_joins_99 : decode cX10_joins 99 = .ok (.ixor, 1) := by decide +kernel
theorem dX10_joins_100 : decode cX10_joins 100 = .ok (.iadd, 1) := by decide +kernel
theorem dX10_joins_101 : decode cX10_joins 101 = .ok (.iload 4, 2) := by decide +kernel
theorem dX10_joins_103 : decode cX10_joins 103 = .ok (.iastore, 1) := by decide +kernel
theorem dX10_joins_104 : decode cX10_joins 104 = .ok (.return_, 1) := by decide +kernel
theorem dX10_addsPath_0 : decode cX10_addsPath 0 = .ok (.iconst 0, 1) := by decide +kernel
theorem dX10_addsPath_1 : decode cX10_addsPath 1 = .ok (.istore_n 2, 1) := by decide +kernel
theorem dX10_addsPath_2 : decode cX10_addsPath 2 = .ok (.iconst 0, 1) := by decide +kernel
theorem dX10_addsPath_3 : decode cX10_addsPath 3 = .ok (.istore_n 3, 1) := by decide +kernel
theorem dX10_addsPath_4 : decode cX10_addsPath 4 = .ok (.iload_n 3, 1) := by decide +kernel
theorem dX10_addsPath_5 : decode cX10_addsPath 5 = .ok (.aload_n 0, 1) := by decide +kernel
theorem dX10_addsPath_6 : decode cX10_addsPath 6 = .ok (.iload_n 1, 1) := by decide +kernel
theorem dX10_addsPath_7 : decode cX10_addsPath 7 = .ok (.invokevirtual 94, 3) := by decide +kernel
theorem dX10_addsPath_10 : decode cX10_addsPath 10 = .ok (.if_icmp .ge 46, 3) := by decide +kernel
theorem dX10_addsPath_13 : decode cX10_addsPath 13 = .ok (.iload_n 3, 1) := by decide +kernel
theorem dX10_addsPath_14 : decode cX10_addsPath 14 = .ok (.aload_n 0, 1) := by decide +kernel
theorem dX10_addsPath_15 : decode cX10_addsPath 15 = .ok (.iload_n 1, 1) := by decide +kernel
theorem dX10_addsPath_16 : decode cX10_addsPath 16 = .ok (.invokevirtual 94, 3) := by decide +kernel
theorem dX10_addsPath_19 : decode cX10_addsPath 19 = .ok (.iconst 1, 1) := by decide +kernel
theorem dX10_addsPath_20 : decode cX10_addsPath 20 = .ok (.isub, 1) := by decide +kernel
theorem dX10_addsPath_21 : decode cX10_addsPath 21 = .ok (.if_icmp .ne 7, 3) := by decide +kernel
theorem dX10_addsPath_24 : decode cX10_addsPath 24 = .ok (.iconst 0, 1) := by decide +kernel
theorem dX10_addsPath_25 : decode cX10_addsPath 25 = .ok (.goto 7, 3) := by decide +kernel
theorem dX10_addsPath_28 : decode cX10_addsPath 28 = .ok (.aload_n 0, 1) := by decide +kernel
theorem dX10_addsPath_29 : decode cX10_addsPath 29 = .ok (.invokevirtual 166, 3) := by decide +kernel
theorem dX10_addsPath_32 : decode cX10_addsPath 32 = .ok (.istore 4, 2) := by decide +kernel
theorem dX10_addsPath_34 : decode cX10_addsPath 34 = .ok (.aload_n 0, 1) := by decide +kernel
theorem dX10_addsPath_35 : decode cX10_addsPath 35 = .ok (.iload_n 2, 1) := by decide +kernel
theorem dX10_addsPath_36 : decode cX10_addsPath 36 = .ok (.aload_n 0, 1) := by decide +kernel
theorem dX10_addsPath_37 : decode cX10_addsPath 37 = .ok (.iload_n 1, 1) := by decide +kernel
theorem dX10_addsPath_38 : decode cX10_addsPath 38 = .ok (.iload_n 3, 1) := by decide +kernel
theorem dX10_addsPath_39 : decode cX10_addsPath 39 = .ok (.invokevirtual 104, 3) := by decide +kernel
theorem dX10_addsPath_42 : decode cX10_addsPath 42 = .ok (.iload 4, 2) := by decide +kernel
theorem dX10_addsPath_44 : decode cX10_addsPath 44 = .ok (.invokevirtual 170, 3) := by decide +kernel
theorem dX10_addsPath_47 : decode cX10_addsPath 47 = .ok (.iload 4, 2) := by decide +kernel
theorem dX10_addsPath_49 : decode cX10_addsPath 49 = .ok (.istore_n 2, 1) := by decide +kernel
theorem dX10_addsPath_50 : decode cX10_addsPath 50 = .ok (.iinc 3 1, 3) := by decide +kernel
theorem dX10_addsPath_53 : decode cX10_addsPath 53 = .ok (.goto (-49), 3) := by decide +kernel
theorem dX10_addsPath_56 : decode cX10_addsPath 56 = .ok (.return_, 1) := by decide +kernel
theorem dX10_edgePlace_0 : decode cX10_edgePlace 0 = .ok (.bipush 8, 2) := by decide +kernel
theorem dX10_edgePlace_2 : decode cX10_edgePlace 2 = .ok (.sipush 361, 3) := by decide +kernel
theorem dX10_edgePlace_5 : decode cX10_edgePlace 5 = .ok (.iload_n 0, 1) := by decide +kernel
theorem dX10_edgePlace_6 : decode cX10_edgePlace 6 = .ok (.imul, 1) := by decide +kernel
theorem dX10_edgePlace_7 : decode cX10_edgePlace 7 = .ok (.iload_n 1, 1) := by decide +kernel
theorem dX10_edgePlace_8 : decode cX10_edgePlace 8 = .ok (.iadd, 1) := by decide +kernel
theorem dX10_edgePlace_9 : decode cX10_edgePlace 9 = .ok (.imul, 1) := by decide +kernel
theorem dX10_edgePlace_10 : decode cX10_edgePlace 10 = .ok (.iload_n 2, 1) := by decide +kernel
theorem dX10_edgePlace_11 : decode cX10_edgePlace 11 = .ok (.iadd, 1) := by decide +kernel
theorem dX10_edgePlace_12 : decode cX10_edgePlace 12 = .ok (.ireturn, 1) := by decide +kernel
theorem dX10_step_0 : decode cX10_step 0 = .ok (.iload_n 2, 1) := by decide +kernel
theorem dX10_step_1 : decode cX10_step 1 = .ok (.iconst (-1), 1) := by decide +kernel
theorem dX10_step_2 : decode cX10_step 2 = .ok (.if_icmp .ne 7, 3) := by decide +kernel
theorem dX10_step_5 : decode cX10_step 5 = .ok (.iconst (-1), 1) := by decide +kernel
theorem dX10_step_6 : decode cX10_step 6 = .ok (.goto 14, 3) := by decide +kernel
theorem dX10_step_9 : decode cX10_step 9 = .ok (.aload_n 0, 1) := by decide +kernel
theorem dX10_step_10 : decode cX10_step 10 = .ok (.getfield 41, 3) := by decide +kernel
theorem dX10_step_13 : decode cX10_step 13 = .ok (.iload_n 1, 1) := by decide +kernel
theorem dX10_step_14 : decode cX10_step 14 = .ok (.iload_n 2, 1) := by decide +kernel
theorem dX10_step_15 : decode cX10_step 15 = .ok (.iload_n 3, 1) := by decide +kernel
theorem dX10_step_16 : decode cX10_step 16 = .ok (.invokestatic 174, 3) := by decide +kernel
theorem dX10_step_19 : decode cX10_step 19 = .ok (.iaload, 1) := by decide +kernel
theorem dX10_step_20 : decode cX10_step 20 = .ok (.ireturn, 1) := by decide +kernel
theorem dX10_makes_0 : decode cX10_makes 0 = .ok (.aload_n 0, 1) := by decide +kernel
theorem dX10_makes_1 : decode cX10_makes 1 = .ok (.iconst 0, 1) := by decide +kernel
theorem dX10_makes_2 : decode cX10_makes 2 = .ok (.putfield 140, 3) := by decide +kernel
theorem dX10_makes_5 : decode cX10_makes 5 = .ok (.aload_n 0, 1) := by decide +kernel
theorem dX10_makes_6 : decode cX10_makes 6 = .ok (.invokevirtual 166, 3) := by decide +kernel
theorem dX10_makes_9 : decode cX10_makes 9 = .ok (.pop, 1) := by decide +kernel
theorem dX10_makes_10 : decode cX10_makes 10 = .ok (.iconst 0, 1) := by decide +kernel
theorem dX10_makes_11 : decode cX10_makes 11 = .ok (.istore_n 2, 1) := by decide +kernel
theorem dX10_makes_12 : decode cX10_makes 12 = .ok (.iload_n 2, 1) := by decide +kernel
theorem dX10_makes_13 : decode cX10_makes 13 = .ok (.aload_n 0, 1) := by decide +kernel
theorem dX10_makes_14 : decode cX10_makes 14 = .ok (.iload_n 1, 1) := by decide +kernel
theorem dX10_makes_15 : decode cX10_makes 15 = .ok (.invokestatic 98, 3) := by decide +kernel
theorem dX10_makes_18 : decode cX10_makes 18 = .ok (.invokevirtual 94, 3) := by decide +kernel
theorem dX10_makes_21 : decode cX10_makes 21 = .ok (.if_icmp .ge 18, 3) := by decide +kernel
theorem dX10_makes_24 : decode cX10_makes 24 = .ok (.aload_n 0, 1) := by decide +kernel
theorem dX10_makes_25 : decode cX10_makes 25 = .ok (.iload_n 1, 1) := by decide +kernel
theorem dX10_makes_26 : decode cX10_makes 26 = .ok (.iload_n 2, 1) := by decide +kernel
theorem dX10_makes_27 : decode cX10_makes 27 = .ok (.invokestatic 178, 3) := by decide +kernel
theorem dX10_makes_30 : decode cX10_makes 30 = .ok (.invokevirtual 181, 3) := by decide +kernel
theorem dX10_makes_33 : decode cX10_makes 33 = .ok (.iinc 2 1, 3) := by decide +kernel
theorem dX10_makes_36 : decode cX10_makes 36 = .ok (.goto (-24), 3) := by decide +kernel
theorem dX10_makes_39 : decode cX10_makes 39 = .ok (.iconst 0, 1) := by decide +kernel
theorem dX10_makes_40 : decode cX10_makes 40 = .ok (.istore_n 2, 1) := by decide +kernel
theorem dX10_makes_41 : decode cX10_makes 41 = .ok (.iload_n 2, 1) := by decide +kernel
theorem dX10_makes_42 : decode cX10_makes 42 = .ok (.aload_n 0, 1) := by decide +kernel
theorem dX10_makes_43 : decode cX10_makes 43 = .ok (.getfield 140, 3) := by decide +kernel
theorem dX10_makes_46 : decode cX10_makes 46 = .ok (.if_icmp .ge 16, 3) := by decide +kernel
theorem dX10_makes_49 : decode cX10_makes 49 = .ok (.aload_n 0, 1) := by decide +kernel
theorem dX10_makes_50 : decode cX10_makes 50 = .ok (.getfield 53, 3) := by decide +kernel
theorem dX10_makes_53 : decode cX10_makes 53 = .ok (.iload_n 2, 1) := by decide +kernel
theorem dX10_makes_54 : decode cX10_makes 54 = .ok (.iconst (-1), 1) := by decide +kernel
theorem dX10_makes_55 : decode cX10_makes 55 = .ok (.iastore, 1) := by decide +kernel
theorem dX10_makes_56 : decode cX10_makes 56 = .ok (.iinc 2 1, 3) := by decide +kernel
theorem dX10_makes_59 : decode cX10_makes 59 = .ok (.goto (-18), 3) := by decide +kernel
theorem dX10_makes_62 : decode cX10_makes 62 = .ok (.iconst 1, 1) := by decide +kernel
theorem dX10_makes_63 : decode cX10_makes 63 = .ok (.istore_n 2, 1) := by decide +kernel
theorem dX10_makes_64 : decode cX10_makes 64 = .ok (.aload_n 0, 1) := by decide +kernel
theorem dX10_makes_65 : decode cX10_makes 65 = .ok (.getfield 56, 3) := by decide +kernel
theorem dX10_makes_68 : decode cX10_makes 68 = .ok (.iconst 0, 1) := by decide +kernel
theorem dX10_makes_69 : decode cX10_makes 69 = .ok (.aload_n 0, 1) := by decide +kernel
theorem dX10_makes_70 : decode cX10_makes 70 = .ok (.iconst 0, 1) := by decide +kernel
theorem dX10_makes_71 : decode cX10_makes 71 = .ok (.invokevirtual 149, 3) := by decide +kernel
theorem dX10_makes_74 : decode cX10_makes 74 = .ok (.iastore, 1) := by decide +kernel
theorem dX10_makes_75 : decode cX10_makes 75 = .ok (.aload_n 0, 1) := by decide +kernel
theorem dX10_makes_76 : decode cX10_makes 76 = .ok (.getfield 53, 3) := by decide +kernel
theorem dX10_makes_79 : decode cX10_makes 79 = .ok (.aload_n 0, 1) := by decide +kernel
theorem dX10_makes_80 : decode cX10_makes 80 = .ok (.getfield 56, 3) := by decide +kernel
theorem dX10_makes_83 : decode cX10_makes 83 = .ok (.iconst 0, 1) := by decide +kernel
theorem dX10_makes_84 : decode cX10_makes 84 = .ok (.iaload, 1) := by decide +kernel
theorem dX10_makes_85 : decode cX10_makes 85 = .ok (.iconst 0, 1) := by decide +kernel
theorem dX10_makes_86 : decode cX10_makes 86 = .ok (.iastore, 1) := by decide +kernel
theorem dX10_makes_87 : decode cX10_makes 87 = .ok (.aload_n 0, 1) := by decide +kernel
theorem dX10_makes_88 : decode cX10_makes 88 = .ok (.getfield 47, 3) := by decide +kernel
theorem dX10_makes_91 : decode cX10_makes 91 = .ok (.sipush 361, 3) := by decide +kernel
theorem dX10_makes_94 : decode cX10_makes 94 = .ok (.iload_n 1, 1) := by decide +kernel
theorem dX10_makes_95 : decode cX10_makes 95 = .ok (.imul, 1) := by decide +kernel
theorem dX10_makes_96 : decode cX10_makes 96 = .ok (.iconst (-1), 1) := by decide +kernel
theorem dX10_makes_97 : decode cX10_makes 97 = .ok (.iastore, 1) := by decide +kernel
theorem dX10_makes_98 : decode cX10_makes 98 = .ok (.iconst 0, 1) := by decide +kernel
theorem dX10_makes_99 : decode cX10_makes 99 = .ok (.istore_n 3, 1) := by decide +kernel
theorem dX10_makes_100 : decode cX10_makes 100 = .ok (.iload_n 3, 1) := by decide +kernel
theorem dX10_makes_101 : decode cX10_makes 101 = .ok (.iload_n 2, 1) := by decide +kernel
theorem dX10_makes_102 : decode cX10_makes 102 = .ok (.if_icmp .ge 144, 3) := by decide +kernel
theorem dX10_makes_105 : decode cX10_makes 105 = .ok (.iconst 0, 1) := by decide +kernel
theorem dX10_makes_106 : decode cX10_makes 106 = .ok (.istore 4, 2) := by decide +kernel
theorem dX10_makes_108 : decode cX10_makes 108 = .ok (.iload 4, 2) := by decide +kernel
theorem dX10_makes_110 : decode cX10_makes 110 = .ok (.bipush 8, 2) := by decide +kernel
theorem dX10_makes_112 : decode cX10_makes 112 = .ok (.if_icmp .ge 128, 3) := by decide +kernel
theorem dX10_makes_115 : decode cX10_makes 115 = .ok (.aload_n 0, 1) := by decide +kernel
theorem dX10_makes_116 : decode cX10_makes 116 = .ok (.getfield 31, 3) := by decide +kernel
theorem dX10_makes_119 : decode cX10_makes 119 = .ok (.bipush 8, 2) := by decide +kernel
theorem dX10_makes_121 : decode cX10_makes 121 = .ok (.aload_n 0, 1) := by decide +kernel
theorem dX10_makes_122 : decode cX10_makes 122 = .ok (.getfield 56, 3) := by decide +kernel
theorem dX10_makes_125 : decode cX10_makes 125 = .ok (.iload_n 3, 1) := by decide +kernel
theorem dX10_makes_126 : decode cX10_makes 126 = .ok (.iaload, 1) := by decide +kernel
theorem dX10_makes_127 : decode cX10_makes 127 = .ok (.imul, 1) := by decide +kernel
theorem dX10_makes_128 : decode cX10_makes 128 = .ok (.iload 4, 2) := by decide +kernel
theorem dX10_makes_130 : decode cX10_makes 130 = .ok (.iadd, 1) := by decide +kernel
theorem dX10_makes_131 : decode cX10_makes 131 = .ok (.iaload, 1) := by decide +kernel
theorem dX10_makes_132 : decode cX10_makes 132 = .ok (.istore 5, 2) := by decide +kernel
theorem dX10_makes_134 : decode cX10_makes 134 = .ok (.iload 5, 2) := by decide +kernel
theorem dX10_makes_136 : decode cX10_makes 136 = .ok (.iconst (-1), 1) := by decide +kernel
theorem dX10_makes_137 : decode cX10_makes 137 = .ok (.if_icmp .eq 68, 3) := by decide +kernel
theorem dX10_makes_140 : decode cX10_makes 140 = .ok (.aload_n 0, 1) := by decide +kernel
theorem dX10_makes_141 : decode cX10_makes 141 = .ok (.iload 5, 2) := by decide +kernel
theorem dX10_makes_143 : decode cX10_makes 143 = .ok (.invokevirtual 149, 3) := by decide +kernel
theorem dX10_makes_146 : decode cX10_makes 146 = .ok (.istore 5, 2) := by decide +kernel
theorem dX10_makes_148 : decode cX10_makes 148 = .ok (.aload_n 0, 1) := by decide +kernel
theorem dX10_makes_149 : decode cX10_makes 149 = .ok (.getfield 53, 3) := by decide +kernel
theorem dX10_makes_152 : decode cX10_makes 152 = .ok (.iload 5, 2) := by decide +kernel
theorem dX10_makes_154 : decode cX10_makes 154 = .ok (.iaload, 1) := by decide +kernel
theorem dX10_makes_155 : decode cX10_makes 155 = .ok (.iconst (-1), 1) := by decide +kernel
theorem dX10_makes_156 : decode cX10_makes 156 = .ok (.if_icmp .ne 49, 3) := by decide +kernel
theorem dX10_makes_159 : decode cX10_makes 159 = .ok (.aload_n 0, 1) := by decide +kernel
theorem dX10_makes_160 : decode cX10_makes 160 = .ok (.getfield 53, 3) := by decide +kernel
theorem dX10_makes_163 : decode cX10_makes 163 = .ok (.iload 5, 2) := by decide +kernel
theorem dX10_makes_165 : decode cX10_makes 165 = .ok (.iload_n 2, 1) := by decide +kernel
theorem dX10_makes_166 : decode cX10_makes 166 = .ok (.iastore, 1) := by decide +kernel
theorem dX10_makes_167 : decode cX10_makes 167 = .ok (.aload_n 0, 1) := by decide +kernel
theorem dX10_makes_168 : decode cX10_makes 168 = .ok (.getfield 56, 3) := by decide +kernel
theorem dX10_makes_171 : decode cX10_makes 171 = .ok (.iload_n 2, 1) := by decide +kernel
theorem dX10_makes_172 : decode cX10_makes 172 = .ok (.iload 5, 2) := by decide +kernel
theorem dX10_makes_174 : decode cX10_makes 174 = .ok (.iastore, 1) := by decide +kernel
theorem dX10_makes_175 : decode cX10_makes 175 = .ok (.aload_n 0, 1) := by decide +kernel
theorem dX10_makes_176 : decode cX10_makes 176 = .ok (.getfield 47, 3) := by decide +kernel
theorem dX10_makes_179 : decode cX10_makes 179 = .ok (.sipush 361, 3) := by decide +kernel
theorem dX10_makes_182 : decode cX10_makes 182 = .ok (.iload_n 1, 1) := by decide +kernel
theorem dX10_makes_183 : decode cX10_makes 183 = .ok (.imul, 1) := by decide +kernel
theorem dX10_makes_184 : decode cX10_makes 184 = .ok (.iload_n 2, 1) := by decide +kernel
theorem dX10_makes_185 : decode cX10_makes 185 = .ok (.iadd, 1) := by decide +kernel
theorem dX10_makes_186 : decode cX10_makes 186 = .ok (.iload_n 3, 1) := by decide +kernel
theorem dX10_makes_187 : decode cX10_makes 187 = .ok (.iastore, 1) := by decide +kernel
theorem dX10_makes_188 : decode cX10_makes 188 = .ok (.aload_n 0, 1) := by decide +kernel
theorem dX10_makes_189 : decode cX10_makes 189 = .ok (.getfield 50, 3) := by decide +kernel
theorem dX10_makes_192 : decode cX10_makes 192 = .ok (.sipush 361, 3) := by decide +kernel
theorem dX10_makes_195 : decode cX10_makes 195 = .ok (.iload_n 1, 1) := by decide +kernel
theorem dX10_makes_196 : decode cX10_makes 196 = .ok (.imul, 1) := by decide +kernel
theorem dX10_makes_197 : decode cX10_makes 197 = .ok (.iload_n 2, 1) := by decide +kernel
theorem dX10_makes_198 : decode cX10_makes 198 = .ok (.iadd, 1) := by decide +kernel
theorem dX10_makes_199 : decode cX10_makes 199 = .ok (.iload 4, 2) := by decide +kernel
theorem dX10_makes_201 : decode cX10_makes 201 = .ok (.iastore, 1) := by decide +kernel
theorem dX10_makes_202 : decode cX10_makes 202 = .ok (.iinc 2 1, 3) := by decide +kernel
theorem dX10_makes_205 : decode cX10_makes 205 = .ok (.aload_n 0, 1) := by decide +kernel
theorem dX10_makes_206 : decode cX10_makes 206 = .ok (.getfield 41, 3) := by decide +kernel
theorem dX10_makes_209 : decode cX10_makes 209 = .ok (.iload_n 1, 1) := by decide +kernel
theorem dX10_makes_210 : decode cX10_makes 210 = .ok (.iload_n 3, 1) := by decide +kernel
theorem dX10_makes_211 : decode cX10_makes 211 = .ok (.iload 4, 2) := by decide +kernel
theorem dX10_makes_213 : decode cX10_makes 213 = .ok (.invokestatic 174, 3) := by decide +kernel
theorem dX10_makes_216 : decode cX10_makes 216 = .ok (.iload 5, 2) := by decide +kernel
theorem dX10_makes_218 : decode cX10_makes 218 = .ok (.iconst (-1), 1) := by decide +kernel
theorem dX10_makes_219 : decode cX10_makes 219 = .ok (.if_icmp .ne 7, 3) := by decide +kernel
theorem dX10_makes_222 : decode cX10_makes 222 = .ok (.iconst (-1), 1) := by decide +kernel
theorem dX10_makes_223 : decode cX10_makes 223 = .ok (.goto 10, 3) := by decide +kernel
theorem dX10_makes_226 : decode cX10_makes 226 = .ok (.aload_n 0, 1) := by decide +kernel
theorem dX10_makes_227 : decode cX10_makes 227 = .ok (.getfield 53, 3) := by decide +kernel
theorem dX10_makes_230 : decode cX10_makes 230 = .ok (.iload 5, 2) := by decide +kernel
theorem dX10_makes_232 : decode cX10_makes 232 = .ok (.iaload, 1) := by decide +kernel
theorem dX10_makes_233 : decode cX10_makes 233 = .ok (.iastore, 1) := by decide +kernel
theorem dX10_makes_234 : decode cX10_makes 234 = .ok (.iinc 4 1, 3) := by decide +kernel
theorem dX10_makes_237 : decode cX10_makes 237 = .ok (.goto (-129), 3) := by decide +kernel
theorem dX10_makes_240 : decode cX10_makes 240 = .ok (.iinc 3 1, 3) := by decide +kernel
theorem dX10_makes_243 : decode cX10_makes 243 = .ok (.goto (-143), 3) := by decide +kernel
theorem dX10_makes_246 : decode cX10_makes 246 = .ok (.aload_n 0, 1) := by decide +kernel
theorem dX10_makes_247 : decode cX10_makes 247 = .ok (.getfield 44, 3) := by decide +kernel
theorem dX10_makes_250 : decode cX10_makes 250 = .ok (.iload_n 1, 1) := by decide +kernel
theorem dX10_makes_251 : decode cX10_makes 251 = .ok (.iload_n 2, 1) := by decide +kernel
theorem dX10_makes_252 : decode cX10_makes 252 = .ok (.iastore, 1) := by decide +kernel
theorem dX10_makes_253 : decode cX10_makes 253 = .ok (.return_, 1) := by decide +kernel
theorem dX10_manyEdges_0 : decode cX10_manyEdges 0 = .ok (.iconst 0, 1) := by decide +kernel
theorem dX10_manyEdges_1 : decode cX10_manyEdges 1 = .ok (.istore_n 2, 1) := by decide +kernel
theorem dX10_manyEdges_2 : decode cX10_manyEdges 2 = .ok (.iconst 0, 1) := by decide +kernel
theorem dX10_manyEdges_3 : decode cX10_manyEdges 3 = .ok (.istore_n 3, 1) := by decide +kernel
theorem dX10_manyEdges_4 : decode cX10_manyEdges 4 = .ok (.iload_n 3, 1) := by decide +kernel
theorem dX10_manyEdges_5 : decode cX10_manyEdges 5 = .ok (.aload_n 0, 1) := by decide +kernel
theorem dX10_manyEdges_6 : decode cX10_manyEdges 6 = .ok (.getfield 44, 3) := by decide +kernel
theorem dX10_manyEdges_9 : decode cX10_manyEdges 9 = .ok (.iload_n 1, 1) := by decide +kernel
theorem dX10_manyEdges_10 : decode cX10_manyEdges 10 = .ok (.iaload, 1) := by decide +kernel
theorem dX10_manyEdges_11 : decode cX10_manyEdges 11 = .ok (.if_icmp .ge 40, 3) := by decide +kernel
theorem dX10_manyEdges_14 : decode cX10_manyEdges 14 = .ok (.iconst 0, 1) := by decide +kernel
theorem dX10_manyEdges_15 : decode cX10_manyEdges 15 = .ok (.istore 4, 2) := by decide +kernel
theorem dX10_manyEdges_17 : decode cX10_manyEdges 17 = .ok (.iload 4, 2) := by decide +kernel
theorem dX10_manyEdges_19 : decode cX10_manyEdges 19 = .ok (.bipush 8, 2) := by decide +kernel
theorem dX10_manyEdges_21 : decode cX10_manyEdges 21 = .ok (.if_icmp .ge 24, 3) := by decide +kernel
theorem dX10_manyEdges_24 : decode cX10_manyEdges 24 = .ok (.aload_n 0, 1) := by decide +kernel
theorem dX10_manyEdges_25 : decode cX10_manyEdges 25 = .ok (.iload_n 1, 1) := by decide +kernel
theorem dX10_manyEdges_26 : decode cX10_manyEdges 26 = .ok (.iload_n 3, 1) := by decide +kernel
theorem dX10_manyEdges_27 : decode cX10_manyEdges 27 = .ok (.iload 4, 2) := by decide +kernel
theorem dX10_manyEdges_29 : decode cX10_manyEdges 29 = .ok (.invokevirtual 184, 3) := by decide +kernel
theorem dX10_manyEdges_32 : decode cX10_manyEdges 32 = .ok (.iconst (-1), 1) := by decide +kernel
theorem dX10_manyEdges_33 : decode cX10_manyEdges 33 = .ok (.if_icmp .eq 6, 3) := by decide +kernel
theorem dX10_manyEdges_36 : decode cX10_manyEdges 36 = .ok (.iinc 2 1, 3) := by decide +kernel
theorem dX10_manyEdges_39 : decode cX10_manyEdges 39 = .ok (.iinc 4 2, 3) := by decide +kernel
theorem dX10_manyEdges_42 : decode cX10_manyEdges 42 = .ok (.goto (-25), 3) := by decide +kernel
theorem dX10_manyEdges_45 : decode cX10_manyEdges 45 = .ok (.iinc 3 1, 3) := by decide +kernel
theorem dX10_manyEdges_48 : decode cX10_manyEdges 48 = .ok (.goto (-44), 3) := by decide +kernel
theorem dX10_manyEdges_51 : decode cX10_manyEdges 51 = .ok (.iload_n 2, 1) := by decide +kernel
theorem dX10_manyEdges_52 : decode cX10_manyEdges 52 = .ok (.ireturn, 1) := by decide +kernel
theorem dX10_rankOf_0 : decode cX10_rankOf 0 = .ok (.aload_n 0, 1) := by decide +kernel
theorem dX10_rankOf_1 : decode cX10_rankOf 1 = .ok (.iload_n 1, 1) := by decide +kernel
theorem dX10_rankOf_2 : decode cX10_rankOf 2 = .ok (.invokevirtual 187, 3) := by decide +kernel
theorem dX10_rankOf_5 : decode cX10_rankOf 5 = .ok (.aload_n 0, 1) := by decide +kernel
theorem dX10_rankOf_6 : decode cX10_rankOf 6 = .ok (.getfield 44, 3) := by decide +kernel
theorem dX10_rankOf_9 : decode cX10_rankOf 9 = .ok (.iload_n 1, 1) := by decide +kernel
theorem dX10_rankOf_10 : decode cX10_rankOf 10 = .ok (.iaload, 1) := by decide +kernel
theorem dX10_rankOf_11 : decode cX10_rankOf 11 = .ok (.isub, 1) := by decide +kernel
theorem dX10_rankOf_12 : decode cX10_rankOf 12 = .ok (.iconst 1, 1) := by decide +kernel
theorem dX10_rankOf_13 : decode cX10_rankOf 13 = .ok (.iadd, 1) := by decide +kernel
theorem dX10_rankOf_14 : decode cX10_rankOf 14 = .ok (.ireturn, 1) := by decide +kernel
theorem dX10_indexOf_0 : decode cX10_indexOf 0 = .ok (.aload_n 0, 1) := by decide +kernel
theorem dX10_indexOf_1 : decode cX10_indexOf 1 = .ok (.iload_n 1, 1) := by decide +kernel
theorem dX10_indexOf_2 : decode cX10_indexOf 2 = .ok (.invokevirtual 187, 3) := by decide +kernel
theorem dX10_indexOf_5 : decode cX10_indexOf 5 = .ok (.aload_n 0, 1) := by decide +kernel
theorem dX10_indexOf_6 : decode cX10_indexOf 6 = .ok (.iconst 0, 1) := by decide +kernel
theorem dX10_indexOf_7 : decode cX10_indexOf 7 = .ok (.invokevirtual 94, 3) := by decide +kernel
theorem dX10_indexOf_10 : decode cX10_indexOf 10 = .ok (.aload_n 0, 1) := by decide +kernel
theorem dX10_indexOf_11 : decode cX10_indexOf 11 = .ok (.getfield 44, 3) := by decide +kernel
theorem dX10_indexOf_14 : decode cX10_indexOf 14 = .ok (.iload_n 1, 1) := by decide +kernel
theorem dX10_indexOf_15 : decode cX10_indexOf 15 = .ok (.iaload, 1) := by decide +kernel
theorem dX10_indexOf_16 : decode cX10_indexOf 16 = .ok (.imul, 1) := by decide +kernel
theorem dX10_indexOf_17 : decode cX10_indexOf 17 = .ok (.if_icmp .ne 12, 3) := by decide +kernel
theorem dX10_indexOf_20 : decode cX10_indexOf 20 = .ok (.aload_n 0, 1) := by decide +kernel
theorem dX10_indexOf_21 : decode cX10_indexOf 21 = .ok (.getfield 44, 3) := by decide +kernel
theorem dX10_indexOf_24 : decode cX10_indexOf 24 = .ok (.iload_n 1, 1) := by decide +kernel
theorem dX10_indexOf_25 : decode cX10_indexOf 25 = .ok (.iaload, 1) := by decide +kernel
theorem dX10_indexOf_26 : decode cX10_indexOf 26 = .ok (.goto 4, 3) := by decide +kernel
theorem dX10_indexOf_29 : decode cX10_indexOf 29 = .ok (.iconst (-1), 1) := by decide +kernel
theorem dX10_indexOf_30 : decode cX10_indexOf 30 = .ok (.ireturn, 1) := by decide +kernel
theorem dX10_follows_0 : decode cX10_follows 0 = .ok (.iload_n 2, 1) := by decide +kernel
theorem dX10_follows_1 : decode cX10_follows 1 = .ok (.istore 6, 2) := by decide +kernel
theorem dX10_follows_3 : decode cX10_follows 3 = .ok (.iload 4, 2) := by decide +kernel
theorem dX10_follows_5 : decode cX10_follows 5 = .ok (.istore 7, 2) := by decide +kernel
theorem dX10_follows_7 : decode cX10_follows 7 = .ok (.iload 7, 2) := by decide +kernel
theorem dX10_follows_9 : decode cX10_follows 9 = .ok (.iload 5, 2) := by decide +kernel
theorem dX10_follows_11 : decode cX10_follows 11 = .ok (.if_icmp .ge 25, 3) := by decide +kernel
theorem dX10_follows_14 : decode cX10_follows 14 = .ok (.aload_n 0, 1) := by decide +kernel
theorem dX10_follows_15 : decode cX10_follows 15 = .ok (.iload_n 1, 1) := by decide +kernel
theorem dX10_follows_16 : decode cX10_follows 16 = .ok (.iload 6, 2) := by decide +kernel
theorem dX10_follows_18 : decode cX10_follows 18 = .ok (.aload_n 0, 1) := by decide +kernel
theorem dX10_follows_19 : decode cX10_follows 19 = .ok (.iload_n 3, 1) := by decide +kernel
theorem dX10_follows_20 : decode cX10_follows 20 = .ok (.iload 7, 2) := by decide +kernel
theorem dX10_follows_22 : decode cX10_follows 22 = .ok (.invokevirtual 104, 3) := by decide +kernel
theorem dX10_follows_25 : decode cX10_follows 25 = .ok (.invokevirtual 184, 3) := by decide +kernel
theorem dX10_follows_28 : decode cX10_follows 28 = .ok (.istore 6, 2) := by decide +kernel
theorem dX10_follows_30 : decode cX10_follows 30 = .ok (.iinc 7 1, 3) := by decide +kernel
theorem dX10_follows_33 : decode cX10_follows 33 = .ok (.goto (-26), 3) := by decide +kernel
theorem dX10_follows_36 : decode cX10_follows 36 = .ok (.iload 6, 2) := by decide +kernel
theorem dX10_follows_38 : decode cX10_follows 38 = .ok (.ireturn, 1) := by decide +kernel
theorem dX10_followsAll_0 : decode cX10_followsAll 0 = .ok (.aload_n 0, 1) := by decide +kernel
theorem dX10_followsAll_1 : decode cX10_followsAll 1 = .ok (.iload_n 1, 1) := by decide +kernel
theorem dX10_followsAll_2 : decode cX10_followsAll 2 = .ok (.iload_n 2, 1) := by decide +kernel
theorem dX10_followsAll_3 : decode cX10_followsAll 3 = .ok (.iload_n 3, 1) := by decide +kernel
theorem dX10_followsAll_4 : decode cX10_followsAll 4 = .ok (.iconst 0, 1) := by decide +kernel
theorem dX10_followsAll_5 : decode cX10_followsAll 5 = .ok (.aload_n 0, 1) := by decide +kernel
theorem dX10_followsAll_6 : decode cX10_followsAll 6 = .ok (.iload_n 3, 1) := by decide +kernel
theorem dX10_followsAll_7 : decode cX10_followsAll 7 = .ok (.invokevirtual 94, 3) := by decide +kernel
theorem dX10_followsAll_10 : decode cX10_followsAll 10 = .ok (.invokevirtual 190, 3) := by decide +kernel
theorem dX10_followsAll_13 : decode cX10_followsAll 13 = .ok (.ireturn, 1) := by decide +kernel
theorem dX10_has_0 : decode cX10_has 0 = .ok (.aload_n 0, 1) := by decide +kernel
theorem dX10_has_1 : decode cX10_has 1 = .ok (.iload_n 1, 1) := by decide +kernel
theorem dX10_has_2 : decode cX10_has 2 = .ok (.iconst 0, 1) := by decide +kernel
theorem dX10_has_3 : decode cX10_has 3 = .ok (.iload_n 2, 1) := by decide +kernel
theorem dX10_has_4 : decode cX10_has 4 = .ok (.invokevirtual 194, 3) := by decide +kernel
theorem dX10_has_7 : decode cX10_has 7 = .ok (.ifCond .ne 7, 3) := by decide +kernel
theorem dX10_has_10 : decode cX10_has 10 = .ok (.iconst 1, 1) := by decide +kernel
theorem dX10_has_11 : decode cX10_has 11 = .ok (.goto 4, 3) := by decide +kernel
theorem dX10_has_14 : decode cX10_has 14 = .ok (.iconst 0, 1) := by decide +kernel
theorem dX10_has_15 : decode cX10_has 15 = .ok (.ireturn, 1) := by decide +kernel
theorem dX10_intersects_0 : decode cX10_intersects 0 = .ok (.aload_n 0, 1) := by decide +kernel
theorem dX10_intersects_1 : decode cX10_intersects 1 = .ok (.iconst 0, 1) := by decide +kernel
theorem dX10_intersects_2 : decode cX10_intersects 2 = .ok (.invokevirtual 197, 3) := by decide +kernel
theorem dX10_intersects_5 : decode cX10_intersects 5 = .ok (.aload_n 0, 1) := by decide +kernel
theorem dX10_intersects_6 : decode cX10_intersects 6 = .ok (.iconst 1, 1) := by decide +kernel
theorem dX10_intersects_7 : decode cX10_intersects 7 = .ok (.invokevirtual 197, 3) := by decide +kernel
theorem dX10_intersects_10 : decode cX10_intersects 10 = .ok (.iconst 0, 1) := by decide +kernel
theorem dX10_intersects_11 : decode cX10_intersects 11 = .ok (.istore_n 1, 1) := by decide +kernel
theorem dX10_intersects_12 : decode cX10_intersects 12 = .ok (.iload_n 1, 1) := by decide +kernel
theorem dX10_intersects_13 : decode cX10_intersects 13 = .ok (.ldc 59, 2) := by decide +kernel
theorem dX10_intersects_15 : decode cX10_intersects 15 = .ok (.if_icmp .ge 16, 3) := by decide +kernel
theorem dX10_intersects_18 : decode cX10_intersects 18 = .ok (.aload_n 0, 1) := by decide +kernel
theorem dX10_intersects_19 : decode cX10_intersects 19 = .ok (.getfield 63, 3) := by decide +kernel
theorem dX10_intersects_22 : decode cX10_intersects 22 = .ok (.iload_n 1, 1) := by decide +kernel
theorem dX10_intersects_23 : decode cX10_intersects 23 = .ok (.iconst 0, 1) := by decide +kernel
theorem dX10_intersects_24 : decode cX10_intersects 24 = .ok (.bastore, 1) := by decide +kernel
theorem dX10_intersects_25 : decode cX10_intersects 25 = .ok (.iinc 1 1, 3) := by decide +kernel
theorem dX10_intersects_28 : decode cX10_intersects 28 = .ok (.goto (-16), 3) := by decide +kernel
theorem dX10_intersects_31 : decode cX10_intersects 31 = .ok (.aload_n 0, 1) := by decide +kernel
theorem dX10_intersects_32 : decode cX10_intersects 32 = .ok (.getfield 60, 3) := by decide +kernel
theorem dX10_intersects_35 : decode cX10_intersects 35 = .ok (.iconst 0, 1) := by decide +kernel
theorem dX10_intersects_36 : decode cX10_intersects 36 = .ok (.iconst 0, 1) := by decide +kernel
theorem dX10_intersects_37 : decode cX10_intersects 37 = .ok (.iastore, 1) := by decide +kernel
theorem dX10_intersects_38 : decode cX10_intersects 38 = .ok (.aload_n 0, 1) := by decide +kernel
theorem dX10_intersects_39 : decode cX10_intersects 39 = .ok (.getfield 63, 3) := by decide +kernel
theorem dX10_intersects_42 : decode cX10_intersects 42 = .ok (.iconst 0, 1) := by decide +kernel
theorem dX10_intersects_43 : decode cX10_intersects 43 = .ok (.iconst 1, 1) := by decide +kernel
theorem dX10_intersects_44 : decode cX10_intersects 44 = .ok (.bastore, 1) := by decide +kernel
theorem dX10_intersects_45 : decode cX10_intersects 45 = .ok (.aload_n 0, 1) := by decide +kernel
theorem dX10_intersects_46 : decode cX10_intersects 46 = .ok (.iconst 1, 1) := by decide +kernel
theorem dX10_intersects_47 : decode cX10_intersects 47 = .ok (.putfield 200, 3) := by decide +kernel
theorem dX10_intersects_50 : decode cX10_intersects 50 = .ok (.aload_n 0, 1) := by decide +kernel
theorem dX10_intersects_51 : decode cX10_intersects 51 = .ok (.iconst 0, 1) := by decide +kernel
theorem dX10_intersects_52 : decode cX10_intersects 52 = .ok (.putfield 203, 3) := by decide +kernel
theorem dX10_intersects_55 : decode cX10_intersects 55 = .ok (.iconst 0, 1) := by decide +kernel
theorem dX10_intersects_56 : decode cX10_intersects 56 = .ok (.istore_n 1, 1) := by decide +kernel
theorem dX10_intersects_57 : decode cX10_intersects 57 = .ok (.iload_n 1, 1) := by decide +kernel
theorem dX10_intersects_58 : decode cX10_intersects 58 = .ok (.aload_n 0, 1) := by decide +kernel
theorem dX10_intersects_59 : decode cX10_intersects 59 = .ok (.getfield 200, 3) := by decide +kernel
theorem dX10_intersects_62 : decode cX10_intersects 62 = .ok (.if_icmp .ge 140, 3) := by decide +kernel
theorem dX10_intersects_65 : decode cX10_intersects 65 = .ok (.iconst 0, 1) := by decide +kernel
theorem dX10_intersects_66 : decode cX10_intersects 66 = .ok (.istore_n 2, 1) := by decide +kernel
theorem dX10_intersects_67 : decode cX10_intersects 67 = .ok (.iload_n 2, 1) := by decide +kernel
theorem dX10_intersects_68 : decode cX10_intersects 68 = .ok (.bipush 8, 2) := by decide +kernel
theorem dX10_intersects_70 : decode cX10_intersects 70 = .ok (.if_icmp .ge 126, 3) := by decide +kernel
theorem dX10_intersects_73 : decode cX10_intersects 73 = .ok (.aload_n 0, 1) := by decide +kernel
theorem dX10_intersects_74 : decode cX10_intersects 74 = .ok (.iconst 0, 1) := by decide +kernel
theorem dX10_intersects_75 : decode cX10_intersects 75 = .ok (.aload_n 0, 1) := by decide +kernel
theorem dX10_intersects_76 : decode cX10_intersects 76 = .ok (.getfield 60, 3) := by decide +kernel
theorem dX10_intersects_79 : decode cX10_intersects 79 = .ok (.iload_n 1, 1) := by decide +kernel
theorem dX10_intersects_80 : decode cX10_intersects 80 = .ok (.iaload, 1) := by decide +kernel
theorem dX10_intersects_81 : decode cX10_intersects 81 = .ok (.sipush 361, 3) := by decide +kernel
theorem dX10_intersects_84 : decode cX10_intersects 84 = .ok (.idiv, 1) := by decide +kernel
theorem dX10_intersects_85 : decode cX10_intersects 85 = .ok (.iload_n 2, 1) := by decide +kernel
theorem dX10_intersects_86 : decode cX10_intersects 86 = .ok (.invokevirtual 184, 3) := by decide +kernel
theorem dX10_intersects_89 : decode cX10_intersects 89 = .ok (.istore_n 3, 1) := by decide +kernel
theorem dX10_intersects_90 : decode cX10_intersects 90 = .ok (.aload_n 0, 1) := by decide +kernel
theorem dX10_intersects_91 : decode cX10_intersects 91 = .ok (.iconst 1, 1) := by decide +kernel
theorem dX10_intersects_92 : decode cX10_intersects 92 = .ok (.aload_n 0, 1) := by decide +kernel
theorem dX10_intersects_93 : decode cX10_intersects 93 = .ok (.getfield 60, 3) := by decide +kernel
theorem dX10_intersects_96 : decode cX10_intersects 96 = .ok (.iload_n 1, 1) := by decide +kernel
theorem dX10_intersects_97 : decode cX10_intersects 97 = .ok (.iaload, 1) := by decide +kernel
theorem dX10_intersects_98 : decode cX10_intersects 98 = .ok (.sipush 361, 3) := by decide +kernel
theorem dX10_intersects_101 : decode cX10_intersects 101 = .ok (.irem, 1) := by decide +kernel
theorem dX10_intersects_102 : decode cX10_intersects 102 = .ok (.iload_n 2, 1) := by decide +kernel
theorem dX10_intersects_103 : decode cX10_intersects 103 = .ok (.invokevirtual 184, 3) := by decide +kernel
theorem dX10_intersects_106 : decode cX10_intersects 106 = .ok (.istore 4, 2) := by decide +kernel
theorem dX10_intersects_108 : decode cX10_intersects 108 = .ok (.iload_n 3, 1) := by decide +kernel
theorem dX10_intersects_109 : decode cX10_intersects 109 = .ok (.iconst (-1), 1) := by decide +kernel
theorem dX10_intersects_110 : decode cX10_intersects 110 = .ok (.if_icmp .eq 80, 3) := by decide +kernel
theorem dX10_intersects_113 : decode cX10_intersects 113 = .ok (.iload 4, 2) := by decide +kernel
theorem dX10_intersects_115 : decode cX10_intersects 115 = .ok (.iconst (-1), 1) := by decide +kernel
theorem dX10_intersects_116 : decode cX10_intersects 116 = .ok (.if_icmp .ne 6, 3) := by decide +kernel
theorem dX10_intersects_119 : decode cX10_intersects 119 = .ok (.goto 71, 3) := by decide +kernel
theorem dX10_intersects_122 : decode cX10_intersects 122 = .ok (.iload_n 2, 1) := by decide +kernel
theorem dX10_intersects_123 : decode cX10_intersects 123 = .ok (.iconst 2, 1) := by decide +kernel
theorem dX10_intersects_124 : decode cX10_intersects 124 = .ok (.irem, 1) := by decide +kernel
theorem dX10_intersects_125 : decode cX10_intersects 125 = .ok (.ifCond .ne 13, 3) := by decide +kernel
theorem dX10_intersects_128 : decode cX10_intersects 128 = .ok (.aload_n 0, 1) := by decide +kernel
theorem dX10_intersects_129 : decode cX10_intersects 129 = .ok (.dup, 1) := by decide +kernel
theorem dX10_intersects_130 : decode cX10_intersects 130 = .ok (.getfield 203, 3) := by decide +kernel
theorem dX10_intersects_133 : decode cX10_intersects 133 = .ok (.iconst 1, 1) := by decide +kernel
theorem dX10_intersects_134 : decode cX10_intersects 134 = .ok (.iadd, 1) := by decide +kernel
theorem dX10_intersects_135 : decode cX10_intersects 135 = .ok (.putfield 203, 3) := by decide +kernel
theorem dX10_intersects_138 : decode cX10_intersects 138 = .ok (.sipush 361, 3) := by decide +kernel
theorem dX10_intersects_141 : decode cX10_intersects 141 = .ok (.iload_n 3, 1) := by decide +kernel
theorem dX10_intersects_142 : decode cX10_intersects 142 = .ok (.imul, 1) := by decide +kernel
theorem dX10_intersects_143 : decode cX10_intersects 143 = .ok (.iload 4, 2) := by decide +kernel
theorem dX10_intersects_145 : decode cX10_intersects 145 = .ok (.iadd, 1) := by decide +kernel
theorem dX10_intersects_146 : decode cX10_intersects 146 = .ok (.istore 5, 2) := by decide +kernel
theorem dX10_intersects_148 : decode cX10_intersects 148 = .ok (.aload_n 0, 1) := by decide +kernel
theorem dX10_intersects_149 : decode cX10_intersects 149 = .ok (.getfield 63, 3) := by decide +kernel
theorem dX10_intersects_152 : decode cX10_intersects 152 = .ok (.iload 5, 2) := by decide +kernel
theorem dX10_intersects_154 : decode cX10_intersects 154 = .ok (.baload, 1) := by decide +kernel
theorem dX10_intersects_155 : decode cX10_intersects 155 = .ok (.ifCond .eq 6, 3) := by decide +kernel
theorem dX10_intersects_158 : decode cX10_intersects 158 = .ok (.goto 32, 3) := by decide +kernel
theorem dX10_intersects_161 : decode cX10_intersects 161 = .ok (.aload_n 0, 1) := by decide +kernel
theorem dX10_intersects_162 : decode cX10_intersects 162 = .ok (.getfield 63, 3) := by decide +kernel
theorem dX10_intersects_165 : decode cX10_intersects 165 = .ok (.iload 5, 2) := by decide +kernel
theorem dX10_intersects_167 : decode cX10_intersects 167 = .ok (.iconst 1, 1) := by decide +kernel
theorem dX10_intersects_168 : decode cX10_intersects 168 = .ok (.bastore, 1) := by decide +kernel
theorem dX10_intersects_169 : decode cX10_intersects 169 = .ok (.aload_n 0, 1) := by decide +kernel
theorem dX10_intersects_170 : decode cX10_intersects 170 = .ok (.getfield 60, 3) := by decide +kernel
theorem dX10_intersects_173 : decode cX10_intersects 173 = .ok (.aload_n 0, 1) := by decide +kernel
theorem dX10_intersects_174 : decode cX10_intersects 174 = .ok (.getfield 200, 3) := by decide +kernel
theorem dX10_intersects_177 : decode cX10_intersects 177 = .ok (.iload 5, 2) := by decide +kernel
theorem dX10_intersects_179 : decode cX10_intersects 179 = .ok (.iastore, 1) := by decide +kernel
theorem dX10_intersects_180 : decode cX10_intersects 180 = .ok (.aload_n 0, 1) := by decide +kernel
theorem dX10_intersects_181 : decode cX10_intersects 181 = .ok (.dup, 1) := by decide +kernel
theorem dX10_intersects_182 : decode cX10_intersects 182 = .ok (.getfield 200, 3) := by decide +kernel
theorem dX10_intersects_185 : decode cX10_intersects 185 = .ok (.iconst 1, 1) := by decide +kernel
theorem dX10_intersects_186 : decode cX10_intersects 186 = .ok (.iadd, 1) := by decide +kernel
theorem dX10_intersects_187 : decode cX10_intersects 187 = .ok (.putfield 200, 3) := by decide +kernel
theorem dX10_intersects_190 : decode cX10_intersects 190 = .ok (.iinc 2 1, 3) := by decide +kernel
theorem dX10_intersects_193 : decode cX10_intersects 193 = .ok (.goto (-126), 3) := by decide +kernel
theorem dX10_intersects_196 : decode cX10_intersects 196 = .ok (.iinc 1 1, 3) := by decide +kernel
theorem dX10_intersects_199 : decode cX10_intersects 199 = .ok (.goto (-142), 3) := by decide +kernel
theorem dX10_intersects_202 : decode cX10_intersects 202 = .ok (.return_, 1) := by decide +kernel
theorem dX10_isIn_0 : decode cX10_isIn 0 = .ok (.iload_n 1, 1) := by decide +kernel
theorem dX10_isIn_1 : decode cX10_isIn 1 = .ok (.aload_n 0, 1) := by decide +kernel
theorem dX10_isIn_2 : decode cX10_isIn 2 = .ok (.getfield 206, 3) := by decide +kernel
theorem dX10_isIn_5 : decode cX10_isIn 5 = .ok (.if_icmp .ge 27, 3) := by decide +kernel
theorem dX10_isIn_8 : decode cX10_isIn 8 = .ok (.aload_n 0, 1) := by decide +kernel
theorem dX10_isIn_9 : decode cX10_isIn 9 = .ok (.getfield 13, 3) := by decide +kernel
theorem dX10_isIn_12 : decode cX10_isIn 12 = .ok (.iload_n 1, 1) := by decide +kernel
theorem dX10_isIn_13 : decode cX10_isIn 13 = .ok (.baload, 1) := by decide +kernel
theorem dX10_isIn_14 : decode cX10_isIn 14 = .ok (.iload_n 2, 1) := by decide +kernel
theorem dX10_isIn_15 : decode cX10_isIn 15 = .ok (.if_icmp .lt 17, 3) := by decide +kernel
theorem dX10_isIn_18 : decode cX10_isIn 18 = .ok (.aload_n 0, 1) := by decide +kernel
theorem dX10_isIn_19 : decode cX10_isIn 19 = .ok (.getfield 13, 3) := by decide +kernel
theorem dX10_isIn_22 : decode cX10_isIn 22 = .ok (.iload_n 1, 1) := by decide +kernel
theorem dX10_isIn_23 : decode cX10_isIn 23 = .ok (.baload, 1) := by decide +kernel
theorem dX10_isIn_24 : decode cX10_isIn 24 = .ok (.iload_n 3, 1) := by decide +kernel
theorem dX10_isIn_25 : decode cX10_isIn 25 = .ok (.if_icmp .gt 7, 3) := by decide +kernel
theorem dX10_isIn_28 : decode cX10_isIn 28 = .ok (.iconst 1, 1) := by decide +kernel
theorem dX10_isIn_29 : decode cX10_isIn 29 = .ok (.goto 4, 3) := by decide +kernel
theorem dX10_isIn_32 : decode cX10_isIn 32 = .ok (.iconst 0, 1) := by decide +kernel
theorem dX10_isIn_33 : decode cX10_isIn 33 = .ok (.ireturn, 1) := by decide +kernel
theorem dX10_isLetter_0 : decode cX10_isLetter 0 = .ok (.aload_n 0, 1) := by decide +kernel
theorem dX10_isLetter_1 : decode cX10_isLetter 1 = .ok (.iload_n 1, 1) := by decide +kernel
theorem dX10_isLetter_2 : decode cX10_isLetter 2 = .ok (.bipush 97, 2) := by decide +kernel
theorem dX10_isLetter_4 : decode cX10_isLetter 4 = .ok (.bipush 122, 2) := by decide +kernel
theorem dX10_isLetter_6 : decode cX10_isLetter 6 = .ok (.invokevirtual 209, 3) := by decide +kernel
theorem dX10_isLetter_9 : decode cX10_isLetter 9 = .ok (.ifCond .ne 15, 3) := by decide +kernel
theorem dX10_isLetter_12 : decode cX10_isLetter 12 = .ok (.aload_n 0, 1) := by decide +kernel
theorem dX10_isLetter_13 : decode cX10_isLetter 13 = .ok (.iload_n 1, 1) := by decide +kernel
theorem dX10_isLetter_14 : decode cX10_isLetter 14 = .ok (.bipush 65, 2) := by decide +kernel
theorem dX10_isLetter_16 : decode cX10_isLetter 16 = .ok (.bipush 90, 2) := by decide +kernel
theorem dX10_isLetter_18 : decode cX10_isLetter 18 = .ok (.invokevirtual 209, 3) := by decide +kernel
theorem dX10_isLetter_21 : decode cX10_isLetter 21 = .ok (.ifCond .eq 7, 3) := by decide +kernel
theorem dX10_isLetter_24 : decode cX10_isLetter 24 = .ok (.iconst 1, 1) := by decide +kernel
theorem dX10_isLetter_25 : decode cX10_isLetter 25 = .ok (.goto 4, 3) := by decide +kernel
theorem dX10_isLetter_28 : decode cX10_isLetter 28 = .ok (.iconst 0, 1) := by decide +kernel
theorem dX10_isLetter_29 : decode cX10_isLetter 29 = .ok (.ireturn, 1) := by decide +kernel
theorem dX10_faults_0 : decode cX10_faults 0 = .ok (.aload_n 0, 1) := by decide +kernel
theorem dX10_faults_1 : decode cX10_faults 1 = .ok (.iload_n 1, 1) := by decide +kernel
theorem dX10_faults_2 : decode cX10_faults 2 = .ok (.putfield 212, 3) := by decide +kernel
theorem dX10_faults_5 : decode cX10_faults 5 = .ok (.iconst 0, 1) := by decide +kernel
theorem dX10_faults_6 : decode cX10_faults 6 = .ok (.ireturn, 1) := by decide +kernel
theorem dX10_token_0 : decode cX10_token 0 = .ok (.aload_n 0, 1) := by decide +kernel
theorem dX10_token_1 : decode cX10_token 1 = .ok (.aload_n 0, 1) := by decide +kernel
theorem dX10_token_2 : decode cX10_token 2 = .ok (.getfield 215, 3) := by decide +kernel
theorem dX10_token_5 : decode cX10_token 5 = .ok (.bipush 32, 2) := by decide +kernel
theorem dX10_token_7 : decode cX10_token 7 = .ok (.bipush 32, 2) := by decide +kernel
theorem dX10_token_9 : decode cX10_token 9 = .ok (.invokevirtual 209, 3) := by decide +kernel
theorem dX10_token_12 : decode cX10_token 12 = .ok (.ifCond .ne 18, 3) := by decide +kernel
theorem dX10_token_15 : decode cX10_token 15 = .ok (.aload_n 0, 1) := by decide +kernel
theorem dX10_token_16 : decode cX10_token 16 = .ok (.aload_n 0, 1) := by decide +kernel
theorem dX10_token_17 : decode cX10_token 17 = .ok (.getfield 215, 3) := by decide +kernel
theorem dX10_token_20 : decode cX10_token 20 = .ok (.bipush 10, 2) := by decide +kernel
theorem dX10_token_22 : decode cX10_token 22 = .ok (.bipush 10, 2) := by decide +kernel
theorem dX10_token_24 : decode cX10_token 24 = .ok (.invokevirtual 209, 3) := by decide +kernel
theorem dX10_token_27 : decode cX10_token 27 = .ok (.ifCond .eq 16, 3) := by decide +kernel
theorem dX10_token_30 : decode cX10_token 30 = .ok (.aload_n 0, 1) := by decide +kernel
theorem dX10_token_31 : decode cX10_token 31 = .ok (.dup, 1) := by decide +kernel
theorem dX10_token_32 : decode cX10_token 32 = .ok (.getfield 215, 3) := by decide +kernel
theorem dX10_token_35 : decode cX10_token 35 = .ok (.iconst 1, 1) := by decide +kernel
theorem dX10_token_36 : decode cX10_token 36 = .ok (.iadd, 1) := by decide +kernel
theorem dX10_token_37 : decode cX10_token 37 = .ok (.putfield 215, 3) := by decide +kernel
theorem dX10_token_40 : decode cX10_token 40 = .ok (.goto (-40), 3) := by decide +kernel
theorem dX10_token_43 : decode cX10_token 43 = .ok (.aload_n 0, 1) := by decide +kernel
theorem dX10_token_44 : decode cX10_token 44 = .ok (.aload_n 0, 1) := by decide +kernel
theorem dX10_token_45 : decode cX10_token 45 = .ok (.getfield 215, 3) := by decide +kernel
theorem dX10_token_48 : decode cX10_token 48 = .ok (.putfield 218, 3) := by decide +kernel
theorem dX10_token_51 : decode cX10_token 51 = .ok (.aload_n 0, 1) := by decide +kernel
theorem dX10_token_52 : decode cX10_token 52 = .ok (.getfield 215, 3) := by decide +kernel
theorem dX10_token_55 : decode cX10_token 55 = .ok (.aload_n 0, 1) := by decide +kernel
theorem dX10_token_56 : decode cX10_token 56 = .ok (.getfield 206, 3) := by decide +kernel
theorem dX10_token_59 : decode cX10_token 59 = .ok (.if_icmp .ne 10, 3) := by decide +kernel
theorem dX10_token_62 : decode cX10_token 62 = .ok (.aload_n 0, 1) := by decide +kernel
theorem dX10_token_63 : decode cX10_token 63 = .ok (.iconst 0, 1) := by decide +kernel
theorem dX10_token_64 : decode cX10_token 64 = .ok (.putfield 221, 3) := by decide +kernel
theorem dX10_token_67 : decode cX10_token 67 = .ok (.iconst 1, 1) := by decide +kernel
theorem dX10_token_68 : decode cX10_token 68 = .ok (.ireturn, 1) := by decide +kernel
theorem dX10_token_69 : decode cX10_token 69 = .ok (.aload_n 0, 1) := by decide +kernel
theorem dX10_token_70 : decode cX10_token 70 = .ok (.aload_n 0, 1) := by decide +kernel
theorem dX10_token_71 : decode cX10_token 71 = .ok (.getfield 215, 3) := by decide +kernel
theorem dX10_token_74 : decode cX10_token 74 = .ok (.invokevirtual 224, 3) := by decide +kernel
theorem dX10_token_77 : decode cX10_token 77 = .ok (.ifCond .eq 60, 3) := by decide +kernel
theorem dX10_token_80 : decode cX10_token 80 = .ok (.aload_n 0, 1) := by decide +kernel
theorem dX10_token_81 : decode cX10_token 81 = .ok (.iconst 1, 1) := by decide +kernel
theorem dX10_token_82 : decode cX10_token 82 = .ok (.putfield 221, 3) := by decide +kernel
theorem dX10_token_85 : decode cX10_token 85 = .ok (.aload_n 0, 1) := by decide +kernel
theorem dX10_token_86 : decode cX10_token 86 = .ok (.aload_n 0, 1) := by decide +kernel
theorem dX10_token_87 : decode cX10_token 87 = .ok (.getfield 215, 3) := by decide +kernel
theorem dX10_token_90 : decode cX10_token 90 = .ok (.invokevirtual 224, 3) := by decide +kernel
theorem dX10_token_93 : decode cX10_token 93 = .ok (.ifCond .eq 16, 3) := by decide +kernel
theorem dX10_token_96 : decode cX10_token 96 = .ok (.aload_n 0, 1) := by decide +kernel
theorem dX10_token_97 : decode cX10_token 97 = .ok (.dup, 1) := by decide +kernel
theorem dX10_token_98 : decode cX10_token 98 = .ok (.getfield 215, 3) := by decide +kernel
theorem dX10_token_101 : decode cX10_token 101 = .ok (.iconst 1, 1) := by decide +kernel
theorem dX10_token_102 : decode cX10_token 102 = .ok (.iadd, 1) := by decide +kernel
theorem dX10_token_103 : decode cX10_token 103 = .ok (.putfield 215, 3) := by decide +kernel
theorem dX10_token_106 : decode cX10_token 106 = .ok (.goto (-21), 3) := by decide +kernel
theorem dX10_token_109 : decode cX10_token 109 = .ok (.aload_n 0, 1) := by decide +kernel
theorem dX10_token_110 : decode cX10_token 110 = .ok (.getfield 215, 3) := by decide +kernel
theorem dX10_token_113 : decode cX10_token 113 = .ok (.aload_n 0, 1) := by decide +kernel
theorem dX10_token_114 : decode cX10_token 114 = .ok (.getfield 218, 3) := by decide +kernel
theorem dX10_token_117 : decode cX10_token 117 = .ok (.isub, 1) := by decide +kernel
theorem dX10_token_118 : decode cX10_token 118 = .ok (.bipush 60, 2) := by decide +kernel
theorem dX10_token_120 : decode cX10_token 120 = .ok (.if_icmp .le 11, 3) := by decide +kernel
theorem dX10_token_123 : decode cX10_token 123 = .ok (.aload_n 0, 1) := by decide +kernel
theorem dX10_token_124 : decode cX10_token 124 = .ok (.iconst 1, 1) := by decide +kernel
theorem dX10_token_125 : decode cX10_token 125 = .ok (.invokevirtual 227, 3) := by decide +kernel
theorem dX10_token_128 : decode cX10_token 128 = .ok (.ifCond .eq 7, 3) := by decide +kernel
theorem dX10_token_131 : decode cX10_token 131 = .ok (.iconst 1, 1) := by decide +kernel
theorem dX10_token_132 : decode cX10_token 132 = .ok (.goto 4, 3) := by decide +kernel
theorem dX10_token_135 : decode cX10_token 135 = .ok (.iconst 0, 1) := by decide +kernel
theorem dX10_token_136 : decode cX10_token 136 = .ok (.ireturn, 1) := by decide +kernel
theorem dX10_token_137 : decode cX10_token 137 = .ok (.aload_n 0, 1) := by decide +kernel
theorem dX10_token_138 : decode cX10_token 138 = .ok (.aload_n 0, 1) := by decide +kernel
theorem dX10_token_139 : decode cX10_token 139 = .ok (.getfield 215, 3) := by decide +kernel
theorem dX10_token_142 : decode cX10_token 142 = .ok (.bipush 48, 2) := by decide +kernel
theorem dX10_token_144 : decode cX10_token 144 = .ok (.bipush 57, 2) := by decide +kernel
theorem dX10_token_146 : decode cX10_token 146 = .ok (.invokevirtual 209, 3) := by decide +kernel
theorem dX10_token_149 : decode cX10_token 149 = .ok (.ifCond .eq 105, 3) := by decide +kernel
theorem dX10_token_152 : decode cX10_token 152 = .ok (.aload_n 0, 1) := by decide +kernel
theorem dX10_token_153 : decode cX10_token 153 = .ok (.iconst 2, 1) := by decide +kernel
theorem dX10_token_154 : decode cX10_token 154 = .ok (.putfield 221, 3) := by decide +kernel
theorem dX10_token_157 : decode cX10_token 157 = .ok (.aload_n 0, 1) := by decide +kernel
theorem dX10_token_158 : decode cX10_token 158 = .ok (.iconst 0, 1) := by decide +kernel
theorem dX10_token_159 : decode cX10_token 159 = .ok (.putfield 230, 3) := by decide +kernel
theorem dX10_token_162 : decode cX10_token 162 = .ok (.aload_n 0, 1) := by decide +kernel
theorem dX10_token_163 : decode cX10_token 163 = .ok (.aload_n 0, 1) := by decide +kernel
theorem dX10_token_164 : decode cX10_token 164 = .ok (.getfield 215, 3) := by decide +kernel
theorem dX10_token_167 : decode cX10_token 167 = .ok (.bipush 48, 2) := by decide +kernel
theorem dX10_token_169 : decode cX10_token 169 = .ok (.bipush 57, 2) := by decide +kernel
theorem dX10_token_171 : decode cX10_token 171 = .ok (.invokevirtual 209, 3) := by decide +kernel
theorem dX10_token_174 : decode cX10_token 174 = .ok (.ifCond .eq 53, 3) := by decide +kernel
theorem dX10_token_177 : decode cX10_token 177 = .ok (.aload_n 0, 1) := by decide +kernel
theorem dX10_token_178 : decode cX10_token 178 = .ok (.getfield 215, 3) := by decide +kernel
theorem dX10_token_181 : decode cX10_token 181 = .ok (.aload_n 0, 1) := by decide +kernel
theorem dX10_token_182 : decode cX10_token 182 = .ok (.getfield 218, 3) := by decide +kernel
theorem dX10_token_185 : decode cX10_token 185 = .ok (.isub, 1) := by decide +kernel
theorem dX10_token_186 : decode cX10_token 186 = .ok (.iconst 2, 1) := by decide +kernel
theorem dX10_token_187 : decode cX10_token 187 = .ok (.if_icmp .ge 27, 3) := by decide +kernel
theorem dX10_token_190 : decode cX10_token 190 = .ok (.aload_n 0, 1) := by decide +kernel
theorem dX10_token_191 : decode cX10_token 191 = .ok (.bipush 10, 2) := by decide +kernel
theorem dX10_token_193 : decode cX10_token 193 = .ok (.aload_n 0, 1) := by decide +kernel
theorem dX10_token_194 : decode cX10_token 194 = .ok (.getfield 230, 3) := by decide +kernel
theorem dX10_token_197 : decode cX10_token 197 = .ok (.imul, 1) := by decide +kernel
theorem dX10_token_198 : decode cX10_token 198 = .ok (.aload_n 0, 1) := by decide +kernel
theorem dX10_token_199 : decode cX10_token 199 = .ok (.getfield 13, 3) := by decide +kernel
theorem dX10_token_202 : decode cX10_token 202 = .ok (.aload_n 0, 1) := by decide +kernel
theorem dX10_token_203 : decode cX10_token 203 = .ok (.getfield 215, 3) := by decide +kernel
theorem dX10_token_206 : decode cX10_token 206 = .ok (.baload, 1) := by decide +kernel
theorem dX10_token_207 : decode cX10_token 207 = .ok (.iadd, 1) := by decide +kernel
theorem dX10_token_208 : decode cX10_token 208 = .ok (.bipush 48, 2) := by decide +kernel
theorem dX10_token_210 : decode cX10_token 210 = .ok (.isub, 1) := by decide +kernel
theorem dX10_token_211 : decode cX10_token 211 = .ok (.putfield 230, 3) := by decide +kernel
theorem dX10_token_214 : decode cX10_token 214 = .ok (.aload_n 0, 1) := by decide +kernel
theorem dX10_token_215 : decode cX10_token 215 = .ok (.dup, 1) := by decide +kernel
theorem dX10_token_216 : decode cX10_token 216 = .ok (.getfield 215, 3) := by decide +kernel
theorem dX10_token_219 : decode cX10_token 219 = .ok (.iconst 1, 1) := by decide +kernel
theorem dX10_token_220 : decode cX10_token 220 = .ok (.iadd, 1) := by decide +kernel
theorem dX10_token_221 : decode cX10_token 221 = .ok (.putfield 215, 3) := by decide +kernel
theorem dX10_token_224 : decode cX10_token 224 = .ok (.goto (-62), 3) := by decide +kernel
theorem dX10_token_227 : decode cX10_token 227 = .ok (.aload_n 0, 1) := by decide +kernel
theorem dX10_token_228 : decode cX10_token 228 = .ok (.getfield 215, 3) := by decide +kernel
theorem dX10_token_231 : decode cX10_token 231 = .ok (.aload_n 0, 1) := by decide +kernel
theorem dX10_token_232 : decode cX10_token 232 = .ok (.getfield 218, 3) := by decide +kernel
theorem dX10_token_235 : decode cX10_token 235 = .ok (.isub, 1) := by decide +kernel
theorem dX10_token_236 : decode cX10_token 236 = .ok (.iconst 2, 1) := by decide +kernel
theorem dX10_token_237 : decode cX10_token 237 = .ok (.if_icmp .le 11, 3) := by decide +kernel
theorem dX10_token_240 : decode cX10_token 240 = .ok (.aload_n 0, 1) := by decide +kernel
theorem dX10_token_241 : decode cX10_token 241 = .ok (.iconst 1, 1) := by decide +kernel
theorem dX10_token_242 : decode cX10_token 242 = .ok (.invokevirtual 227, 3) := by decide +kernel
theorem dX10_token_245 : decode cX10_token 245 = .ok (.ifCond .eq 7, 3) := by decide +kernel
theorem dX10_token_248 : decode cX10_token 248 = .ok (.iconst 1, 1) := by decide +kernel
theorem dX10_token_249 : decode cX10_token 249 = .ok (.goto 4, 3) := by decide +kernel
theorem dX10_token_252 : decode cX10_token 252 = .ok (.iconst 0, 1) := by decide +kernel
theorem dX10_token_253 : decode cX10_token 253 = .ok (.ireturn, 1) := by decide +kernel
theorem dX10_token_254 : decode cX10_token 254 = .ok (.aload_n 0, 1) := by decide +kernel
theorem dX10_token_255 : decode cX10_token 255 = .ok (.iconst 3, 1) := by decide +kernel
theorem dX10_token_256 : decode cX10_token 256 = .ok (.putfield 221, 3) := by decide +kernel
theorem dX10_token_259 : decode cX10_token 259 = .ok (.aload_n 0, 1) := by decide +kernel
theorem dX10_token_260 : decode cX10_token 260 = .ok (.dup, 1) := by decide +kernel
theorem dX10_token_261 : decode cX10_token 261 = .ok (.getfield 215, 3) := by decide +kernel
theorem dX10_token_264 : decode cX10_token 264 = .ok (.iconst 1, 1) := by decide +kernel
theorem dX10_token_265 : decode cX10_token 265 = .ok (.iadd, 1) := by decide +kernel
theorem dX10_token_266 : decode cX10_token 266 = .ok (.putfield 215, 3) := by decide +kernel
theorem dX10_token_269 : decode cX10_token 269 = .ok (.aload_n 0, 1) := by decide +kernel
theorem dX10_token_270 : decode cX10_token 270 = .ok (.getfield 13, 3) := by decide +kernel
theorem dX10_token_273 : decode cX10_token 273 = .ok (.aload_n 0, 1) := by decide +kernel
theorem dX10_token_274 : decode cX10_token 274 = .ok (.getfield 218, 3) := by decide +kernel
theorem dX10_token_277 : decode cX10_token 277 = .ok (.baload, 1) := by decide +kernel
theorem dX10_token_278 : decode cX10_token 278 = .ok (.bipush 59, 2) := by decide +kernel
theorem dX10_token_280 : decode cX10_token 280 = .ok (.if_icmp .eq 11, 3) := by decide +kernel
theorem dX10_token_283 : decode cX10_token 283 = .ok (.aload_n 0, 1) := by decide +kernel
theorem dX10_token_284 : decode cX10_token 284 = .ok (.iconst 1, 1) := by decide +kernel
theorem dX10_token_285 : decode cX10_token 285 = .ok (.invokevirtual 227, 3) := by decide +kernel
theorem dX10_token_288 : decode cX10_token 288 = .ok (.ifCond .eq 7, 3) := by decide +kernel
theorem dX10_token_291 : decode cX10_token 291 = .ok (.iconst 1, 1) := by decide +kernel
theorem dX10_token_292 : decode cX10_token 292 = .ok (.goto 4, 3) := by decide +kernel
theorem dX10_token_295 : decode cX10_token 295 = .ok (.iconst 0, 1) := by decide +kernel
theorem dX10_token_296 : decode cX10_token 296 = .ok (.ireturn, 1) := by decide +kernel
