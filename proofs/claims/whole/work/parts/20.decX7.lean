/-! rows that decode -/
theorem dX3_init_0 : decode cX3_init 0 = .ok (.aload_n 0, 1) := by decide +kernel
theorem dX3_init_1 : decode cX3_init 1 = .ok (.invokespecial 3, 3) := by decide +kernel
theorem dX3_init_4 : decode cX3_init 4 = .ok (.aload_n 0, 1) := by decide +kernel
theorem dX3_init_5 : decode cX3_init 5 = .ok (.bipush 8, 2) := by decide +kernel
theorem dX3_init_7 : decode cX3_init 7 = .ok (.anewarray 9, 3) := by decide +kernel
theorem dX3_init_10 : decode cX3_init 10 = .ok (.putfield 11, 3) := by decide +kernel
theorem dX3_init_13 : decode cX3_init 13 = .ok (.iconst 0, 1) := by decide +kernel
theorem dX3_init_14 : decode cX3_init 14 = .ok (.istore_n 1, 1) := by decide +kernel
theorem dX3_init_15 : decode cX3_init 15 = .ok (.iload_n 1, 1) := by decide +kernel
theorem dX3_init_16 : decode cX3_init 16 = .ok (.bipush 8, 2) := by decide +kernel
theorem dX3_init_18 : decode cX3_init 18 = .ok (.if_icmp .ge 22, 3) := by decide +kernel
theorem dX3_init_21 : decode cX3_init 21 = .ok (.aload_n 0, 1) := by decide +kernel
theorem dX3_init_22 : decode cX3_init 22 = .ok (.getfield 11, 3) := by decide +kernel
theorem dX3_init_25 : decode cX3_init 25 = .ok (.iload_n 1, 1) := by decide +kernel
theorem dX3_init_26 : decode cX3_init 26 = .ok (.new 9, 3) := by decide +kernel
theorem dX3_init_29 : decode cX3_init 29 = .ok (.dup, 1) := by decide +kernel
theorem dX3_init_30 : decode cX3_init 30 = .ok (.invokespecial 17, 3) := by decide +kernel
theorem dX3_init_33 : decode cX3_init 33 = .ok (.aastore, 1) := by decide +kernel
theorem dX3_init_34 : decode cX3_init 34 = .ok (.iinc 1 1, 3) := by decide +kernel
theorem dX3_init_37 : decode cX3_init 37 = .ok (.goto (-22), 3) := by decide +kernel
theorem dX3_init_40 : decode cX3_init 40 = .ok (.return_, 1) := by decide +kernel
theorem dX3_forget_0 : decode cX3_forget 0 = .ok (.aload_n 0, 1) := by decide +kernel
theorem dX3_forget_1 : decode cX3_forget 1 = .ok (.iconst 0, 1) := by decide +kernel
theorem dX3_forget_2 : decode cX3_forget 2 = .ok (.putfield 18, 3) := by decide +kernel
theorem dX3_forget_5 : decode cX3_forget 5 = .ok (.return_, 1) := by decide +kernel
theorem dX3_record_0 : decode cX3_record 0 = .ok (.aload_n 0, 1) := by decide +kernel
theorem dX3_record_1 : decode cX3_record 1 = .ok (.getfield 11, 3) := by decide +kernel
theorem dX3_record_4 : decode cX3_record 4 = .ok (.aload_n 0, 1) := by decide +kernel
theorem dX3_record_5 : decode cX3_record 5 = .ok (.getfield 22, 3) := by decide +kernel
theorem dX3_record_8 : decode cX3_record 8 = .ok (.aaload, 1) := by decide +kernel
theorem dX3_record_9 : decode cX3_record 9 = .ok (.aload_n 1, 1) := by decide +kernel
theorem dX3_record_10 : decode cX3_record 10 = .ok (.invokevirtual 25, 3) := by decide +kernel
theorem dX3_record_13 : decode cX3_record 13 = .ok (.aload_n 0, 1) := by decide +kernel
theorem dX3_record_14 : decode cX3_record 14 = .ok (.aload_n 0, 1) := by decide +kernel
theorem dX3_record_15 : decode cX3_record 15 = .ok (.getfield 22, 3) := by decide +kernel
theorem dX3_record_18 : decode cX3_record 18 = .ok (.iconst 1, 1) := by decide +kernel
theorem dX3_record_19 : decode cX3_record 19 = .ok (.iadd, 1) := by decide +kernel
theorem dX3_record_20 : decode cX3_record 20 = .ok (.bipush 8, 2) := by decide +kernel
theorem dX3_record_22 : decode cX3_record 22 = .ok (.irem, 1) := by decide +kernel
theorem dX3_record_23 : decode cX3_record 23 = .ok (.putfield 22, 3) := by decide +kernel
theorem dX3_record_26 : decode cX3_record 26 = .ok (.aload_n 0, 1) := by decide +kernel
theorem dX3_record_27 : decode cX3_record 27 = .ok (.aload_n 0, 1) := by decide +kernel
theorem dX3_record_28 : decode cX3_record 28 = .ok (.getfield 18, 3) := by decide +kernel
theorem dX3_record_31 : decode cX3_record 31 = .ok (.iconst 1, 1) := by decide +kernel
theorem dX3_record_32 : decode cX3_record 32 = .ok (.iadd, 1) := by decide +kernel
theorem dX3_record_33 : decode cX3_record 33 = .ok (.bipush 8, 2) := by decide +kernel
theorem dX3_record_35 : decode cX3_record 35 = .ok (.invokestatic 29, 3) := by decide +kernel
theorem dX3_record_38 : decode cX3_record 38 = .ok (.putfield 18, 3) := by decide +kernel
theorem dX3_record_41 : decode cX3_record 41 = .ok (.return_, 1) := by decide +kernel
theorem dX3_takeBack_0 : decode cX3_takeBack 0 = .ok (.aload_n 0, 1) := by decide +kernel
theorem dX3_takeBack_1 : decode cX3_takeBack 1 = .ok (.getfield 18, 3) := by decide +kernel
theorem dX3_takeBack_4 : decode cX3_takeBack 4 = .ok (.ifCond .le 42, 3) := by decide +kernel
theorem dX3_takeBack_7 : decode cX3_takeBack 7 = .ok (.aload_n 0, 1) := by decide +kernel
theorem dX3_takeBack_8 : decode cX3_takeBack 8 = .ok (.aload_n 0, 1) := by decide +kernel
theorem dX3_takeBack_9 : decode cX3_takeBack 9 = .ok (.getfield 22, 3) := by decide +kernel
theorem dX3_takeBack_12 : decode cX3_takeBack 12 = .ok (.bipush 8, 2) := by decide +kernel
theorem dX3_takeBack_14 : decode cX3_takeBack 14 = .ok (.iadd, 1) := by decide +kernel
theorem dX3_takeBack_15 : decode cX3_takeBack 15 = .ok (.iconst 1, 1) := by decide +kernel
theorem dX3_takeBack_16 : decode cX3_takeBack 16 = .ok (.isub, 1) := by decide +kernel
theorem dX3_takeBack_17 : decode cX3_takeBack 17 = .ok (.bipush 8, 2) := by decide +kernel
theorem dX3_takeBack_19 : decode cX3_takeBack 19 = .ok (.irem, 1) := by decide +kernel
theorem dX3_takeBack_20 : decode cX3_takeBack 20 = .ok (.putfield 22, 3) := by decide +kernel
theorem dX3_takeBack_23 : decode cX3_takeBack 23 = .ok (.aload_n 1, 1) := by decide +kernel
theorem dX3_takeBack_24 : decode cX3_takeBack 24 = .ok (.aload_n 0, 1) := by decide +kernel
theorem dX3_takeBack_25 : decode cX3_takeBack 25 = .ok (.getfield 11, 3) := by decide +kernel
theorem dX3_takeBack_28 : decode cX3_takeBack 28 = .ok (.aload_n 0, 1) := by decide +kernel
theorem dX3_takeBack_29 : decode cX3_takeBack 29 = .ok (.getfield 22, 3) := by decide +kernel
theorem dX3_takeBack_32 : decode cX3_takeBack 32 = .ok (.aaload, 1) := by decide +kernel
theorem dX3_takeBack_33 : decode cX3_takeBack 33 = .ok (.invokevirtual 25, 3) := by decide +kernel
theorem dX3_takeBack_36 : decode cX3_takeBack 36 = .ok (.aload_n 0, 1) := by decide +kernel
theorem dX3_takeBack_37 : decode cX3_takeBack 37 = .ok (.dup, 1) := by decide +kernel
theorem dX3_takeBack_38 : decode cX3_takeBack 38 = .ok (.getfield 18, 3) := by decide +kernel
theorem dX3_takeBack_41 : decode cX3_takeBack 41 = .ok (.iconst 1, 1) := by decide +kernel
theorem dX3_takeBack_42 : decode cX3_takeBack 42 = .ok (.isub, 1) := by decide +kernel
theorem dX3_takeBack_43 : decode cX3_takeBack 43 = .ok (.putfield 18, 3) := by decide +kernel
theorem dX3_takeBack_46 : decode cX3_takeBack 46 = .ok (.return_, 1) := by decide +kernel
theorem dX7_init_0 : decode cX7_init 0 = .ok (.aload_n 0, 1) := by decide +kernel
theorem dX7_init_1 : decode cX7_init 1 = .ok (.invokespecial 3, 3) := by decide +kernel
theorem dX7_init_4 : decode cX7_init 4 = .ok (.aload_n 0, 1) := by decide +kernel
theorem dX7_init_5 : decode cX7_init 5 = .ok (.bipush 8, 2) := by decide +kernel
theorem dX7_init_7 : decode cX7_init 7 = .ok (.anewarray 9, 3) := by decide +kernel
theorem dX7_init_10 : decode cX7_init 10 = .ok (.putfield 11, 3) := by decide +kernel
theorem dX7_init_13 : decode cX7_init 13 = .ok (.aload_n 0, 1) := by decide +kernel
theorem dX7_init_14 : decode cX7_init 14 = .ok (.bipush 12, 2) := by decide +kernel
theorem dX7_init_16 : decode cX7_init 16 = .ok (.anewarray 9, 3) := by decide +kernel
theorem dX7_init_19 : decode cX7_init 19 = .ok (.putfield 17, 3) := by decide +kernel
theorem dX7_init_22 : decode cX7_init 22 = .ok (.aload_n 0, 1) := by decide +kernel
theorem dX7_init_23 : decode cX7_init 23 = .ok (.iconst 2, 1) := by decide +kernel
theorem dX7_init_24 : decode cX7_init 24 = .ok (.newarray .int, 2) := by decide +kernel
theorem dX7_init_26 : decode cX7_init 26 = .ok (.putfield 20, 3) := by decide +kernel
theorem dX7_init_29 : decode cX7_init 29 = .ok (.aload_n 0, 1) := by decide +kernel
theorem dX7_init_30 : decode cX7_init 30 = .ok (.iconst 2, 1) := by decide +kernel
theorem dX7_init_31 : decode cX7_init 31 = .ok (.putfield 24, 3) := by decide +kernel
theorem dX7_init_34 : decode cX7_init 34 = .ok (.iconst 0, 1) := by decide +kernel
theorem dX7_init_35 : decode cX7_init 35 = .ok (.istore_n 1, 1) := by decide +kernel
theorem dX7_init_36 : decode cX7_init 36 = .ok (.iload_n 1, 1) := by decide +kernel
theorem dX7_init_37 : decode cX7_init 37 = .ok (.bipush 8, 2) := by decide +kernel
theorem dX7_init_39 : decode cX7_init 39 = .ok (.if_icmp .ge 24, 3) := by decide +kernel
theorem dX7_init_42 : decode cX7_init 42 = .ok (.aload_n 0, 1) := by decide +kernel
theorem dX7_init_43 : decode cX7_init 43 = .ok (.getfield 11, 3) := by decide +kernel
theorem dX7_init_46 : decode cX7_init 46 = .ok (.iload_n 1, 1) := by decide +kernel
theorem dX7_init_47 : decode cX7_init 47 = .ok (.new 9, 3) := by decide +kernel
theorem dX7_init_50 : decode cX7_init 50 = .ok (.dup, 1) := by decide +kernel
theorem dX7_init_51 : decode cX7_init 51 = .ok (.bipush 60, 2) := by decide +kernel
theorem dX7_init_53 : decode cX7_init 53 = .ok (.invokespecial 28, 3) := by decide +kernel
theorem dX7_init_56 : decode cX7_init 56 = .ok (.aastore, 1) := by decide +kernel
theorem dX7_init_57 : decode cX7_init 57 = .ok (.iinc 1 1, 3) := by decide +kernel
theorem dX7_init_60 : decode cX7_init 60 = .ok (.goto (-24), 3) := by decide +kernel
theorem dX7_init_63 : decode cX7_init 63 = .ok (.iconst 0, 1) := by decide +kernel
theorem dX7_init_64 : decode cX7_init 64 = .ok (.istore_n 1, 1) := by decide +kernel
theorem dX7_init_65 : decode cX7_init 65 = .ok (.iload_n 1, 1) := by decide +kernel
theorem dX7_init_66 : decode cX7_init 66 = .ok (.bipush 12, 2) := by decide +kernel
theorem dX7_init_68 : decode cX7_init 68 = .ok (.if_icmp .ge 24, 3) := by decide +kernel
theorem dX7_init_71 : decode cX7_init 71 = .ok (.aload_n 0, 1) := by decide +kernel
theorem dX7_init_72 : decode cX7_init 72 = .ok (.getfield 17, 3) := by decide +kernel
theorem dX7_init_75 : decode cX7_init 75 = .ok (.iload_n 1, 1) := by decide +kernel
theorem dX7_init_76 : decode cX7_init 76 = .ok (.new 9, 3) := by decide +kernel
theorem dX7_init_79 : decode cX7_init 79 = .ok (.dup, 1) := by decide +kernel
theorem dX7_init_80 : decode cX7_init 80 = .ok (.bipush 60, 2) := by decide +kernel
theorem dX7_init_82 : decode cX7_init 82 = .ok (.invokespecial 28, 3) := by decide +kernel
theorem dX7_init_85 : decode cX7_init 85 = .ok (.aastore, 1) := by decide +kernel
theorem dX7_init_86 : decode cX7_init 86 = .ok (.iinc 1 1, 3) := by decide +kernel
theorem dX7_init_89 : decode cX7_init 89 = .ok (.goto (-24), 3) := by decide +kernel
theorem dX7_init_92 : decode cX7_init 92 = .ok (.return_, 1) := by decide +kernel
theorem dX7_reset_0 : decode cX7_reset 0 = .ok (.aload_n 0, 1) := by decide +kernel
theorem dX7_reset_1 : decode cX7_reset 1 = .ok (.iload_n 1, 1) := by decide +kernel
theorem dX7_reset_2 : decode cX7_reset 2 = .ok (.putfield 24, 3) := by decide +kernel
theorem dX7_reset_5 : decode cX7_reset 5 = .ok (.iconst 0, 1) := by decide +kernel
theorem dX7_reset_6 : decode cX7_reset 6 = .ok (.istore_n 2, 1) := by decide +kernel
theorem dX7_reset_7 : decode cX7_reset 7 = .ok (.iload_n 2, 1) := by decide +kernel
theorem dX7_reset_8 : decode cX7_reset 8 = .ok (.bipush 8, 2) := by decide +kernel
theorem dX7_reset_10 : decode cX7_reset 10 = .ok (.if_icmp .ge 18, 3) := by decide +kernel
theorem dX7_reset_13 : decode cX7_reset 13 = .ok (.aload_n 0, 1) := by decide +kernel
theorem dX7_reset_14 : decode cX7_reset 14 = .ok (.getfield 11, 3) := by decide +kernel
theorem dX7_reset_17 : decode cX7_reset 17 = .ok (.iload_n 2, 1) := by decide +kernel
theorem dX7_reset_18 : decode cX7_reset 18 = .ok (.aaload, 1) := by decide +kernel
theorem dX7_reset_19 : decode cX7_reset 19 = .ok (.invokevirtual 31, 3) := by decide +kernel
theorem dX7_reset_22 : decode cX7_reset 22 = .ok (.iinc 2 1, 3) := by decide +kernel
theorem dX7_reset_25 : decode cX7_reset 25 = .ok (.goto (-18), 3) := by decide +kernel
theorem dX7_reset_28 : decode cX7_reset 28 = .ok (.iconst 0, 1) := by decide +kernel
theorem dX7_reset_29 : decode cX7_reset 29 = .ok (.istore_n 2, 1) := by decide +kernel
theorem dX7_reset_30 : decode cX7_reset 30 = .ok (.iload_n 2, 1) := by decide +kernel
theorem dX7_reset_31 : decode cX7_reset 31 = .ok (.iconst 2, 1) := by decide +kernel
theorem dX7_reset_32 : decode cX7_reset 32 = .ok (.if_icmp .ge 16, 3) := by decide +kernel
theorem dX7_reset_35 : decode cX7_reset 35 = .ok (.aload_n 0, 1) := by decide +kernel
theorem dX7_reset_36 : decode cX7_reset 36 = .ok (.getfield 20, 3) := by decide +kernel
theorem dX7_reset_39 : decode cX7_reset 39 = .ok (.iload_n 2, 1) := by decide +kernel
theorem dX7_reset_40 : decode cX7_reset 40 = .ok (.iconst 0, 1) := by decide +kernel
theorem dX7_reset_41 : decode cX7_reset 41 = .ok (.iastore, 1) := by decide +kernel
theorem dX7_reset_42 : decode cX7_reset 42 = .ok (.iinc 2 1, 3) := by decide +kernel
theorem dX7_reset_45 : decode cX7_reset 45 = .ok (.goto (-15), 3) := by decide +kernel
theorem dX7_reset_48 : decode cX7_reset 48 = .ok (.return_, 1) := by decide +kernel
theorem dX7_copyFrom_0 : decode cX7_copyFrom 0 = .ok (.aload_n 0, 1) := by decide +kernel
theorem dX7_copyFrom_1 : decode cX7_copyFrom 1 = .ok (.aload_n 1, 1) := by decide +kernel
theorem dX7_copyFrom_2 : decode cX7_copyFrom 2 = .ok (.getfield 24, 3) := by decide +kernel
theorem dX7_copyFrom_5 : decode cX7_copyFrom 5 = .ok (.putfield 24, 3) := by decide +kernel
theorem dX7_copyFrom_8 : decode cX7_copyFrom 8 = .ok (.iconst 0, 1) := by decide +kernel
theorem dX7_copyFrom_9 : decode cX7_copyFrom 9 = .ok (.istore_n 2, 1) := by decide +kernel
theorem dX7_copyFrom_10 : decode cX7_copyFrom 10 = .ok (.iload_n 2, 1) := by decide +kernel
theorem dX7_copyFrom_11 : decode cX7_copyFrom 11 = .ok (.bipush 8, 2) := by decide +kernel
theorem dX7_copyFrom_13 : decode cX7_copyFrom 13 = .ok (.if_icmp .ge 24, 3) := by decide +kernel
theorem dX7_copyFrom_16 : decode cX7_copyFrom 16 = .ok (.aload_n 0, 1) := by decide +kernel
theorem dX7_copyFrom_17 : decode cX7_copyFrom 17 = .ok (.getfield 11, 3) := by decide +kernel
theorem dX7_copyFrom_20 : decode cX7_copyFrom 20 = .ok (.iload_n 2, 1) := by decide +kernel
theorem dX7_copyFrom_21 : decode cX7_copyFrom 21 = .ok (.aaload, 1) := by decide +kernel
theorem dX7_copyFrom_22 : decode cX7_copyFrom 22 = .ok (.aload_n 1, 1) := by decide +kernel
theorem dX7_copyFrom_23 : decode cX7_copyFrom 23 = .ok (.getfield 11, 3) := by decide +kernel
theorem dX7_copyFrom_26 : decode cX7_copyFrom 26 = .ok (.iload_n 2, 1) := by decide +kernel
theorem dX7_copyFrom_27 : decode cX7_copyFrom 27 = .ok (.aaload, 1) := by decide +kernel
theorem dX7_copyFrom_28 : decode cX7_copyFrom 28 = .ok (.invokevirtual 34, 3) := by decide +kernel
theorem dX7_copyFrom_31 : decode cX7_copyFrom 31 = .ok (.iinc 2 1, 3) := by decide +kernel
theorem dX7_copyFrom_34 : decode cX7_copyFrom 34 = .ok (.goto (-24), 3) := by decide +kernel
theorem dX7_copyFrom_37 : decode cX7_copyFrom 37 = .ok (.iconst 0, 1) := by decide +kernel
theorem dX7_copyFrom_38 : decode cX7_copyFrom 38 = .ok (.istore_n 2, 1) := by decide +kernel
theorem dX7_copyFrom_39 : decode cX7_copyFrom 39 = .ok (.iload_n 2, 1) := by decide +kernel
theorem dX7_copyFrom_40 : decode cX7_copyFrom 40 = .ok (.iconst 2, 1) := by decide +kernel
theorem dX7_copyFrom_41 : decode cX7_copyFrom 41 = .ok (.if_icmp .ge 54, 3) := by decide +kernel
theorem dX7_copyFrom_44 : decode cX7_copyFrom 44 = .ok (.aload_n 0, 1) := by decide +kernel
theorem dX7_copyFrom_45 : decode cX7_copyFrom 45 = .ok (.getfield 20, 3) := by decide +kernel
theorem dX7_copyFrom_48 : decode cX7_copyFrom 48 = .ok (.iload_n 2, 1) := by decide +kernel
theorem dX7_copyFrom_49 : decode cX7_copyFrom 49 = .ok (.aload_n 1, 1) := by decide +kernel
theorem dX7_copyFrom_50 : decode cX7_copyFrom 50 = .ok (.getfield 20, 3) := by decide +kernel
theorem dX7_copyFrom_53 : decode cX7_copyFrom 53 = .ok (.iload_n 2, 1) := by decide +kernel
theorem dX7_copyFrom_54 : decode cX7_copyFrom 54 = .ok (.iaload, 1) := by decide +kernel
theorem dX7_copyFrom_55 : decode cX7_copyFrom 55 = .ok (.iastore, 1) := by decide +kernel
theorem dX7_copyFrom_56 : decode cX7_copyFrom 56 = .ok (.iconst 0, 1) := by decide +kernel
theorem dX7_copyFrom_57 : decode cX7_copyFrom 57 = .ok (.istore_n 3, 1) := by decide +kernel
theorem dX7_copyFrom_58 : decode cX7_copyFrom 58 = .ok (.iload_n 3, 1) := by decide +kernel
theorem dX7_copyFrom_59 : decode cX7_copyFrom 59 = .ok (.aload_n 0, 1) := by decide +kernel
theorem dX7_copyFrom_60 : decode cX7_copyFrom 60 = .ok (.getfield 20, 3) := by decide +kernel
theorem dX7_copyFrom_63 : decode cX7_copyFrom 63 = .ok (.iload_n 2, 1) := by decide +kernel
theorem dX7_copyFrom_64 : decode cX7_copyFrom 64 = .ok (.iaload, 1) := by decide +kernel
theorem dX7_copyFrom_65 : decode cX7_copyFrom 65 = .ok (.if_icmp .ge 24, 3) := by decide +kernel
theorem dX7_copyFrom_68 : decode cX7_copyFrom 68 = .ok (.aload_n 0, 1) := by decide +kernel
theorem dX7_copyFrom_69 : decode cX7_copyFrom 69 = .ok (.iload_n 2, 1) := by decide +kernel
theorem dX7_copyFrom_70 : decode cX7_copyFrom 70 = .ok (.iload_n 3, 1) := by decide +kernel
theorem dX7_copyFrom_71 : decode cX7_copyFrom 71 = .ok (.invokevirtual 38, 3) := by decide +kernel
theorem dX7_copyFrom_74 : decode cX7_copyFrom 74 = .ok (.aload_n 1, 1) := by decide +kernel
theorem dX7_copyFrom_75 : decode cX7_copyFrom 75 = .ok (.iload_n 2, 1) := by decide +kernel
theorem dX7_copyFrom_76 : decode cX7_copyFrom 76 = .ok (.iload_n 3, 1) := by decide +kernel
theorem dX7_copyFrom_77 : decode cX7_copyFrom 77 = .ok (.invokevirtual 38, 3) := by decide +kernel
theorem dX7_copyFrom_80 : decode cX7_copyFrom 80 = .ok (.invokevirtual 34, 3) := by decide +kernel
theorem dX7_copyFrom_83 : decode cX7_copyFrom 83 = .ok (.iinc 3 1, 3) := by decide +kernel
theorem dX7_copyFrom_86 : decode cX7_copyFrom 86 = .ok (.goto (-28), 3) := by decide +kernel
theorem dX7_copyFrom_89 : decode cX7_copyFrom 89 = .ok (.iinc 2 1, 3) := by decide +kernel
theorem dX7_copyFrom_92 : decode cX7_copyFrom 92 = .ok (.goto (-53), 3) := by decide +kernel
theorem dX7_copyFrom_95 : decode cX7_copyFrom 95 = .ok (.return_, 1) := by decide +kernel
theorem dX7_generatingWord_0 : decode cX7_generatingWord 0 = .ok (.aload_n 0, 1) := by decide +kernel
theorem dX7_generatingWord_1 : decode cX7_generatingWord 1 = .ok (.getfield 17, 3) := by decide +kernel
theorem dX7_generatingWord_4 : decode cX7_generatingWord 4 = .ok (.iload_n 1, 1) := by decide +kernel
theorem dX7_generatingWord_5 : decode cX7_generatingWord 5 = .ok (.bipush 6, 2) := by decide +kernel
theorem dX7_generatingWord_7 : decode cX7_generatingWord 7 = .ok (.imul, 1) := by decide +kernel
theorem dX7_generatingWord_8 : decode cX7_generatingWord 8 = .ok (.iload_n 2, 1) := by decide +kernel
theorem dX7_generatingWord_9 : decode cX7_generatingWord 9 = .ok (.iadd, 1) := by decide +kernel
theorem dX7_generatingWord_10 : decode cX7_generatingWord 10 = .ok (.aaload, 1) := by decide +kernel
theorem dX7_generatingWord_11 : decode cX7_generatingWord 11 = .ok (.areturn, 1) := by decide +kernel
theorem dX7_addWord_0 : decode cX7_addWord 0 = .ok (.aload_n 0, 1) := by decide +kernel
theorem dX7_addWord_1 : decode cX7_addWord 1 = .ok (.getfield 20, 3) := by decide +kernel
theorem dX7_addWord_4 : decode cX7_addWord 4 = .ok (.iload_n 1, 1) := by decide +kernel
theorem dX7_addWord_5 : decode cX7_addWord 5 = .ok (.iaload, 1) := by decide +kernel
theorem dX7_addWord_6 : decode cX7_addWord 6 = .ok (.istore_n 3, 1) := by decide +kernel
theorem dX7_addWord_7 : decode cX7_addWord 7 = .ok (.iload_n 3, 1) := by decide +kernel
theorem dX7_addWord_8 : decode cX7_addWord 8 = .ok (.bipush 6, 2) := by decide +kernel
theorem dX7_addWord_10 : decode cX7_addWord 10 = .ok (.if_icmp .ge 22, 3) := by decide +kernel
theorem dX7_addWord_13 : decode cX7_addWord 13 = .ok (.aload_n 0, 1) := by decide +kernel
theorem dX7_addWord_14 : decode cX7_addWord 14 = .ok (.iload_n 1, 1) := by decide +kernel
theorem dX7_addWord_15 : decode cX7_addWord 15 = .ok (.iload_n 3, 1) := by decide +kernel
theorem dX7_addWord_16 : decode cX7_addWord 16 = .ok (.invokevirtual 38, 3) := by decide +kernel
theorem dX7_addWord_19 : decode cX7_addWord 19 = .ok (.aload_n 2, 1) := by decide +kernel
theorem dX7_addWord_20 : decode cX7_addWord 20 = .ok (.invokevirtual 34, 3) := by decide +kernel
theorem dX7_addWord_23 : decode cX7_addWord 23 = .ok (.aload_n 0, 1) := by decide +kernel
theorem dX7_addWord_24 : decode cX7_addWord 24 = .ok (.getfield 20, 3) := by decide +kernel
theorem dX7_addWord_27 : decode cX7_addWord 27 = .ok (.iload_n 1, 1) := by decide +kernel
theorem dX7_addWord_28 : decode cX7_addWord 28 = .ok (.iload_n 3, 1) := by decide +kernel
theorem dX7_addWord_29 : decode cX7_addWord 29 = .ok (.iconst 1, 1) := by decide +kernel
theorem dX7_addWord_30 : decode cX7_addWord 30 = .ok (.iadd, 1) := by decide +kernel
theorem dX7_addWord_31 : decode cX7_addWord 31 = .ok (.iastore, 1) := by decide +kernel
theorem dX7_addWord_32 : decode cX7_addWord 32 = .ok (.return_, 1) := by decide +kernel
theorem dX7_removeWord_0 : decode cX7_removeWord 0 = .ok (.aload_n 0, 1) := by decide +kernel
theorem dX7_removeWord_1 : decode cX7_removeWord 1 = .ok (.getfield 20, 3) := by decide +kernel
theorem dX7_removeWord_4 : decode cX7_removeWord 4 = .ok (.iload_n 1, 1) := by decide +kernel
theorem dX7_removeWord_5 : decode cX7_removeWord 5 = .ok (.iaload, 1) := by decide +kernel
theorem dX7_removeWord_6 : decode cX7_removeWord 6 = .ok (.iconst 1, 1) := by decide +kernel
theorem dX7_removeWord_7 : decode cX7_removeWord 7 = .ok (.isub, 1) := by decide +kernel
theorem dX7_removeWord_8 : decode cX7_removeWord 8 = .ok (.istore_n 3, 1) := by decide +kernel
theorem dX7_removeWord_9 : decode cX7_removeWord 9 = .ok (.iload_n 2, 1) := by decide +kernel
theorem dX7_removeWord_10 : decode cX7_removeWord 10 = .ok (.istore 4, 2) := by decide +kernel
theorem dX7_removeWord_12 : decode cX7_removeWord 12 = .ok (.iload 4, 2) := by decide +kernel
theorem dX7_removeWord_14 : decode cX7_removeWord 14 = .ok (.iload_n 3, 1) := by decide +kernel
theorem dX7_removeWord_15 : decode cX7_removeWord 15 = .ok (.if_icmp .ge 28, 3) := by decide +kernel
theorem dX7_removeWord_18 : decode cX7_removeWord 18 = .ok (.aload_n 0, 1) := by decide +kernel
theorem dX7_removeWord_19 : decode cX7_removeWord 19 = .ok (.iload_n 1, 1) := by decide +kernel
theorem dX7_removeWord_20 : decode cX7_removeWord 20 = .ok (.iload 4, 2) := by decide +kernel
theorem dX7_removeWord_22 : decode cX7_removeWord 22 = .ok (.invokevirtual 38, 3) := by decide +kernel
theorem dX7_removeWord_25 : decode cX7_removeWord 25 = .ok (.aload_n 0, 1) := by decide +kernel
theorem dX7_removeWord_26 : decode cX7_removeWord 26 = .ok (.iload_n 1, 1) := by decide +kernel
theorem dX7_removeWord_27 : decode cX7_removeWord 27 = .ok (.iload 4, 2) := by decide +kernel
theorem dX7_removeWord_29 : decode cX7_removeWord 29 = .ok (.iconst 1, 1) := by decide +kernel
theorem dX7_removeWord_30 : decode cX7_removeWord 30 = .ok (.iadd, 1) := by decide +kernel
theorem dX7_removeWord_31 : decode cX7_removeWord 31 = .ok (.invokevirtual 38, 3) := by decide +kernel
theorem dX7_removeWord_34 : decode cX7_removeWord 34 = .ok (.invokevirtual 34, 3) := by decide +kernel
theorem dX7_removeWord_37 : decode cX7_removeWord 37 = .ok (.iinc 4 1, 3) := by decide +kernel
theorem dX7_removeWord_40 : decode cX7_removeWord 40 = .ok (.goto (-28), 3) := by decide +kernel
theorem dX7_removeWord_43 : decode cX7_removeWord 43 = .ok (.aload_n 0, 1) := by decide +kernel
theorem dX7_removeWord_44 : decode cX7_removeWord 44 = .ok (.getfield 20, 3) := by decide +kernel
theorem dX7_removeWord_47 : decode cX7_removeWord 47 = .ok (.iload_n 1, 1) := by decide +kernel
theorem dX7_removeWord_48 : decode cX7_removeWord 48 = .ok (.iload_n 3, 1) := by decide +kernel
theorem dX7_removeWord_49 : decode cX7_removeWord 49 = .ok (.iastore, 1) := by decide +kernel
theorem dX7_removeWord_50 : decode cX7_removeWord 50 = .ok (.return_, 1) := by decide +kernel
theorem dX7_lettersInRegisters_0 : decode cX7_lettersInRegisters 0 = .ok (.iconst 0, 1) := by decide +kernel
theorem dX7_lettersInRegisters_1 : decode cX7_lettersInRegisters 1 = .ok (.istore_n 1, 1) := by decide +kernel
theorem dX7_lettersInRegisters_2 : decode cX7_lettersInRegisters 2 = .ok (.iconst 0, 1) := by decide +kernel
theorem dX7_lettersInRegisters_3 : decode cX7_lettersInRegisters 3 = .ok (.istore_n 2, 1) := by decide +kernel
theorem dX7_lettersInRegisters_4 : decode cX7_lettersInRegisters 4 = .ok (.iload_n 2, 1) := by decide +kernel
theorem dX7_lettersInRegisters_5 : decode cX7_lettersInRegisters 5 = .ok (.bipush 8, 2) := by decide +kernel
theorem dX7_lettersInRegisters_7 : decode cX7_lettersInRegisters 7 = .ok (.if_icmp .ge 21, 3) := by decide +kernel
theorem dX7_lettersInRegisters_10 : decode cX7_lettersInRegisters 10 = .ok (.iload_n 1, 1) := by decide +kernel
theorem dX7_lettersInRegisters_11 : decode cX7_lettersInRegisters 11 = .ok (.aload_n 0, 1) := by decide +kernel
theorem dX7_lettersInRegisters_12 : decode cX7_lettersInRegisters 12 = .ok (.getfield 11, 3) := by decide +kernel
theorem dX7_lettersInRegisters_15 : decode cX7_lettersInRegisters 15 = .ok (.iload_n 2, 1) := by decide +kernel
theorem dX7_lettersInRegisters_16 : decode cX7_lettersInRegisters 16 = .ok (.aaload, 1) := by decide +kernel
theorem dX7_lettersInRegisters_17 : decode cX7_lettersInRegisters 17 = .ok (.getfield 42, 3) := by decide +kernel
theorem dX7_lettersInRegisters_20 : decode cX7_lettersInRegisters 20 = .ok (.iadd, 1) := by decide +kernel
theorem dX7_lettersInRegisters_21 : decode cX7_lettersInRegisters 21 = .ok (.istore_n 1, 1) := by decide +kernel
theorem dX7_lettersInRegisters_22 : decode cX7_lettersInRegisters 22 = .ok (.iinc 2 1, 3) := by decide +kernel
theorem dX7_lettersInRegisters_25 : decode cX7_lettersInRegisters 25 = .ok (.goto (-21), 3) := by decide +kernel
theorem dX7_lettersInRegisters_28 : decode cX7_lettersInRegisters 28 = .ok (.iload_n 1, 1) := by decide +kernel
theorem dX7_lettersInRegisters_29 : decode cX7_lettersInRegisters 29 = .ok (.ireturn, 1) := by decide +kernel

