theorem dX5_isNumberWithin_11 : decode cX5_isNumberWithin 11 = .ok (.aload_n 0, 1) := by decide +kernel
theorem dX5_isNumberWithin_12 : decode cX5_isNumberWithin 12 = .ok (.iconst 1, 1) := by decide +kernel
theorem dX5_isNumberWithin_13 : decode cX5_isNumberWithin 13 = .ok (.invokevirtual 73, 3) := by decide +kernel
theorem dX5_isNumberWithin_16 : decode cX5_isNumberWithin 16 = .ok (.ireturn, 1) := by decide +kernel
theorem dX5_isNumberWithin_17 : decode cX5_isNumberWithin 17 = .ok (.aload_n 0, 1) := by decide +kernel
theorem dX5_isNumberWithin_18 : decode cX5_isNumberWithin 18 = .ok (.getfield 14, 3) := by decide +kernel
theorem dX5_isNumberWithin_21 : decode cX5_isNumberWithin 21 = .ok (.getfield 113, 3) := by decide +kernel
theorem dX5_isNumberWithin_24 : decode cX5_isNumberWithin 24 = .ok (.iload_n 1, 1) := by decide +kernel
theorem dX5_isNumberWithin_25 : decode cX5_isNumberWithin 25 = .ok (.if_icmp .lt 14, 3) := by decide +kernel
theorem dX5_isNumberWithin_28 : decode cX5_isNumberWithin 28 = .ok (.aload_n 0, 1) := by decide +kernel
theorem dX5_isNumberWithin_29 : decode cX5_isNumberWithin 29 = .ok (.getfield 14, 3) := by decide +kernel
theorem dX5_isNumberWithin_32 : decode cX5_isNumberWithin 32 = .ok (.getfield 113, 3) := by decide +kernel
theorem dX5_isNumberWithin_35 : decode cX5_isNumberWithin 35 = .ok (.iload_n 2, 1) := by decide +kernel
theorem dX5_isNumberWithin_36 : decode cX5_isNumberWithin 36 = .ok (.if_icmp .le 11, 3) := by decide +kernel
theorem dX5_isNumberWithin_39 : decode cX5_isNumberWithin 39 = .ok (.aload_n 0, 1) := by decide +kernel
theorem dX5_isNumberWithin_40 : decode cX5_isNumberWithin 40 = .ok (.iconst 2, 1) := by decide +kernel
theorem dX5_isNumberWithin_41 : decode cX5_isNumberWithin 41 = .ok (.invokevirtual 73, 3) := by decide +kernel
theorem dX5_isNumberWithin_44 : decode cX5_isNumberWithin 44 = .ok (.ifCond .eq 7, 3) := by decide +kernel
theorem dX5_isNumberWithin_47 : decode cX5_isNumberWithin 47 = .ok (.iconst 1, 1) := by decide +kernel
theorem dX5_isNumberWithin_48 : decode cX5_isNumberWithin 48 = .ok (.goto 4, 3) := by decide +kernel
theorem dX5_isNumberWithin_51 : decode cX5_isNumberWithin 51 = .ok (.iconst 0, 1) := by decide +kernel
theorem dX5_isNumberWithin_52 : decode cX5_isNumberWithin 52 = .ok (.ireturn, 1) := by decide +kernel
theorem dX5_takesSemicolon_0 : decode cX5_takesSemicolon 0 = .ok (.aload_n 0, 1) := by decide +kernel
theorem dX5_takesSemicolon_1 : decode cX5_takesSemicolon 1 = .ok (.getfield 14, 3) := by decide +kernel
theorem dX5_takesSemicolon_4 : decode cX5_takesSemicolon 4 = .ok (.getfield 85, 3) := by decide +kernel
theorem dX5_takesSemicolon_7 : decode cX5_takesSemicolon 7 = .ok (.iconst 3, 1) := by decide +kernel
theorem dX5_takesSemicolon_8 : decode cX5_takesSemicolon 8 = .ok (.if_icmp .eq 9, 3) := by decide +kernel
theorem dX5_takesSemicolon_11 : decode cX5_takesSemicolon 11 = .ok (.aload_n 0, 1) := by decide +kernel
theorem dX5_takesSemicolon_12 : decode cX5_takesSemicolon 12 = .ok (.iconst 1, 1) := by decide +kernel
theorem dX5_takesSemicolon_13 : decode cX5_takesSemicolon 13 = .ok (.invokevirtual 73, 3) := by decide +kernel
theorem dX5_takesSemicolon_16 : decode cX5_takesSemicolon 16 = .ok (.ireturn, 1) := by decide +kernel
theorem dX5_takesSemicolon_17 : decode cX5_takesSemicolon 17 = .ok (.aload_n 0, 1) := by decide +kernel
theorem dX5_takesSemicolon_18 : decode cX5_takesSemicolon 18 = .ok (.dup, 1) := by decide +kernel
theorem dX5_takesSemicolon_19 : decode cX5_takesSemicolon 19 = .ok (.getfield 20, 3) := by decide +kernel
theorem dX5_takesSemicolon_22 : decode cX5_takesSemicolon 22 = .ok (.iconst 1, 1) := by decide +kernel
theorem dX5_takesSemicolon_23 : decode cX5_takesSemicolon 23 = .ok (.iadd, 1) := by decide +kernel
theorem dX5_takesSemicolon_24 : decode cX5_takesSemicolon 24 = .ok (.putfield 20, 3) := by decide +kernel
theorem dX5_takesSemicolon_27 : decode cX5_takesSemicolon 27 = .ok (.aload_n 0, 1) := by decide +kernel
theorem dX5_takesSemicolon_28 : decode cX5_takesSemicolon 28 = .ok (.getfield 14, 3) := by decide +kernel
theorem dX5_takesSemicolon_31 : decode cX5_takesSemicolon 31 = .ok (.invokevirtual 116, 3) := by decide +kernel
theorem dX5_takesSemicolon_34 : decode cX5_takesSemicolon 34 = .ok (.iconst 1, 1) := by decide +kernel
theorem dX5_takesSemicolon_35 : decode cX5_takesSemicolon 35 = .ok (.ireturn, 1) := by decide +kernel
theorem dX5_refuses_0 : decode cX5_refuses 0 = .ok (.aload_n 0, 1) := by decide +kernel
theorem dX5_refuses_1 : decode cX5_refuses 1 = .ok (.iload_n 1, 1) := by decide +kernel
theorem dX5_refuses_2 : decode cX5_refuses 2 = .ok (.putfield 24, 3) := by decide +kernel
theorem dX5_refuses_5 : decode cX5_refuses 5 = .ok (.aload_n 0, 1) := by decide +kernel
theorem dX5_refuses_6 : decode cX5_refuses 6 = .ok (.aload_n 0, 1) := by decide +kernel
theorem dX5_refuses_7 : decode cX5_refuses 7 = .ok (.getfield 14, 3) := by decide +kernel
theorem dX5_refuses_10 : decode cX5_refuses 10 = .ok (.getfield 141, 3) := by decide +kernel
theorem dX5_refuses_13 : decode cX5_refuses 13 = .ok (.putfield 27, 3) := by decide +kernel
theorem dX5_refuses_16 : decode cX5_refuses 16 = .ok (.iconst 0, 1) := by decide +kernel
theorem dX5_refuses_17 : decode cX5_refuses 17 = .ok (.ireturn, 1) := by decide +kernel
theorem dX6_init_0 : decode cX6_init 0 = .ok (.aload_n 0, 1) := by decide +kernel
theorem dX6_init_1 : decode cX6_init 1 = .ok (.invokespecial 3, 3) := by decide +kernel
theorem dX6_init_4 : decode cX6_init 4 = .ok (.aload_n 0, 1) := by decide +kernel
theorem dX6_init_5 : decode cX6_init 5 = .ok (.aload_n 1, 1) := by decide +kernel
theorem dX6_init_6 : decode cX6_init 6 = .ok (.putfield 9, 3) := by decide +kernel
theorem dX6_init_9 : decode cX6_init 9 = .ok (.return_, 1) := by decide +kernel
theorem dX6_moveToFirst_0 : decode cX6_moveToFirst 0 = .ok (.aload_n 0, 1) := by decide +kernel
theorem dX6_moveToFirst_1 : decode cX6_moveToFirst 1 = .ok (.iconst 0, 1) := by decide +kernel
theorem dX6_moveToFirst_2 : decode cX6_moveToFirst 2 = .ok (.putfield 15, 3) := by decide +kernel
theorem dX6_moveToFirst_5 : decode cX6_moveToFirst 5 = .ok (.aload_n 0, 1) := by decide +kernel
theorem dX6_moveToFirst_6 : decode cX6_moveToFirst 6 = .ok (.invokevirtual 19, 3) := by decide +kernel
theorem dX6_moveToFirst_9 : decode cX6_moveToFirst 9 = .ok (.return_, 1) := by decide +kernel
theorem dX6_moveToNext_0 : decode cX6_moveToNext 0 = .ok (.aload_n 0, 1) := by decide +kernel
theorem dX6_moveToNext_1 : decode cX6_moveToNext 1 = .ok (.invokevirtual 22, 3) := by decide +kernel
theorem dX6_moveToNext_4 : decode cX6_moveToNext 4 = .ok (.aload_n 0, 1) := by decide +kernel
theorem dX6_moveToNext_5 : decode cX6_moveToNext 5 = .ok (.getfield 9, 3) := by decide +kernel
theorem dX6_moveToNext_8 : decode cX6_moveToNext 8 = .ok (.getfield 25, 3) := by decide +kernel
theorem dX6_moveToNext_11 : decode cX6_moveToNext 11 = .ok (.sipush 600, 3) := by decide +kernel
theorem dX6_moveToNext_14 : decode cX6_moveToNext 14 = .ok (.invokestatic 30, 3) := by decide +kernel
theorem dX6_moveToNext_17 : decode cX6_moveToNext 17 = .ok (.istore_n 1, 1) := by decide +kernel
theorem dX6_moveToNext_18 : decode cX6_moveToNext 18 = .ok (.aload_n 0, 1) := by decide +kernel
theorem dX6_moveToNext_19 : decode cX6_moveToNext 19 = .ok (.getfield 36, 3) := by decide +kernel
theorem dX6_moveToNext_22 : decode cX6_moveToNext 22 = .ok (.iload_n 1, 1) := by decide +kernel
theorem dX6_moveToNext_23 : decode cX6_moveToNext 23 = .ok (.if_icmp .lt 38, 3) := by decide +kernel
theorem dX6_moveToNext_26 : decode cX6_moveToNext 26 = .ok (.aload_n 0, 1) := by decide +kernel
theorem dX6_moveToNext_27 : decode cX6_moveToNext 27 = .ok (.iload_n 1, 1) := by decide +kernel
theorem dX6_moveToNext_28 : decode cX6_moveToNext 28 = .ok (.putfield 36, 3) := by decide +kernel
theorem dX6_moveToNext_31 : decode cX6_moveToNext 31 = .ok (.aload_n 0, 1) := by decide +kernel
theorem dX6_moveToNext_32 : decode cX6_moveToNext 32 = .ok (.iload_n 1, 1) := by decide +kernel
theorem dX6_moveToNext_33 : decode cX6_moveToNext 33 = .ok (.putfield 15, 3) := by decide +kernel
theorem dX6_moveToNext_36 : decode cX6_moveToNext 36 = .ok (.aload_n 0, 1) := by decide +kernel
theorem dX6_moveToNext_37 : decode cX6_moveToNext 37 = .ok (.aload_n 0, 1) := by decide +kernel
theorem dX6_moveToNext_38 : decode cX6_moveToNext 38 = .ok (.getfield 9, 3) := by decide +kernel
theorem dX6_moveToNext_41 : decode cX6_moveToNext 41 = .ok (.getfield 25, 3) := by decide +kernel
theorem dX6_moveToNext_44 : decode cX6_moveToNext 44 = .ok (.sipush 600, 3) := by decide +kernel
theorem dX6_moveToNext_47 : decode cX6_moveToNext 47 = .ok (.if_icmp .le 7, 3) := by decide +kernel
theorem dX6_moveToNext_50 : decode cX6_moveToNext 50 = .ok (.iconst 0, 1) := by decide +kernel
theorem dX6_moveToNext_51 : decode cX6_moveToNext 51 = .ok (.goto 4, 3) := by decide +kernel
theorem dX6_moveToNext_54 : decode cX6_moveToNext 54 = .ok (.iconst 4, 1) := by decide +kernel
theorem dX6_moveToNext_55 : decode cX6_moveToNext 55 = .ok (.putfield 39, 3) := by decide +kernel
theorem dX6_moveToNext_58 : decode cX6_moveToNext 58 = .ok (.goto 41, 3) := by decide +kernel
theorem dX6_moveToNext_61 : decode cX6_moveToNext 61 = .ok (.aload_n 0, 1) := by decide +kernel
theorem dX6_moveToNext_62 : decode cX6_moveToNext 62 = .ok (.getfield 9, 3) := by decide +kernel
theorem dX6_moveToNext_65 : decode cX6_moveToNext 65 = .ok (.aload_n 0, 1) := by decide +kernel
theorem dX6_moveToNext_66 : decode cX6_moveToNext 66 = .ok (.getfield 36, 3) := by decide +kernel
theorem dX6_moveToNext_69 : decode cX6_moveToNext 69 = .ok (.invokevirtual 42, 3) := by decide +kernel
theorem dX6_moveToNext_72 : decode cX6_moveToNext 72 = .ok (.bipush 59, 2) := by decide +kernel
theorem dX6_moveToNext_74 : decode cX6_moveToNext 74 = .ok (.if_icmp .ne 21, 3) := by decide +kernel
theorem dX6_moveToNext_77 : decode cX6_moveToNext 77 = .ok (.aload_n 0, 1) := by decide +kernel
theorem dX6_moveToNext_78 : decode cX6_moveToNext 78 = .ok (.aload_n 0, 1) := by decide +kernel
theorem dX6_moveToNext_79 : decode cX6_moveToNext 79 = .ok (.getfield 36, 3) := by decide +kernel
theorem dX6_moveToNext_82 : decode cX6_moveToNext 82 = .ok (.iconst 1, 1) := by decide +kernel
theorem dX6_moveToNext_83 : decode cX6_moveToNext 83 = .ok (.iadd, 1) := by decide +kernel
theorem dX6_moveToNext_84 : decode cX6_moveToNext 84 = .ok (.putfield 15, 3) := by decide +kernel
theorem dX6_moveToNext_87 : decode cX6_moveToNext 87 = .ok (.aload_n 0, 1) := by decide +kernel
theorem dX6_moveToNext_88 : decode cX6_moveToNext 88 = .ok (.iconst 3, 1) := by decide +kernel
theorem dX6_moveToNext_89 : decode cX6_moveToNext 89 = .ok (.putfield 39, 3) := by decide +kernel
theorem dX6_moveToNext_92 : decode cX6_moveToNext 92 = .ok (.goto 7, 3) := by decide +kernel
theorem dX6_moveToNext_95 : decode cX6_moveToNext 95 = .ok (.aload_n 0, 1) := by decide +kernel
theorem dX6_moveToNext_96 : decode cX6_moveToNext 96 = .ok (.invokevirtual 46, 3) := by decide +kernel
theorem dX6_moveToNext_99 : decode cX6_moveToNext 99 = .ok (.return_, 1) := by decide +kernel
theorem dX6_isWord_0 : decode cX6_isWord 0 = .ok (.aload_n 0, 1) := by decide +kernel
theorem dX6_isWord_1 : decode cX6_isWord 1 = .ok (.getfield 39, 3) := by decide +kernel
theorem dX6_isWord_4 : decode cX6_isWord 4 = .ok (.iconst 1, 1) := by decide +kernel
theorem dX6_isWord_5 : decode cX6_isWord 5 = .ok (.if_icmp .ne 19, 3) := by decide +kernel
theorem dX6_isWord_8 : decode cX6_isWord 8 = .ok (.aload_n 0, 1) := by decide +kernel
theorem dX6_isWord_9 : decode cX6_isWord 9 = .ok (.getfield 15, 3) := by decide +kernel
theorem dX6_isWord_12 : decode cX6_isWord 12 = .ok (.aload_n 0, 1) := by decide +kernel
theorem dX6_isWord_13 : decode cX6_isWord 13 = .ok (.getfield 36, 3) := by decide +kernel
theorem dX6_isWord_16 : decode cX6_isWord 16 = .ok (.isub, 1) := by decide +kernel
theorem dX6_isWord_17 : decode cX6_isWord 17 = .ok (.aload_n 1, 1) := by decide +kernel
theorem dX6_isWord_18 : decode cX6_isWord 18 = .ok (.invokevirtual 49, 3) := by decide +kernel
theorem dX6_isWord_21 : decode cX6_isWord 21 = .ok (.if_icmp .eq 5, 3) := by decide +kernel
theorem dX6_isWord_24 : decode cX6_isWord 24 = .ok (.iconst 0, 1) := by decide +kernel
theorem dX6_isWord_25 : decode cX6_isWord 25 = .ok (.ireturn, 1) := by decide +kernel
theorem dX6_isWord_26 : decode cX6_isWord 26 = .ok (.iconst 0, 1) := by decide +kernel
theorem dX6_isWord_27 : decode cX6_isWord 27 = .ok (.istore_n 2, 1) := by decide +kernel
theorem dX6_isWord_28 : decode cX6_isWord 28 = .ok (.iload_n 2, 1) := by decide +kernel
theorem dX6_isWord_29 : decode cX6_isWord 29 = .ok (.aload_n 1, 1) := by decide +kernel
theorem dX6_isWord_30 : decode cX6_isWord 30 = .ok (.invokevirtual 49, 3) := by decide +kernel
theorem dX6_isWord_33 : decode cX6_isWord 33 = .ok (.if_icmp .ge 32, 3) := by decide +kernel
theorem dX6_isWord_36 : decode cX6_isWord 36 = .ok (.aload_n 0, 1) := by decide +kernel
theorem dX6_isWord_37 : decode cX6_isWord 37 = .ok (.getfield 9, 3) := by decide +kernel
theorem dX6_isWord_40 : decode cX6_isWord 40 = .ok (.aload_n 0, 1) := by decide +kernel
theorem dX6_isWord_41 : decode cX6_isWord 41 = .ok (.getfield 36, 3) := by decide +kernel
theorem dX6_isWord_44 : decode cX6_isWord 44 = .ok (.iload_n 2, 1) := by decide +kernel
theorem dX6_isWord_45 : decode cX6_isWord 45 = .ok (.iadd, 1) := by decide +kernel
theorem dX6_isWord_46 : decode cX6_isWord 46 = .ok (.invokevirtual 42, 3) := by decide +kernel
theorem dX6_isWord_49 : decode cX6_isWord 49 = .ok (.aload_n 1, 1) := by decide +kernel
theorem dX6_isWord_50 : decode cX6_isWord 50 = .ok (.iload_n 2, 1) := by decide +kernel
theorem dX6_isWord_51 : decode cX6_isWord 51 = .ok (.invokevirtual 54, 3) := by decide +kernel
theorem dX6_isWord_54 : decode cX6_isWord 54 = .ok (.if_icmp .eq 5, 3) := by decide +kernel
theorem dX6_isWord_57 : decode cX6_isWord 57 = .ok (.iconst 0, 1) := by decide +kernel
theorem dX6_isWord_58 : decode cX6_isWord 58 = .ok (.ireturn, 1) := by decide +kernel
theorem dX6_isWord_59 : decode cX6_isWord 59 = .ok (.iinc 2 1, 3) := by decide +kernel
theorem dX6_isWord_62 : decode cX6_isWord 62 = .ok (.goto (-34), 3) := by decide +kernel
theorem dX6_isWord_65 : decode cX6_isWord 65 = .ok (.iconst 1, 1) := by decide +kernel
theorem dX6_isWord_66 : decode cX6_isWord 66 = .ok (.ireturn, 1) := by decide +kernel
theorem dX6_skipBlanks_0 : decode cX6_skipBlanks 0 = .ok (.aload_n 0, 1) := by decide +kernel
theorem dX6_skipBlanks_1 : decode cX6_skipBlanks 1 = .ok (.aload_n 0, 1) := by decide +kernel
theorem dX6_skipBlanks_2 : decode cX6_skipBlanks 2 = .ok (.getfield 15, 3) := by decide +kernel
theorem dX6_skipBlanks_5 : decode cX6_skipBlanks 5 = .ok (.putfield 36, 3) := by decide +kernel
theorem dX6_skipBlanks_8 : decode cX6_skipBlanks 8 = .ok (.aload_n 0, 1) := by decide +kernel
theorem dX6_skipBlanks_9 : decode cX6_skipBlanks 9 = .ok (.getfield 36, 3) := by decide +kernel
theorem dX6_skipBlanks_12 : decode cX6_skipBlanks 12 = .ok (.ifCond .lt 66, 3) := by decide +kernel
theorem dX6_skipBlanks_15 : decode cX6_skipBlanks 15 = .ok (.aload_n 0, 1) := by decide +kernel
theorem dX6_skipBlanks_16 : decode cX6_skipBlanks 16 = .ok (.getfield 36, 3) := by decide +kernel
theorem dX6_skipBlanks_19 : decode cX6_skipBlanks 19 = .ok (.aload_n 0, 1) := by decide +kernel
theorem dX6_skipBlanks_20 : decode cX6_skipBlanks 20 = .ok (.getfield 9, 3) := by decide +kernel
theorem dX6_skipBlanks_23 : decode cX6_skipBlanks 23 = .ok (.getfield 25, 3) := by decide +kernel
theorem dX6_skipBlanks_26 : decode cX6_skipBlanks 26 = .ok (.if_icmp .ge 52, 3) := by decide +kernel
theorem dX6_skipBlanks_29 : decode cX6_skipBlanks 29 = .ok (.aload_n 0, 1) := by decide +kernel
theorem dX6_skipBlanks_30 : decode cX6_skipBlanks 30 = .ok (.getfield 36, 3) := by decide +kernel
theorem dX6_skipBlanks_33 : decode cX6_skipBlanks 33 = .ok (.sipush 640, 3) := by decide +kernel
theorem dX6_skipBlanks_36 : decode cX6_skipBlanks 36 = .ok (.if_icmp .ge 42, 3) := by decide +kernel
theorem dX6_skipBlanks_39 : decode cX6_skipBlanks 39 = .ok (.aload_n 0, 1) := by decide +kernel
theorem dX6_skipBlanks_40 : decode cX6_skipBlanks 40 = .ok (.getfield 9, 3) := by decide +kernel
theorem dX6_skipBlanks_43 : decode cX6_skipBlanks 43 = .ok (.getfield 58, 3) := by decide +kernel
theorem dX6_skipBlanks_46 : decode cX6_skipBlanks 46 = .ok (.aload_n 0, 1) := by decide +kernel
theorem dX6_skipBlanks_47 : decode cX6_skipBlanks 47 = .ok (.getfield 36, 3) := by decide +kernel
theorem dX6_skipBlanks_50 : decode cX6_skipBlanks 50 = .ok (.baload, 1) := by decide +kernel
theorem dX6_skipBlanks_51 : decode cX6_skipBlanks 51 = .ok (.istore_n 1, 1) := by decide +kernel
theorem dX6_skipBlanks_52 : decode cX6_skipBlanks 52 = .ok (.iload_n 1, 1) := by decide +kernel
theorem dX6_skipBlanks_53 : decode cX6_skipBlanks 53 = .ok (.bipush 32, 2) := by decide +kernel
theorem dX6_skipBlanks_55 : decode cX6_skipBlanks 55 = .ok (.if_icmp .eq 10, 3) := by decide +kernel
theorem dX6_skipBlanks_58 : decode cX6_skipBlanks 58 = .ok (.iload_n 1, 1) := by decide +kernel
theorem dX6_skipBlanks_59 : decode cX6_skipBlanks 59 = .ok (.bipush 10, 2) := by decide +kernel
theorem dX6_skipBlanks_61 : decode cX6_skipBlanks 61 = .ok (.if_icmp .eq 4, 3) := by decide +kernel
theorem dX6_skipBlanks_64 : decode cX6_skipBlanks 64 = .ok (.return_, 1) := by decide +kernel
theorem dX6_skipBlanks_65 : decode cX6_skipBlanks 65 = .ok (.aload_n 0, 1) := by decide +kernel
theorem dX6_skipBlanks_66 : decode cX6_skipBlanks 66 = .ok (.dup, 1) := by decide +kernel
theorem dX6_skipBlanks_67 : decode cX6_skipBlanks 67 = .ok (.getfield 36, 3) := by decide +kernel
theorem dX6_skipBlanks_70 : decode cX6_skipBlanks 70 = .ok (.iconst 1, 1) := by decide +kernel
theorem dX6_skipBlanks_71 : decode cX6_skipBlanks 71 = .ok (.iadd, 1) := by decide +kernel
theorem dX6_skipBlanks_72 : decode cX6_skipBlanks 72 = .ok (.putfield 36, 3) := by decide +kernel
theorem dX6_skipBlanks_75 : decode cX6_skipBlanks 75 = .ok (.goto (-67), 3) := by decide +kernel
theorem dX6_skipBlanks_78 : decode cX6_skipBlanks 78 = .ok (.return_, 1) := by decide +kernel
theorem dX6_scanRun_0 : decode cX6_scanRun 0 = .ok (.iconst 0, 1) := by decide +kernel
theorem dX6_scanRun_1 : decode cX6_scanRun 1 = .ok (.istore_n 1, 1) := by decide +kernel
theorem dX6_scanRun_2 : decode cX6_scanRun 2 = .ok (.iconst 0, 1) := by decide +kernel
theorem dX6_scanRun_3 : decode cX6_scanRun 3 = .ok (.istore_n 2, 1) := by decide +kernel
theorem dX6_scanRun_4 : decode cX6_scanRun 4 = .ok (.aload_n 0, 1) := by decide +kernel
theorem dX6_scanRun_5 : decode cX6_scanRun 5 = .ok (.iconst 0, 1) := by decide +kernel
theorem dX6_scanRun_6 : decode cX6_scanRun 6 = .ok (.putfield 62, 3) := by decide +kernel
theorem dX6_scanRun_9 : decode cX6_scanRun 9 = .ok (.aload_n 0, 1) := by decide +kernel
theorem dX6_scanRun_10 : decode cX6_scanRun 10 = .ok (.aload_n 0, 1) := by decide +kernel
theorem dX6_scanRun_11 : decode cX6_scanRun 11 = .ok (.getfield 36, 3) := by decide +kernel
theorem dX6_scanRun_14 : decode cX6_scanRun 14 = .ok (.putfield 15, 3) := by decide +kernel
theorem dX6_scanRun_17 : decode cX6_scanRun 17 = .ok (.aload_n 0, 1) := by decide +kernel
theorem dX6_scanRun_18 : decode cX6_scanRun 18 = .ok (.getfield 15, 3) := by decide +kernel
theorem dX6_scanRun_21 : decode cX6_scanRun 21 = .ok (.ifCond .lt 102, 3) := by decide +kernel
theorem dX6_scanRun_24 : decode cX6_scanRun 24 = .ok (.aload_n 0, 1) := by decide +kernel
theorem dX6_scanRun_25 : decode cX6_scanRun 25 = .ok (.getfield 15, 3) := by decide +kernel
theorem dX6_scanRun_28 : decode cX6_scanRun 28 = .ok (.aload_n 0, 1) := by decide +kernel
theorem dX6_scanRun_29 : decode cX6_scanRun 29 = .ok (.getfield 9, 3) := by decide +kernel
theorem dX6_scanRun_32 : decode cX6_scanRun 32 = .ok (.getfield 25, 3) := by decide +kernel
theorem dX6_scanRun_35 : decode cX6_scanRun 35 = .ok (.if_icmp .ge 88, 3) := by decide +kernel
theorem dX6_scanRun_38 : decode cX6_scanRun 38 = .ok (.aload_n 0, 1) := by decide +kernel
theorem dX6_scanRun_39 : decode cX6_scanRun 39 = .ok (.getfield 15, 3) := by decide +kernel
theorem dX6_scanRun_42 : decode cX6_scanRun 42 = .ok (.sipush 640, 3) := by decide +kernel
theorem dX6_scanRun_45 : decode cX6_scanRun 45 = .ok (.if_icmp .ge 78, 3) := by decide +kernel
theorem dX6_scanRun_48 : decode cX6_scanRun 48 = .ok (.aload_n 0, 1) := by decide +kernel
theorem dX6_scanRun_49 : decode cX6_scanRun 49 = .ok (.getfield 9, 3) := by decide +kernel
theorem dX6_scanRun_52 : decode cX6_scanRun 52 = .ok (.getfield 58, 3) := by decide +kernel
theorem dX6_scanRun_55 : decode cX6_scanRun 55 = .ok (.aload_n 0, 1) := by decide +kernel
theorem dX6_scanRun_56 : decode cX6_scanRun 56 = .ok (.getfield 15, 3) := by decide +kernel
theorem dX6_scanRun_59 : decode cX6_scanRun 59 = .ok (.baload, 1) := by decide +kernel
theorem dX6_scanRun_60 : decode cX6_scanRun 60 = .ok (.istore_n 3, 1) := by decide +kernel
theorem dX6_scanRun_61 : decode cX6_scanRun 61 = .ok (.iload_n 3, 1) := by decide +kernel
theorem dX6_scanRun_62 : decode cX6_scanRun 62 = .ok (.bipush 48, 2) := by decide +kernel
theorem dX6_scanRun_64 : decode cX6_scanRun 64 = .ok (.if_icmp .lt 31, 3) := by decide +kernel
theorem dX6_scanRun_67 : decode cX6_scanRun 67 = .ok (.iload_n 3, 1) := by decide +kernel
theorem dX6_scanRun_68 : decode cX6_scanRun 68 = .ok (.bipush 57, 2) := by decide +kernel
theorem dX6_scanRun_70 : decode cX6_scanRun 70 = .ok (.if_icmp .gt 25, 3) := by decide +kernel
theorem dX6_scanRun_73 : decode cX6_scanRun 73 = .ok (.iinc 2 1, 3) := by decide +kernel
theorem dX6_scanRun_76 : decode cX6_scanRun 76 = .ok (.aload_n 0, 1) := by decide +kernel
theorem dX6_scanRun_77 : decode cX6_scanRun 77 = .ok (.aload_n 0, 1) := by decide +kernel
theorem dX6_scanRun_78 : decode cX6_scanRun 78 = .ok (.getfield 62, 3) := by decide +kernel
theorem dX6_scanRun_81 : decode cX6_scanRun 81 = .ok (.bipush 10, 2) := by decide +kernel
theorem dX6_scanRun_83 : decode cX6_scanRun 83 = .ok (.imul, 1) := by decide +kernel
theorem dX6_scanRun_84 : decode cX6_scanRun 84 = .ok (.iload_n 3, 1) := by decide +kernel
theorem dX6_scanRun_85 : decode cX6_scanRun 85 = .ok (.bipush 48, 2) := by decide +kernel
theorem dX6_scanRun_87 : decode cX6_scanRun 87 = .ok (.isub, 1) := by decide +kernel
theorem dX6_scanRun_88 : decode cX6_scanRun 88 = .ok (.iadd, 1) := by decide +kernel
theorem dX6_scanRun_89 : decode cX6_scanRun 89 = .ok (.putfield 62, 3) := by decide +kernel
theorem dX6_scanRun_92 : decode cX6_scanRun 92 = .ok (.goto 18, 3) := by decide +kernel
theorem dX6_scanRun_95 : decode cX6_scanRun 95 = .ok (.iload_n 3, 1) := by decide +kernel
theorem dX6_scanRun_96 : decode cX6_scanRun 96 = .ok (.bipush 97, 2) := by decide +kernel
theorem dX6_scanRun_98 : decode cX6_scanRun 98 = .ok (.if_icmp .lt 25, 3) := by decide +kernel
theorem dX6_scanRun_101 : decode cX6_scanRun 101 = .ok (.iload_n 3, 1) := by decide +kernel
theorem dX6_scanRun_102 : decode cX6_scanRun 102 = .ok (.bipush 122, 2) := by decide +kernel
theorem dX6_scanRun_104 : decode cX6_scanRun 104 = .ok (.if_icmp .gt 19, 3) := by decide +kernel
theorem dX6_scanRun_107 : decode cX6_scanRun 107 = .ok (.iinc 1 1, 3) := by decide +kernel
theorem dX6_scanRun_110 : decode cX6_scanRun 110 = .ok (.aload_n 0, 1) := by decide +kernel
theorem dX6_scanRun_111 : decode cX6_scanRun 111 = .ok (.dup, 1) := by decide +kernel
theorem dX6_scanRun_112 : decode cX6_scanRun 112 = .ok (.getfield 15, 3) := by decide +kernel
theorem dX6_scanRun_115 : decode cX6_scanRun 115 = .ok (.iconst 1, 1) := by decide +kernel
theorem dX6_scanRun_116 : decode cX6_scanRun 116 = .ok (.iadd, 1) := by decide +kernel
theorem dX6_scanRun_117 : decode cX6_scanRun 117 = .ok (.putfield 15, 3) := by decide +kernel
theorem dX6_scanRun_120 : decode cX6_scanRun 120 = .ok (.goto (-103), 3) := by decide +kernel
theorem dX6_scanRun_123 : decode cX6_scanRun 123 = .ok (.iload_n 1, 1) := by decide +kernel
theorem dX6_scanRun_124 : decode cX6_scanRun 124 = .ok (.ifCond .le 15, 3) := by decide +kernel
theorem dX6_scanRun_127 : decode cX6_scanRun 127 = .ok (.iload_n 2, 1) := by decide +kernel
theorem dX6_scanRun_128 : decode cX6_scanRun 128 = .ok (.ifCond .ne 11, 3) := by decide +kernel
theorem dX6_scanRun_131 : decode cX6_scanRun 131 = .ok (.aload_n 0, 1) := by decide +kernel
theorem dX6_scanRun_132 : decode cX6_scanRun 132 = .ok (.iconst 1, 1) := by decide +kernel
theorem dX6_scanRun_133 : decode cX6_scanRun 133 = .ok (.putfield 39, 3) := by decide +kernel
theorem dX6_scanRun_136 : decode cX6_scanRun 136 = .ok (.goto 30, 3) := by decide +kernel
theorem dX6_scanRun_139 : decode cX6_scanRun 139 = .ok (.iload_n 1, 1) := by decide +kernel
theorem dX6_scanRun_140 : decode cX6_scanRun 140 = .ok (.ifCond .ne 21, 3) := by decide +kernel
theorem dX6_scanRun_143 : decode cX6_scanRun 143 = .ok (.iload_n 2, 1) := by decide +kernel
theorem dX6_scanRun_144 : decode cX6_scanRun 144 = .ok (.iconst 1, 1) := by decide +kernel
theorem dX6_scanRun_145 : decode cX6_scanRun 145 = .ok (.if_icmp .lt 16, 3) := by decide +kernel
theorem dX6_scanRun_148 : decode cX6_scanRun 148 = .ok (.iload_n 2, 1) := by decide +kernel
theorem dX6_scanRun_149 : decode cX6_scanRun 149 = .ok (.iconst 3, 1) := by decide +kernel
theorem dX6_scanRun_150 : decode cX6_scanRun 150 = .ok (.if_icmp .gt 11, 3) := by decide +kernel
theorem dX6_scanRun_153 : decode cX6_scanRun 153 = .ok (.aload_n 0, 1) := by decide +kernel
theorem dX6_scanRun_154 : decode cX6_scanRun 154 = .ok (.iconst 2, 1) := by decide +kernel
theorem dX6_scanRun_155 : decode cX6_scanRun 155 = .ok (.putfield 39, 3) := by decide +kernel
theorem dX6_scanRun_158 : decode cX6_scanRun 158 = .ok (.goto 8, 3) := by decide +kernel
theorem dX6_scanRun_161 : decode cX6_scanRun 161 = .ok (.aload_n 0, 1) := by decide +kernel
theorem dX6_scanRun_162 : decode cX6_scanRun 162 = .ok (.iconst 0, 1) := by decide +kernel
theorem dX6_scanRun_163 : decode cX6_scanRun 163 = .ok (.putfield 39, 3) := by decide +kernel
theorem dX6_scanRun_166 : decode cX6_scanRun 166 = .ok (.return_, 1) := by decide +kernel
theorem dX7_init_0 : decode cX7_init 0 = .ok (.aload_n 0, 1) := by decide +kernel
theorem dX7_init_1 : decode cX7_init 1 = .ok (.invokespecial 1, 3) := by decide +kernel
theorem dX7_init_4 : decode cX7_init 4 = .ok (.aload_n 0, 1) := by decide +kernel
theorem dX7_init_5 : decode cX7_init 5 = .ok (.new 7, 3) := by decide +kernel
theorem dX7_init_8 : decode cX7_init 8 = .ok (.dup, 1) := by decide +kernel
theorem dX7_init_9 : decode cX7_init 9 = .ok (.invokespecial 9, 3) := by decide +kernel
theorem dX7_init_12 : decode cX7_init 12 = .ok (.putfield 10, 3) := by decide +kernel
theorem dX7_init_15 : decode cX7_init 15 = .ok (.aload_n 0, 1) := by decide +kernel
theorem dX7_init_16 : decode cX7_init 16 = .ok (.new 16, 3) := by decide +kernel
theorem dX7_init_19 : decode cX7_init 19 = .ok (.dup, 1) := by decide +kernel
theorem dX7_init_20 : decode cX7_init 20 = .ok (.aload_n 0, 1) := by decide +kernel
theorem dX7_init_21 : decode cX7_init 21 = .ok (.getfield 10, 3) := by decide +kernel
theorem dX7_init_24 : decode cX7_init 24 = .ok (.invokespecial 18, 3) := by decide +kernel
theorem dX7_init_27 : decode cX7_init 27 = .ok (.putfield 21, 3) := by decide +kernel
theorem dX7_init_30 : decode cX7_init 30 = .ok (.aload_n 0, 1) := by decide +kernel
theorem dX7_init_31 : decode cX7_init 31 = .ok (.new 25, 3) := by decide +kernel
theorem dX7_init_34 : decode cX7_init 34 = .ok (.dup, 1) := by decide +kernel
theorem dX7_init_35 : decode cX7_init 35 = .ok (.invokespecial 27, 3) := by decide +kernel
theorem dX7_init_38 : decode cX7_init 38 = .ok (.putfield 28, 3) := by decide +kernel
theorem dX7_init_41 : decode cX7_init 41 = .ok (.aload_n 0, 1) := by decide +kernel
theorem dX7_init_42 : decode cX7_init 42 = .ok (.new 32, 3) := by decide +kernel
theorem dX7_init_45 : decode cX7_init 45 = .ok (.dup, 1) := by decide +kernel
theorem dX7_init_46 : decode cX7_init 46 = .ok (.invokespecial 34, 3) := by decide +kernel
theorem dX7_init_49 : decode cX7_init 49 = .ok (.putfield 35, 3) := by decide +kernel
theorem dX7_init_52 : decode cX7_init 52 = .ok (.aload_n 0, 1) := by decide +kernel
theorem dX7_init_53 : decode cX7_init 53 = .ok (.new 32, 3) := by decide +kernel
theorem dX7_init_56 : decode cX7_init 56 = .ok (.dup, 1) := by decide +kernel
theorem dX7_init_57 : decode cX7_init 57 = .ok (.invokespecial 34, 3) := by decide +kernel
theorem dX7_init_60 : decode cX7_init 60 = .ok (.putfield 39, 3) := by decide +kernel
theorem dX7_init_63 : decode cX7_init 63 = .ok (.aload_n 0, 1) := by decide +kernel
theorem dX7_init_64 : decode cX7_init 64 = .ok (.getfield 35, 3) := by decide +kernel
theorem dX7_init_67 : decode cX7_init 67 = .ok (.invokevirtual 42, 3) := by decide +kernel
theorem dX7_init_70 : decode cX7_init 70 = .ok (.return_, 1) := by decide +kernel
theorem dX7_feed_0 : decode cX7_feed 0 = .ok (.aload_n 0, 1) := by decide +kernel
theorem dX7_feed_1 : decode cX7_feed 1 = .ok (.getfield 10, 3) := by decide +kernel
theorem dX7_feed_4 : decode cX7_feed 4 = .ok (.bipush 20, 2) := by decide +kernel
theorem dX7_feed_6 : decode cX7_feed 6 = .ok (.invokevirtual 45, 3) := by decide +kernel
theorem dX7_feed_9 : decode cX7_feed 9 = .ok (.ifCond .ne 5, 3) := by decide +kernel
theorem dX7_feed_12 : decode cX7_feed 12 = .ok (.iconst (-1), 1) := by decide +kernel
theorem dX7_feed_13 : decode cX7_feed 13 = .ok (.ireturn, 1) := by decide +kernel
theorem dX7_feed_14 : decode cX7_feed 14 = .ok (.aload_n 0, 1) := by decide +kernel
theorem dX7_feed_15 : decode cX7_feed 15 = .ok (.getfield 10, 3) := by decide +kernel
theorem dX7_feed_18 : decode cX7_feed 18 = .ok (.iload_n 1, 1) := by decide +kernel
theorem dX7_feed_19 : decode cX7_feed 19 = .ok (.invokevirtual 49, 3) := by decide +kernel
theorem dX7_feed_22 : decode cX7_feed 22 = .ok (.aload_n 0, 1) := by decide +kernel
theorem dX7_feed_23 : decode cX7_feed 23 = .ok (.getfield 10, 3) := by decide +kernel
theorem dX7_feed_26 : decode cX7_feed 26 = .ok (.iload_n 2, 1) := by decide +kernel
theorem dX7_feed_27 : decode cX7_feed 27 = .ok (.invokevirtual 49, 3) := by decide +kernel
theorem dX7_feed_30 : decode cX7_feed 30 = .ok (.aload_n 0, 1) := by decide +kernel
theorem dX7_feed_31 : decode cX7_feed 31 = .ok (.getfield 10, 3) := by decide +kernel
theorem dX7_feed_34 : decode cX7_feed 34 = .ok (.iload_n 3, 1) := by decide +kernel
theorem dX7_feed_35 : decode cX7_feed 35 = .ok (.invokevirtual 49, 3) := by decide +kernel
theorem dX7_feed_38 : decode cX7_feed 38 = .ok (.aload_n 0, 1) := by decide +kernel
theorem dX7_feed_39 : decode cX7_feed 39 = .ok (.getfield 10, 3) := by decide +kernel
theorem dX7_feed_42 : decode cX7_feed 42 = .ok (.iload 4, 2) := by decide +kernel
theorem dX7_feed_44 : decode cX7_feed 44 = .ok (.invokevirtual 49, 3) := by decide +kernel
theorem dX7_feed_47 : decode cX7_feed 47 = .ok (.aload_n 0, 1) := by decide +kernel
theorem dX7_feed_48 : decode cX7_feed 48 = .ok (.getfield 10, 3) := by decide +kernel
theorem dX7_feed_51 : decode cX7_feed 51 = .ok (.iload 5, 2) := by decide +kernel
theorem dX7_feed_53 : decode cX7_feed 53 = .ok (.invokevirtual 49, 3) := by decide +kernel
theorem dX7_feed_56 : decode cX7_feed 56 = .ok (.aload_n 0, 1) := by decide +kernel
theorem dX7_feed_57 : decode cX7_feed 57 = .ok (.getfield 10, 3) := by decide +kernel
theorem dX7_feed_60 : decode cX7_feed 60 = .ok (.getfield 53, 3) := by decide +kernel
theorem dX7_feed_63 : decode cX7_feed 63 = .ok (.ireturn, 1) := by decide +kernel
theorem dX7_end_0 : decode cX7_end 0 = .ok (.aload_n 0, 1) := by decide +kernel
theorem dX7_end_1 : decode cX7_end 1 = .ok (.getfield 10, 3) := by decide +kernel
theorem dX7_end_4 : decode cX7_end 4 = .ok (.iload_n 1, 1) := by decide +kernel
theorem dX7_end_5 : decode cX7_end 5 = .ok (.invokevirtual 57, 3) := by decide +kernel
theorem dX7_end_8 : decode cX7_end 8 = .ok (.ireturn, 1) := by decide +kernel
theorem dX7_text_0 : decode cX7_text 0 = .ok (.aload_n 0, 1) := by decide +kernel
theorem dX7_text_1 : decode cX7_text 1 = .ok (.getfield 39, 3) := by decide +kernel
theorem dX7_text_4 : decode cX7_text 4 = .ok (.invokevirtual 60, 3) := by decide +kernel
theorem dX7_text_7 : decode cX7_text 7 = .ok (.aload_n 0, 1) := by decide +kernel
theorem dX7_text_8 : decode cX7_text 8 = .ok (.getfield 21, 3) := by decide +kernel
theorem dX7_text_11 : decode cX7_text 11 = .ok (.invokevirtual 63, 3) := by decide +kernel
theorem dX7_text_14 : decode cX7_text 14 = .ok (.aload_n 0, 1) := by decide +kernel
theorem dX7_text_15 : decode cX7_text 15 = .ok (.getfield 21, 3) := by decide +kernel
theorem dX7_text_18 : decode cX7_text 18 = .ok (.aload_n 0, 1) := by decide +kernel
theorem dX7_text_19 : decode cX7_text 19 = .ok (.getfield 39, 3) := by decide +kernel
theorem dX7_text_22 : decode cX7_text 22 = .ok (.invokevirtual 66, 3) := by decide +kernel
theorem dX7_text_25 : decode cX7_text 25 = .ok (.ifCond .eq 63, 3) := by decide +kernel
theorem dX7_text_28 : decode cX7_text 28 = .ok (.aload_n 0, 1) := by decide +kernel
theorem dX7_text_29 : decode cX7_text 29 = .ok (.getfield 21, 3) := by decide +kernel
theorem dX7_text_32 : decode cX7_text 32 = .ok (.aload_n 0, 1) := by decide +kernel
theorem dX7_text_33 : decode cX7_text 33 = .ok (.getfield 39, 3) := by decide +kernel
theorem dX7_text_36 : decode cX7_text 36 = .ok (.invokevirtual 70, 3) := by decide +kernel
theorem dX7_text_39 : decode cX7_text 39 = .ok (.ifCond .eq 49, 3) := by decide +kernel
theorem dX7_text_42 : decode cX7_text 42 = .ok (.aload_n 0, 1) := by decide +kernel
theorem dX7_text_43 : decode cX7_text 43 = .ok (.getfield 21, 3) := by decide +kernel
theorem dX7_text_46 : decode cX7_text 46 = .ok (.aload_n 0, 1) := by decide +kernel
theorem dX7_text_47 : decode cX7_text 47 = .ok (.getfield 39, 3) := by decide +kernel
theorem dX7_text_50 : decode cX7_text 50 = .ok (.invokevirtual 73, 3) := by decide +kernel
theorem dX7_text_53 : decode cX7_text 53 = .ok (.ifCond .eq 35, 3) := by decide +kernel
theorem dX7_text_56 : decode cX7_text 56 = .ok (.aload_n 0, 1) := by decide +kernel
theorem dX7_text_57 : decode cX7_text 57 = .ok (.getfield 21, 3) := by decide +kernel
theorem dX7_text_60 : decode cX7_text 60 = .ok (.aload_n 0, 1) := by decide +kernel
theorem dX7_text_61 : decode cX7_text 61 = .ok (.getfield 39, 3) := by decide +kernel
theorem dX7_text_64 : decode cX7_text 64 = .ok (.invokevirtual 76, 3) := by decide +kernel
theorem dX7_text_67 : decode cX7_text 67 = .ok (.ifCond .eq 21, 3) := by decide +kernel
theorem dX7_text_70 : decode cX7_text 70 = .ok (.aload_n 0, 1) := by decide +kernel
theorem dX7_text_71 : decode cX7_text 71 = .ok (.getfield 21, 3) := by decide +kernel
theorem dX7_text_74 : decode cX7_text 74 = .ok (.aload_n 0, 1) := by decide +kernel
theorem dX7_text_75 : decode cX7_text 75 = .ok (.getfield 39, 3) := by decide +kernel
theorem dX7_text_78 : decode cX7_text 78 = .ok (.invokevirtual 79, 3) := by decide +kernel
theorem dX7_text_81 : decode cX7_text 81 = .ok (.ifCond .eq 7, 3) := by decide +kernel
theorem dX7_text_84 : decode cX7_text 84 = .ok (.iconst 1, 1) := by decide +kernel
theorem dX7_text_85 : decode cX7_text 85 = .ok (.goto 4, 3) := by decide +kernel
theorem dX7_text_88 : decode cX7_text 88 = .ok (.iconst 0, 1) := by decide +kernel
theorem dX7_text_89 : decode cX7_text 89 = .ok (.istore_n 1, 1) := by decide +kernel
theorem dX7_text_90 : decode cX7_text 90 = .ok (.aload_n 0, 1) := by decide +kernel
theorem dX7_text_91 : decode cX7_text 91 = .ok (.getfield 10, 3) := by decide +kernel
theorem dX7_text_94 : decode cX7_text 94 = .ok (.iconst 0, 1) := by decide +kernel
theorem dX7_text_95 : decode cX7_text 95 = .ok (.invokevirtual 57, 3) := by decide +kernel
theorem dX7_text_98 : decode cX7_text 98 = .ok (.pop, 1) := by decide +kernel
theorem dX7_text_99 : decode cX7_text 99 = .ok (.iload_n 1, 1) := by decide +kernel
theorem dX7_text_100 : decode cX7_text 100 = .ok (.ifCond .ne 13, 3) := by decide +kernel
theorem dX7_text_103 : decode cX7_text 103 = .ok (.iconst (-1), 1) := by decide +kernel
theorem dX7_text_104 : decode cX7_text 104 = .ok (.aload_n 0, 1) := by decide +kernel
theorem dX7_text_105 : decode cX7_text 105 = .ok (.getfield 21, 3) := by decide +kernel
theorem dX7_text_108 : decode cX7_text 108 = .ok (.getfield 82, 3) := by decide +kernel
theorem dX7_text_111 : decode cX7_text 111 = .ok (.isub, 1) := by decide +kernel
theorem dX7_text_112 : decode cX7_text 112 = .ok (.ireturn, 1) := by decide +kernel
theorem dX7_text_113 : decode cX7_text 113 = .ok (.aload_n 0, 1) := by decide +kernel
theorem dX7_text_114 : decode cX7_text 114 = .ok (.getfield 39, 3) := by decide +kernel
theorem dX7_text_117 : decode cX7_text 117 = .ok (.astore_n 2, 1) := by decide +kernel
theorem dX7_text_118 : decode cX7_text 118 = .ok (.aload_n 0, 1) := by decide +kernel
theorem dX7_text_119 : decode cX7_text 119 = .ok (.aload_n 0, 1) := by decide +kernel
theorem dX7_text_120 : decode cX7_text 120 = .ok (.getfield 35, 3) := by decide +kernel
theorem dX7_text_123 : decode cX7_text 123 = .ok (.putfield 39, 3) := by decide +kernel
theorem dX7_text_126 : decode cX7_text 126 = .ok (.aload_n 0, 1) := by decide +kernel
theorem dX7_text_127 : decode cX7_text 127 = .ok (.aload_n 2, 1) := by decide +kernel
theorem dX7_text_128 : decode cX7_text 128 = .ok (.putfield 35, 3) := by decide +kernel
theorem dX7_text_131 : decode cX7_text 131 = .ok (.aload_n 0, 1) := by decide +kernel
theorem dX7_text_132 : decode cX7_text 132 = .ok (.getfield 28, 3) := by decide +kernel
theorem dX7_text_135 : decode cX7_text 135 = .ok (.invokevirtual 85, 3) := by decide +kernel
theorem dX7_text_138 : decode cX7_text 138 = .ok (.aload_n 0, 1) := by decide +kernel
theorem dX7_text_139 : decode cX7_text 139 = .ok (.getfield 21, 3) := by decide +kernel
theorem dX7_text_142 : decode cX7_text 142 = .ok (.getfield 88, 3) := by decide +kernel
theorem dX7_text_145 : decode cX7_text 145 = .ok (.ireturn, 1) := by decide +kernel
theorem dX7_fault_0 : decode cX7_fault 0 = .ok (.aload_n 0, 1) := by decide +kernel
theorem dX7_fault_1 : decode cX7_fault 1 = .ok (.getfield 21, 3) := by decide +kernel
theorem dX7_fault_4 : decode cX7_fault 4 = .ok (.getfield 91, 3) := by decide +kernel
theorem dX7_fault_7 : decode cX7_fault 7 = .ok (.ireturn, 1) := by decide +kernel
theorem dX7_now_0 : decode cX7_now 0 = .ok (.iload_n 1, 1) := by decide +kernel
theorem dX7_now_1 : decode cX7_now 1 = .ok (.tableswitch 99 0 6 #[43, 51, 59, 67, 75, 83, 91], 43) := by decide +kernel
theorem dX7_now_44 : decode cX7_now 44 = .ok (.aload_n 0, 1) := by decide +kernel
theorem dX7_now_45 : decode cX7_now 45 = .ok (.getfield 35, 3) := by decide +kernel
theorem dX7_now_48 : decode cX7_now 48 = .ok (.getfield 94, 3) := by decide +kernel
theorem dX7_now_51 : decode cX7_now 51 = .ok (.ireturn, 1) := by decide +kernel
theorem dX7_now_52 : decode cX7_now 52 = .ok (.aload_n 0, 1) := by decide +kernel
theorem dX7_now_53 : decode cX7_now 53 = .ok (.getfield 35, 3) := by decide +kernel
theorem dX7_now_56 : decode cX7_now 56 = .ok (.getfield 97, 3) := by decide +kernel
theorem dX7_now_59 : decode cX7_now 59 = .ok (.ireturn, 1) := by decide +kernel
theorem dX7_now_60 : decode cX7_now 60 = .ok (.aload_n 0, 1) := by decide +kernel
theorem dX7_now_61 : decode cX7_now 61 = .ok (.getfield 35, 3) := by decide +kernel
theorem dX7_now_64 : decode cX7_now 64 = .ok (.getfield 100, 3) := by decide +kernel
theorem dX7_now_67 : decode cX7_now 67 = .ok (.ireturn, 1) := by decide +kernel
theorem dX7_now_68 : decode cX7_now 68 = .ok (.aload_n 0, 1) := by decide +kernel
theorem dX7_now_69 : decode cX7_now 69 = .ok (.getfield 35, 3) := by decide +kernel
theorem dX7_now_72 : decode cX7_now 72 = .ok (.invokevirtual 103, 3) := by decide +kernel
theorem dX7_now_75 : decode cX7_now 75 = .ok (.ireturn, 1) := by decide +kernel
theorem dX7_now_76 : decode cX7_now 76 = .ok (.aload_n 0, 1) := by decide +kernel
theorem dX7_now_77 : decode cX7_now 77 = .ok (.getfield 35, 3) := by decide +kernel
theorem dX7_now_80 : decode cX7_now 80 = .ok (.getfield 107, 3) := by decide +kernel
theorem dX7_now_83 : decode cX7_now 83 = .ok (.ireturn, 1) := by decide +kernel
theorem dX7_now_84 : decode cX7_now 84 = .ok (.aload_n 0, 1) := by decide +kernel
theorem dX7_now_85 : decode cX7_now 85 = .ok (.getfield 28, 3) := by decide +kernel
theorem dX7_now_88 : decode cX7_now 88 = .ok (.getfield 110, 3) := by decide +kernel
theorem dX7_now_91 : decode cX7_now 91 = .ok (.ireturn, 1) := by decide +kernel
theorem dX7_now_92 : decode cX7_now 92 = .ok (.aload_n 0, 1) := by decide +kernel
theorem dX7_now_93 : decode cX7_now 93 = .ok (.getfield 10, 3) := by decide +kernel
theorem dX7_now_96 : decode cX7_now 96 = .ok (.getfield 53, 3) := by decide +kernel
theorem dX7_now_99 : decode cX7_now 99 = .ok (.ireturn, 1) := by decide +kernel
theorem dX7_now_100 : decode cX7_now 100 = .ok (.iconst (-1), 1) := by decide +kernel
theorem dX7_now_101 : decode cX7_now 101 = .ok (.ireturn, 1) := by decide +kernel
theorem dX7_read_0 : decode cX7_read 0 = .ok (.aload_n 0, 1) := by decide +kernel
theorem dX7_read_1 : decode cX7_read 1 = .ok (.getfield 35, 3) := by decide +kernel
theorem dX7_read_4 : decode cX7_read 4 = .ok (.iload_n 1, 1) := by decide +kernel
theorem dX7_read_5 : decode cX7_read 5 = .ok (.iload_n 2, 1) := by decide +kernel
theorem dX7_read_6 : decode cX7_read 6 = .ok (.iload_n 3, 1) := by decide +kernel
theorem dX7_read_7 : decode cX7_read 7 = .ok (.invokevirtual 113, 3) := by decide +kernel
theorem dX7_read_10 : decode cX7_read 10 = .ok (.ireturn, 1) := by decide +kernel
theorem dX7_mean_0 : decode cX7_mean 0 = .ok (.aload_n 0, 1) := by decide +kernel
theorem dX7_mean_1 : decode cX7_mean 1 = .ok (.getfield 35, 3) := by decide +kernel
theorem dX7_mean_4 : decode cX7_mean 4 = .ok (.iload_n 1, 1) := by decide +kernel
theorem dX7_mean_5 : decode cX7_mean 5 = .ok (.iload_n 2, 1) := by decide +kernel
theorem dX7_mean_6 : decode cX7_mean 6 = .ok (.iload_n 3, 1) := by decide +kernel
theorem dX7_mean_7 : decode cX7_mean 7 = .ok (.invokevirtual 117, 3) := by decide +kernel
theorem dX7_mean_10 : decode cX7_mean 10 = .ok (.ireturn, 1) := by decide +kernel
theorem dX7_scale_0 : decode cX7_scale 0 = .ok (.aload_n 0, 1) := by decide +kernel
theorem dX7_scale_1 : decode cX7_scale 1 = .ok (.getfield 35, 3) := by decide +kernel
theorem dX7_scale_4 : decode cX7_scale 4 = .ok (.iload_n 1, 1) := by decide +kernel
theorem dX7_scale_5 : decode cX7_scale 5 = .ok (.invokevirtual 120, 3) := by decide +kernel
theorem dX7_scale_8 : decode cX7_scale 8 = .ok (.astore_n 3, 1) := by decide +kernel
theorem dX7_scale_9 : decode cX7_scale 9 = .ok (.aload_n 3, 1) := by decide +kernel
theorem dX7_scale_10 : decode cX7_scale 10 = .ok (.ifnull 14, 3) := by decide +kernel
theorem dX7_scale_13 : decode cX7_scale 13 = .ok (.iload_n 2, 1) := by decide +kernel
theorem dX7_scale_14 : decode cX7_scale 14 = .ok (.ifCond .lt 10, 3) := by decide +kernel
theorem dX7_scale_17 : decode cX7_scale 17 = .ok (.iload_n 2, 1) := by decide +kernel
theorem dX7_scale_18 : decode cX7_scale 18 = .ok (.sipush 999, 3) := by decide +kernel
theorem dX7_scale_21 : decode cX7_scale 21 = .ok (.if_icmp .le 5, 3) := by decide +kernel
theorem dX7_scale_24 : decode cX7_scale 24 = .ok (.iconst (-1), 1) := by decide +kernel
theorem dX7_scale_25 : decode cX7_scale 25 = .ok (.ireturn, 1) := by decide +kernel
theorem dX7_scale_26 : decode cX7_scale 26 = .ok (.aload_n 3, 1) := by decide +kernel
theorem dX7_scale_27 : decode cX7_scale 27 = .ok (.iload_n 2, 1) := by decide +kernel
theorem dX7_scale_28 : decode cX7_scale 28 = .ok (.invokevirtual 124, 3) := by decide +kernel
theorem dX7_scale_31 : decode cX7_scale 31 = .ok (.ireturn, 1) := by decide +kernel
theorem dX7_back_0 : decode cX7_back 0 = .ok (.aload_n 0, 1) := by decide +kernel
theorem dX7_back_1 : decode cX7_back 1 = .ok (.getfield 35, 3) := by decide +kernel
theorem dX7_back_4 : decode cX7_back 4 = .ok (.iload_n 1, 1) := by decide +kernel
theorem dX7_back_5 : decode cX7_back 5 = .ok (.invokevirtual 120, 3) := by decide +kernel
theorem dX7_back_8 : decode cX7_back 8 = .ok (.astore_n 3, 1) := by decide +kernel
theorem dX7_back_9 : decode cX7_back 9 = .ok (.aload_n 3, 1) := by decide +kernel
theorem dX7_back_10 : decode cX7_back 10 = .ok (.ifnull 14, 3) := by decide +kernel
theorem dX7_back_13 : decode cX7_back 13 = .ok (.iload_n 2, 1) := by decide +kernel
theorem dX7_back_14 : decode cX7_back 14 = .ok (.ifCond .lt 10, 3) := by decide +kernel
theorem dX7_back_17 : decode cX7_back 17 = .ok (.iload_n 2, 1) := by decide +kernel
theorem dX7_back_18 : decode cX7_back 18 = .ok (.sipush 500, 3) := by decide +kernel
theorem dX7_back_21 : decode cX7_back 21 = .ok (.if_icmp .le 5, 3) := by decide +kernel
theorem dX7_back_24 : decode cX7_back 24 = .ok (.iconst (-1), 1) := by decide +kernel
theorem dX7_back_25 : decode cX7_back 25 = .ok (.ireturn, 1) := by decide +kernel
theorem dX7_back_26 : decode cX7_back 26 = .ok (.iconst (-1), 1) := by decide +kernel
theorem dX7_back_27 : decode cX7_back 27 = .ok (.istore 4, 2) := by decide +kernel
theorem dX7_back_29 : decode cX7_back 29 = .ok (.sipush 512, 3) := by decide +kernel
theorem dX7_back_32 : decode cX7_back 32 = .ok (.istore 5, 2) := by decide +kernel
theorem dX7_back_34 : decode cX7_back 34 = .ok (.iload 5, 2) := by decide +kernel
theorem dX7_back_36 : decode cX7_back 36 = .ok (.ifCond .le 41, 3) := by decide +kernel
theorem dX7_back_39 : decode cX7_back 39 = .ok (.iload 4, 2) := by decide +kernel
theorem dX7_back_41 : decode cX7_back 41 = .ok (.iload 5, 2) := by decide +kernel
theorem dX7_back_43 : decode cX7_back 43 = .ok (.iadd, 1) := by decide +kernel
theorem dX7_back_44 : decode cX7_back 44 = .ok (.istore 6, 2) := by decide +kernel
theorem dX7_back_46 : decode cX7_back 46 = .ok (.iload 6, 2) := by decide +kernel
theorem dX7_back_48 : decode cX7_back 48 = .ok (.sipush 999, 3) := by decide +kernel
theorem dX7_back_51 : decode cX7_back 51 = .ok (.if_icmp .gt 17, 3) := by decide +kernel
theorem dX7_back_54 : decode cX7_back 54 = .ok (.aload_n 3, 1) := by decide +kernel
theorem dX7_back_55 : decode cX7_back 55 = .ok (.iload 6, 2) := by decide +kernel
theorem dX7_back_57 : decode cX7_back 57 = .ok (.invokevirtual 124, 3) := by decide +kernel
theorem dX7_back_60 : decode cX7_back 60 = .ok (.iload_n 2, 1) := by decide +kernel
theorem dX7_back_61 : decode cX7_back 61 = .ok (.if_icmp .ge 7, 3) := by decide +kernel
theorem dX7_back_64 : decode cX7_back 64 = .ok (.iload 6, 2) := by decide +kernel
theorem dX7_back_66 : decode cX7_back 66 = .ok (.istore 4, 2) := by decide +kernel
theorem dX7_back_68 : decode cX7_back 68 = .ok (.iload 5, 2) := by decide +kernel
theorem dX7_back_70 : decode cX7_back 70 = .ok (.iconst 2, 1) := by decide +kernel
theorem dX7_back_71 : decode cX7_back 71 = .ok (.idiv, 1) := by decide +kernel
theorem dX7_back_72 : decode cX7_back 72 = .ok (.istore 5, 2) := by decide +kernel
theorem dX7_back_74 : decode cX7_back 74 = .ok (.goto (-40), 3) := by decide +kernel
theorem dX7_back_77 : decode cX7_back 77 = .ok (.iload 4, 2) := by decide +kernel
theorem dX7_back_79 : decode cX7_back 79 = .ok (.sipush 999, 3) := by decide +kernel
theorem dX7_back_82 : decode cX7_back 82 = .ok (.if_icmp .ne 8, 3) := by decide +kernel
theorem dX7_back_85 : decode cX7_back 85 = .ok (.bipush (-2), 2) := by decide +kernel
theorem dX7_back_87 : decode cX7_back 87 = .ok (.goto 7, 3) := by decide +kernel
theorem dX7_back_90 : decode cX7_back 90 = .ok (.iload 4, 2) := by decide +kernel
theorem dX7_back_92 : decode cX7_back 92 = .ok (.iconst 1, 1) := by decide +kernel
theorem dX7_back_93 : decode cX7_back 93 = .ok (.iadd, 1) := by decide +kernel
theorem dX7_back_94 : decode cX7_back 94 = .ok (.ireturn, 1) := by decide +kernel
theorem dX7_sub_0 : decode cX7_sub 0 = .ok (.aload_n 0, 1) := by decide +kernel
theorem dX7_sub_1 : decode cX7_sub 1 = .ok (.getfield 35, 3) := by decide +kernel
theorem dX7_sub_4 : decode cX7_sub 4 = .ok (.iload_n 1, 1) := by decide +kernel
theorem dX7_sub_5 : decode cX7_sub 5 = .ok (.iload_n 2, 1) := by decide +kernel
theorem dX7_sub_6 : decode cX7_sub 6 = .ok (.iload_n 3, 1) := by decide +kernel
theorem dX7_sub_7 : decode cX7_sub 7 = .ok (.invokevirtual 130, 3) := by decide +kernel
theorem dX7_sub_10 : decode cX7_sub 10 = .ok (.ireturn, 1) := by decide +kernel
theorem dX7_index_0 : decode cX7_index 0 = .ok (.iload_n 3, 1) := by decide +kernel
theorem dX7_index_1 : decode cX7_index 1 = .ok (.tableswitch 64 0 2 #[27, 37, 47], 27) := by decide +kernel
theorem dX7_index_28 : decode cX7_index 28 = .ok (.aload_n 0, 1) := by decide +kernel
theorem dX7_index_29 : decode cX7_index 29 = .ok (.getfield 35, 3) := by decide +kernel
theorem dX7_index_32 : decode cX7_index 32 = .ok (.iload_n 1, 1) := by decide +kernel
theorem dX7_index_33 : decode cX7_index 33 = .ok (.iload_n 2, 1) := by decide +kernel
theorem dX7_index_34 : decode cX7_index 34 = .ok (.invokevirtual 133, 3) := by decide +kernel
theorem dX7_index_37 : decode cX7_index 37 = .ok (.ireturn, 1) := by decide +kernel
theorem dX7_index_38 : decode cX7_index 38 = .ok (.aload_n 0, 1) := by decide +kernel
theorem dX7_index_39 : decode cX7_index 39 = .ok (.getfield 35, 3) := by decide +kernel
theorem dX7_index_42 : decode cX7_index 42 = .ok (.iload_n 1, 1) := by decide +kernel
theorem dX7_index_43 : decode cX7_index 43 = .ok (.iload_n 2, 1) := by decide +kernel
theorem dX7_index_44 : decode cX7_index 44 = .ok (.invokevirtual 137, 3) := by decide +kernel
theorem dX7_index_47 : decode cX7_index 47 = .ok (.ireturn, 1) := by decide +kernel
theorem dX7_index_48 : decode cX7_index 48 = .ok (.aload_n 0, 1) := by decide +kernel
theorem dX7_index_49 : decode cX7_index 49 = .ok (.getfield 35, 3) := by decide +kernel
theorem dX7_index_52 : decode cX7_index 52 = .ok (.aload_n 0, 1) := by decide +kernel
theorem dX7_index_53 : decode cX7_index 53 = .ok (.getfield 35, 3) := by decide +kernel
theorem dX7_index_56 : decode cX7_index 56 = .ok (.iload_n 1, 1) := by decide +kernel
theorem dX7_index_57 : decode cX7_index 57 = .ok (.iload_n 2, 1) := by decide +kernel
theorem dX7_index_58 : decode cX7_index 58 = .ok (.invokevirtual 133, 3) := by decide +kernel
theorem dX7_index_61 : decode cX7_index 61 = .ok (.invokevirtual 140, 3) := by decide +kernel
theorem dX7_index_64 : decode cX7_index 64 = .ok (.ireturn, 1) := by decide +kernel
theorem dX7_index_65 : decode cX7_index 65 = .ok (.iconst (-1), 1) := by decide +kernel
theorem dX7_index_66 : decode cX7_index 66 = .ok (.ireturn, 1) := by decide +kernel
theorem dX7_district_0 : decode cX7_district 0 = .ok (.iload_n 1, 1) := by decide +kernel
theorem dX7_district_1 : decode cX7_district 1 = .ok (.ifCond .lt 19, 3) := by decide +kernel
theorem dX7_district_4 : decode cX7_district 4 = .ok (.iload_n 1, 1) := by decide +kernel
theorem dX7_district_5 : decode cX7_district 5 = .ok (.iconst 3, 1) := by decide +kernel
theorem dX7_district_6 : decode cX7_district 6 = .ok (.if_icmp .ge 14, 3) := by decide +kernel
theorem dX7_district_9 : decode cX7_district 9 = .ok (.aload_n 0, 1) := by decide +kernel
theorem dX7_district_10 : decode cX7_district 10 = .ok (.getfield 35, 3) := by decide +kernel
theorem dX7_district_13 : decode cX7_district 13 = .ok (.iload_n 2, 1) := by decide +kernel
theorem dX7_district_14 : decode cX7_district 14 = .ok (.invokevirtual 143, 3) := by decide +kernel
theorem dX7_district_17 : decode cX7_district 17 = .ok (.ifCond .ne 5, 3) := by decide +kernel
theorem dX7_district_20 : decode cX7_district 20 = .ok (.iconst (-1), 1) := by decide +kernel
theorem dX7_district_21 : decode cX7_district 21 = .ok (.ireturn, 1) := by decide +kernel
theorem dX7_district_22 : decode cX7_district 22 = .ok (.aload_n 0, 1) := by decide +kernel
theorem dX7_district_23 : decode cX7_district 23 = .ok (.getfield 35, 3) := by decide +kernel
theorem dX7_district_26 : decode cX7_district 26 = .ok (.iload_n 1, 1) := by decide +kernel
theorem dX7_district_27 : decode cX7_district 27 = .ok (.iload_n 2, 1) := by decide +kernel
theorem dX7_district_28 : decode cX7_district 28 = .ok (.invokevirtual 146, 3) := by decide +kernel
theorem dX7_district_31 : decode cX7_district 31 = .ok (.istore 4, 2) := by decide +kernel
theorem dX7_district_33 : decode cX7_district 33 = .ok (.iload_n 3, 1) := by decide +kernel
theorem dX7_district_34 : decode cX7_district 34 = .ok (.tableswitch 72 0 3 #[30, 41, 44, 62], 30) := by decide +kernel
theorem dX7_district_64 : decode cX7_district 64 = .ok (.aload_n 0, 1) := by decide +kernel
theorem dX7_district_65 : decode cX7_district 65 = .ok (.getfield 35, 3) := by decide +kernel
theorem dX7_district_68 : decode cX7_district 68 = .ok (.iload 4, 2) := by decide +kernel
theorem dX7_district_70 : decode cX7_district 70 = .ok (.iload_n 2, 1) := by decide +kernel
theorem dX7_district_71 : decode cX7_district 71 = .ok (.invokevirtual 133, 3) := by decide +kernel
theorem dX7_district_74 : decode cX7_district 74 = .ok (.ireturn, 1) := by decide +kernel
theorem dX7_district_75 : decode cX7_district 75 = .ok (.iload 4, 2) := by decide +kernel
theorem dX7_district_77 : decode cX7_district 77 = .ok (.ireturn, 1) := by decide +kernel
theorem dX7_district_78 : decode cX7_district 78 = .ok (.aload_n 0, 1) := by decide +kernel
theorem dX7_district_79 : decode cX7_district 79 = .ok (.getfield 35, 3) := by decide +kernel
theorem dX7_district_82 : decode cX7_district 82 = .ok (.aload_n 0, 1) := by decide +kernel
theorem dX7_district_83 : decode cX7_district 83 = .ok (.getfield 35, 3) := by decide +kernel
theorem dX7_district_86 : decode cX7_district 86 = .ok (.iload 4, 2) := by decide +kernel
theorem dX7_district_88 : decode cX7_district 88 = .ok (.iload_n 2, 1) := by decide +kernel
theorem dX7_district_89 : decode cX7_district 89 = .ok (.invokevirtual 133, 3) := by decide +kernel
theorem dX7_district_92 : decode cX7_district 92 = .ok (.invokevirtual 140, 3) := by decide +kernel
theorem dX7_district_95 : decode cX7_district 95 = .ok (.ireturn, 1) := by decide +kernel
theorem dX7_district_96 : decode cX7_district 96 = .ok (.aload_n 0, 1) := by decide +kernel
theorem dX7_district_97 : decode cX7_district 97 = .ok (.getfield 35, 3) := by decide +kernel
theorem dX7_district_100 : decode cX7_district 100 = .ok (.iload_n 1, 1) := by decide +kernel
theorem dX7_district_101 : decode cX7_district 101 = .ok (.iload_n 2, 1) := by decide +kernel
theorem dX7_district_102 : decode cX7_district 102 = .ok (.invokevirtual 149, 3) := by decide +kernel
theorem dX7_district_105 : decode cX7_district 105 = .ok (.ireturn, 1) := by decide +kernel
theorem dX7_district_106 : decode cX7_district 106 = .ok (.iconst (-1), 1) := by decide +kernel
theorem dX7_district_107 : decode cX7_district 107 = .ok (.ireturn, 1) := by decide +kernel
theorem dX7_lasts_0 : decode cX7_lasts 0 = .ok (.aload_n 0, 1) := by decide +kernel
theorem dX7_lasts_1 : decode cX7_lasts 1 = .ok (.getfield 35, 3) := by decide +kernel
theorem dX7_lasts_4 : decode cX7_lasts 4 = .ok (.iload_n 1, 1) := by decide +kernel
theorem dX7_lasts_5 : decode cX7_lasts 5 = .ok (.invokevirtual 152, 3) := by decide +kernel
theorem dX7_lasts_8 : decode cX7_lasts 8 = .ok (.ifCond .eq 24, 3) := by decide +kernel
theorem dX7_lasts_11 : decode cX7_lasts 11 = .ok (.aload_n 0, 1) := by decide +kernel
theorem dX7_lasts_12 : decode cX7_lasts 12 = .ok (.getfield 35, 3) := by decide +kernel
theorem dX7_lasts_15 : decode cX7_lasts 15 = .ok (.iload_n 2, 1) := by decide +kernel
theorem dX7_lasts_16 : decode cX7_lasts 16 = .ok (.invokevirtual 143, 3) := by decide +kernel
theorem dX7_lasts_19 : decode cX7_lasts 19 = .ok (.ifCond .eq 13, 3) := by decide +kernel
theorem dX7_lasts_22 : decode cX7_lasts 22 = .ok (.iload_n 3, 1) := by decide +kernel
theorem dX7_lasts_23 : decode cX7_lasts 23 = .ok (.iconst 1, 1) := by decide +kernel
theorem dX7_lasts_24 : decode cX7_lasts 24 = .ok (.if_icmp .lt 8, 3) := by decide +kernel
theorem dX7_lasts_27 : decode cX7_lasts 27 = .ok (.iload_n 3, 1) := by decide +kernel
theorem dX7_lasts_28 : decode cX7_lasts 28 = .ok (.iconst 3, 1) := by decide +kernel
theorem dX7_lasts_29 : decode cX7_lasts 29 = .ok (.if_icmp .le 5, 3) := by decide +kernel
theorem dX7_lasts_32 : decode cX7_lasts 32 = .ok (.iconst (-1), 1) := by decide +kernel
theorem dX7_lasts_33 : decode cX7_lasts 33 = .ok (.ireturn, 1) := by decide +kernel
theorem dX7_lasts_34 : decode cX7_lasts 34 = .ok (.iconst 0, 1) := by decide +kernel
theorem dX7_lasts_35 : decode cX7_lasts 35 = .ok (.istore 4, 2) := by decide +kernel
theorem dX7_lasts_37 : decode cX7_lasts 37 = .ok (.iload_n 2, 1) := by decide +kernel
theorem dX7_lasts_38 : decode cX7_lasts 38 = .ok (.istore 5, 2) := by decide +kernel
theorem dX7_lasts_40 : decode cX7_lasts 40 = .ok (.iload 5, 2) := by decide +kernel
theorem dX7_lasts_42 : decode cX7_lasts 42 = .ok (.ifCond .lt 36, 3) := by decide +kernel
theorem dX7_lasts_45 : decode cX7_lasts 45 = .ok (.aload_n 0, 1) := by decide +kernel
theorem dX7_lasts_46 : decode cX7_lasts 46 = .ok (.getfield 35, 3) := by decide +kernel
theorem dX7_lasts_49 : decode cX7_lasts 49 = .ok (.aload_n 0, 1) := by decide +kernel
theorem dX7_lasts_50 : decode cX7_lasts 50 = .ok (.getfield 35, 3) := by decide +kernel
theorem dX7_lasts_53 : decode cX7_lasts 53 = .ok (.iload_n 1, 1) := by decide +kernel
theorem dX7_lasts_54 : decode cX7_lasts 54 = .ok (.iload 5, 2) := by decide +kernel
theorem dX7_lasts_56 : decode cX7_lasts 56 = .ok (.invokevirtual 133, 3) := by decide +kernel
theorem dX7_lasts_59 : decode cX7_lasts 59 = .ok (.invokevirtual 140, 3) := by decide +kernel
theorem dX7_lasts_62 : decode cX7_lasts 62 = .ok (.iload_n 3, 1) := by decide +kernel
theorem dX7_lasts_63 : decode cX7_lasts 63 = .ok (.if_icmp .ge 6, 3) := by decide +kernel
theorem dX7_lasts_66 : decode cX7_lasts 66 = .ok (.goto 12, 3) := by decide +kernel
theorem dX7_lasts_69 : decode cX7_lasts 69 = .ok (.iinc 4 1, 3) := by decide +kernel
theorem dX7_lasts_72 : decode cX7_lasts 72 = .ok (.iinc 5 (-1), 3) := by decide +kernel
theorem dX7_lasts_75 : decode cX7_lasts 75 = .ok (.goto (-35), 3) := by decide +kernel
theorem dX7_lasts_78 : decode cX7_lasts 78 = .ok (.iload 4, 2) := by decide +kernel
theorem dX7_lasts_80 : decode cX7_lasts 80 = .ok (.ireturn, 1) := by decide +kernel
theorem dX7_worst_0 : decode cX7_worst 0 = .ok (.aload_n 0, 1) := by decide +kernel
theorem dX7_worst_1 : decode cX7_worst 1 = .ok (.getfield 35, 3) := by decide +kernel
theorem dX7_worst_4 : decode cX7_worst 4 = .ok (.iload_n 1, 1) := by decide +kernel
theorem dX7_worst_5 : decode cX7_worst 5 = .ok (.invokevirtual 152, 3) := by decide +kernel
theorem dX7_worst_8 : decode cX7_worst 8 = .ok (.ifCond .eq 25, 3) := by decide +kernel
theorem dX7_worst_11 : decode cX7_worst 11 = .ok (.aload_n 0, 1) := by decide +kernel
theorem dX7_worst_12 : decode cX7_worst 12 = .ok (.getfield 35, 3) := by decide +kernel
theorem dX7_worst_15 : decode cX7_worst 15 = .ok (.iload_n 2, 1) := by decide +kernel
theorem dX7_worst_16 : decode cX7_worst 16 = .ok (.invokevirtual 143, 3) := by decide +kernel
theorem dX7_worst_19 : decode cX7_worst 19 = .ok (.ifCond .eq 14, 3) := by decide +kernel
theorem dX7_worst_22 : decode cX7_worst 22 = .ok (.aload_n 0, 1) := by decide +kernel
theorem dX7_worst_23 : decode cX7_worst 23 = .ok (.getfield 35, 3) := by decide +kernel
theorem dX7_worst_26 : decode cX7_worst 26 = .ok (.iload_n 3, 1) := by decide +kernel
theorem dX7_worst_27 : decode cX7_worst 27 = .ok (.invokevirtual 143, 3) := by decide +kernel
theorem dX7_worst_30 : decode cX7_worst 30 = .ok (.ifCond .ne 5, 3) := by decide +kernel
theorem dX7_worst_33 : decode cX7_worst 33 = .ok (.iconst (-1), 1) := by decide +kernel
theorem dX7_worst_34 : decode cX7_worst 34 = .ok (.ireturn, 1) := by decide +kernel
theorem dX7_worst_35 : decode cX7_worst 35 = .ok (.iconst (-1), 1) := by decide +kernel
theorem dX7_worst_36 : decode cX7_worst 36 = .ok (.istore 4, 2) := by decide +kernel
theorem dX7_worst_38 : decode cX7_worst 38 = .ok (.iconst (-1), 1) := by decide +kernel
theorem dX7_worst_39 : decode cX7_worst 39 = .ok (.istore 5, 2) := by decide +kernel
theorem dX7_worst_41 : decode cX7_worst 41 = .ok (.iload_n 2, 1) := by decide +kernel
theorem dX7_worst_42 : decode cX7_worst 42 = .ok (.istore 6, 2) := by decide +kernel
theorem dX7_worst_44 : decode cX7_worst 44 = .ok (.iload 6, 2) := by decide +kernel
theorem dX7_worst_46 : decode cX7_worst 46 = .ok (.iload_n 3, 1) := by decide +kernel
theorem dX7_worst_47 : decode cX7_worst 47 = .ok (.if_icmp .gt 36, 3) := by decide +kernel
theorem dX7_worst_50 : decode cX7_worst 50 = .ok (.aload_n 0, 1) := by decide +kernel
theorem dX7_worst_51 : decode cX7_worst 51 = .ok (.getfield 35, 3) := by decide +kernel
theorem dX7_worst_54 : decode cX7_worst 54 = .ok (.iload_n 1, 1) := by decide +kernel
theorem dX7_worst_55 : decode cX7_worst 55 = .ok (.iload 6, 2) := by decide +kernel
theorem dX7_worst_57 : decode cX7_worst 57 = .ok (.invokevirtual 133, 3) := by decide +kernel
theorem dX7_worst_60 : decode cX7_worst 60 = .ok (.istore 7, 2) := by decide +kernel
theorem dX7_worst_62 : decode cX7_worst 62 = .ok (.iload 7, 2) := by decide +kernel
theorem dX7_worst_64 : decode cX7_worst 64 = .ok (.iload 4, 2) := by decide +kernel
theorem dX7_worst_66 : decode cX7_worst 66 = .ok (.if_icmp .le 11, 3) := by decide +kernel
theorem dX7_worst_69 : decode cX7_worst 69 = .ok (.iload 7, 2) := by decide +kernel
theorem dX7_worst_71 : decode cX7_worst 71 = .ok (.istore 4, 2) := by decide +kernel
theorem dX7_worst_73 : decode cX7_worst 73 = .ok (.iload 6, 2) := by decide +kernel
theorem dX7_worst_75 : decode cX7_worst 75 = .ok (.istore 5, 2) := by decide +kernel
theorem dX7_worst_77 : decode cX7_worst 77 = .ok (.iinc 6 1, 3) := by decide +kernel
theorem dX7_worst_80 : decode cX7_worst 80 = .ok (.goto (-36), 3) := by decide +kernel
theorem dX7_worst_83 : decode cX7_worst 83 = .ok (.iload 5, 2) := by decide +kernel
theorem dX7_worst_85 : decode cX7_worst 85 = .ok (.ireturn, 1) := by decide +kernel
theorem dX7_forecast_0 : decode cX7_forecast 0 = .ok (.aload_n 0, 1) := by decide +kernel
theorem dX7_forecast_1 : decode cX7_forecast 1 = .ok (.getfield 35, 3) := by decide +kernel
theorem dX7_forecast_4 : decode cX7_forecast 4 = .ok (.iload_n 1, 1) := by decide +kernel
theorem dX7_forecast_5 : decode cX7_forecast 5 = .ok (.iload_n 2, 1) := by decide +kernel
theorem dX7_forecast_6 : decode cX7_forecast 6 = .ok (.iload_n 3, 1) := by decide +kernel
theorem dX7_forecast_7 : decode cX7_forecast 7 = .ok (.invokevirtual 155, 3) := by decide +kernel
theorem dX7_forecast_10 : decode cX7_forecast 10 = .ok (.ireturn, 1) := by decide +kernel
theorem dX7_keeps_0 : decode cX7_keeps 0 = .ok (.aload_n 0, 1) := by decide +kernel
theorem dX7_keeps_1 : decode cX7_keeps 1 = .ok (.getfield 35, 3) := by decide +kernel
theorem dX7_keeps_4 : decode cX7_keeps 4 = .ok (.getfield 94, 3) := by decide +kernel
theorem dX7_keeps_7 : decode cX7_keeps 7 = .ok (.iconst 1, 1) := by decide +kernel
theorem dX7_keeps_8 : decode cX7_keeps 8 = .ok (.isub, 1) := by decide +kernel
theorem dX7_keeps_9 : decode cX7_keeps 9 = .ok (.istore 4, 2) := by decide +kernel
theorem dX7_keeps_11 : decode cX7_keeps 11 = .ok (.aload_n 0, 1) := by decide +kernel
theorem dX7_keeps_12 : decode cX7_keeps 12 = .ok (.getfield 35, 3) := by decide +kernel
theorem dX7_keeps_15 : decode cX7_keeps 15 = .ok (.iload_n 1, 1) := by decide +kernel
theorem dX7_keeps_16 : decode cX7_keeps 16 = .ok (.iload_n 2, 1) := by decide +kernel
theorem dX7_keeps_17 : decode cX7_keeps 17 = .ok (.iload 4, 2) := by decide +kernel
theorem dX7_keeps_19 : decode cX7_keeps 19 = .ok (.invokevirtual 158, 3) := by decide +kernel
theorem dX7_keeps_22 : decode cX7_keeps 22 = .ok (.ifCond .eq 12, 3) := by decide +kernel
theorem dX7_keeps_25 : decode cX7_keeps 25 = .ok (.iload_n 3, 1) := by decide +kernel
theorem dX7_keeps_26 : decode cX7_keeps 26 = .ok (.ifCond .lt 8, 3) := by decide +kernel
theorem dX7_keeps_29 : decode cX7_keeps 29 = .ok (.iload_n 3, 1) := by decide +kernel
theorem dX7_keeps_30 : decode cX7_keeps 30 = .ok (.iconst 3, 1) := by decide +kernel
theorem dX7_keeps_31 : decode cX7_keeps 31 = .ok (.if_icmp .lt 5, 3) := by decide +kernel
theorem dX7_keeps_34 : decode cX7_keeps 34 = .ok (.iconst (-1), 1) := by decide +kernel
theorem dX7_keeps_35 : decode cX7_keeps 35 = .ok (.ireturn, 1) := by decide +kernel
theorem dX7_keeps_36 : decode cX7_keeps 36 = .ok (.aload_n 0, 1) := by decide +kernel
theorem dX7_keeps_37 : decode cX7_keeps 37 = .ok (.getfield 35, 3) := by decide +kernel
theorem dX7_keeps_40 : decode cX7_keeps 40 = .ok (.iload_n 3, 1) := by decide +kernel
theorem dX7_keeps_41 : decode cX7_keeps 41 = .ok (.invokevirtual 162, 3) := by decide +kernel
theorem dX7_keeps_44 : decode cX7_keeps 44 = .ok (.istore 5, 2) := by decide +kernel
theorem dX7_keeps_46 : decode cX7_keeps 46 = .ok (.aload_n 0, 1) := by decide +kernel
theorem dX7_keeps_47 : decode cX7_keeps 47 = .ok (.getfield 35, 3) := by decide +kernel
theorem dX7_keeps_50 : decode cX7_keeps 50 = .ok (.iload_n 1, 1) := by decide +kernel
theorem dX7_keeps_51 : decode cX7_keeps 51 = .ok (.iload_n 2, 1) := by decide +kernel
theorem dX7_keeps_52 : decode cX7_keeps 52 = .ok (.iload 4, 2) := by decide +kernel
theorem dX7_keeps_54 : decode cX7_keeps 54 = .ok (.invokevirtual 113, 3) := by decide +kernel
theorem dX7_keeps_57 : decode cX7_keeps 57 = .ok (.istore 6, 2) := by decide +kernel
theorem dX7_keeps_59 : decode cX7_keeps 59 = .ok (.iconst (-1), 1) := by decide +kernel
theorem dX7_keeps_60 : decode cX7_keeps 60 = .ok (.istore 7, 2) := by decide +kernel
theorem dX7_keeps_62 : decode cX7_keeps 62 = .ok (.sipush 512, 3) := by decide +kernel
theorem dX7_keeps_65 : decode cX7_keeps 65 = .ok (.istore 8, 2) := by decide +kernel
theorem dX7_keeps_67 : decode cX7_keeps 67 = .ok (.iload 8, 2) := by decide +kernel
theorem dX7_keeps_69 : decode cX7_keeps 69 = .ok (.ifCond .le 72, 3) := by decide +kernel
theorem dX7_keeps_72 : decode cX7_keeps 72 = .ok (.iload 7, 2) := by decide +kernel
theorem dX7_keeps_74 : decode cX7_keeps 74 = .ok (.iload 8, 2) := by decide +kernel
theorem dX7_keeps_76 : decode cX7_keeps 76 = .ok (.iadd, 1) := by decide +kernel
theorem dX7_keeps_77 : decode cX7_keeps 77 = .ok (.istore 9, 2) := by decide +kernel
theorem dX7_keeps_79 : decode cX7_keeps 79 = .ok (.iload 9, 2) := by decide +kernel
theorem dX7_keeps_81 : decode cX7_keeps 81 = .ok (.sipush 999, 3) := by decide +kernel
theorem dX7_keeps_84 : decode cX7_keeps 84 = .ok (.if_icmp .le 6, 3) := by decide +kernel
theorem dX7_keeps_87 : decode cX7_keeps 87 = .ok (.goto 45, 3) := by decide +kernel
theorem dX7_keeps_90 : decode cX7_keeps 90 = .ok (.aload_n 0, 1) := by decide +kernel
theorem dX7_keeps_91 : decode cX7_keeps 91 = .ok (.getfield 35, 3) := by decide +kernel
theorem dX7_keeps_94 : decode cX7_keeps 94 = .ok (.iload_n 1, 1) := by decide +kernel
theorem dX7_keeps_95 : decode cX7_keeps 95 = .ok (.iload_n 2, 1) := by decide +kernel
theorem dX7_keeps_96 : decode cX7_keeps 96 = .ok (.iload 4, 2) := by decide +kernel
theorem dX7_keeps_98 : decode cX7_keeps 98 = .ok (.iload 9, 2) := by decide +kernel
theorem dX7_keeps_100 : decode cX7_keeps 100 = .ok (.invokevirtual 165, 3) := by decide +kernel
theorem dX7_keeps_103 : decode cX7_keeps 103 = .ok (.aload_n 0, 1) := by decide +kernel
theorem dX7_keeps_104 : decode cX7_keeps 104 = .ok (.getfield 35, 3) := by decide +kernel
theorem dX7_keeps_107 : decode cX7_keeps 107 = .ok (.iload_n 1, 1) := by decide +kernel
theorem dX7_keeps_108 : decode cX7_keeps 108 = .ok (.iload 4, 2) := by decide +kernel
theorem dX7_keeps_110 : decode cX7_keeps 110 = .ok (.invokevirtual 133, 3) := by decide +kernel
theorem dX7_keeps_113 : decode cX7_keeps 113 = .ok (.istore 10, 2) := by decide +kernel
theorem dX7_keeps_115 : decode cX7_keeps 115 = .ok (.iload 10, 2) := by decide +kernel
theorem dX7_keeps_117 : decode cX7_keeps 117 = .ok (.iconst (-1), 1) := by decide +kernel
theorem dX7_keeps_118 : decode cX7_keeps 118 = .ok (.if_icmp .eq 14, 3) := by decide +kernel
theorem dX7_keeps_121 : decode cX7_keeps 121 = .ok (.iload 10, 2) := by decide +kernel
theorem dX7_keeps_123 : decode cX7_keeps 123 = .ok (.iload 5, 2) := by decide +kernel
theorem dX7_keeps_125 : decode cX7_keeps 125 = .ok (.if_icmp .ge 7, 3) := by decide +kernel
theorem dX7_keeps_128 : decode cX7_keeps 128 = .ok (.iload 9, 2) := by decide +kernel
theorem dX7_keeps_130 : decode cX7_keeps 130 = .ok (.istore 7, 2) := by decide +kernel
theorem dX7_keeps_132 : decode cX7_keeps 132 = .ok (.iload 8, 2) := by decide +kernel
theorem dX7_keeps_134 : decode cX7_keeps 134 = .ok (.iconst 2, 1) := by decide +kernel
theorem dX7_keeps_135 : decode cX7_keeps 135 = .ok (.idiv, 1) := by decide +kernel
theorem dX7_keeps_136 : decode cX7_keeps 136 = .ok (.istore 8, 2) := by decide +kernel
theorem dX7_keeps_138 : decode cX7_keeps 138 = .ok (.goto (-71), 3) := by decide +kernel
theorem dX7_keeps_141 : decode cX7_keeps 141 = .ok (.aload_n 0, 1) := by decide +kernel
theorem dX7_keeps_142 : decode cX7_keeps 142 = .ok (.getfield 35, 3) := by decide +kernel
theorem dX7_keeps_145 : decode cX7_keeps 145 = .ok (.iload_n 1, 1) := by decide +kernel
theorem dX7_keeps_146 : decode cX7_keeps 146 = .ok (.iload_n 2, 1) := by decide +kernel
theorem dX7_keeps_147 : decode cX7_keeps 147 = .ok (.iload 4, 2) := by decide +kernel
theorem dX7_keeps_149 : decode cX7_keeps 149 = .ok (.iload 6, 2) := by decide +kernel
theorem dX7_keeps_151 : decode cX7_keeps 151 = .ok (.invokevirtual 165, 3) := by decide +kernel
theorem dX7_keeps_154 : decode cX7_keeps 154 = .ok (.iload 7, 2) := by decide +kernel
theorem dX7_keeps_156 : decode cX7_keeps 156 = .ok (.ifCond .ge 8, 3) := by decide +kernel
theorem dX7_keeps_159 : decode cX7_keeps 159 = .ok (.bipush (-2), 2) := by decide +kernel
theorem dX7_keeps_161 : decode cX7_keeps 161 = .ok (.goto 5, 3) := by decide +kernel
theorem dX7_keeps_164 : decode cX7_keeps 164 = .ok (.iload 7, 2) := by decide +kernel
theorem dX7_keeps_166 : decode cX7_keeps 166 = .ok (.ireturn, 1) := by decide +kernel
theorem dX7_touches_0 : decode cX7_touches 0 = .ok (.aload_n 0, 1) := by decide +kernel
theorem dX7_touches_1 : decode cX7_touches 1 = .ok (.iload_n 1, 1) := by decide +kernel
theorem dX7_touches_2 : decode cX7_touches 2 = .ok (.iload_n 2, 1) := by decide +kernel
theorem dX7_touches_3 : decode cX7_touches 3 = .ok (.iload_n 3, 1) := by decide +kernel
theorem dX7_touches_4 : decode cX7_touches 4 = .ok (.iload 4, 2) := by decide +kernel
theorem dX7_touches_6 : decode cX7_touches 6 = .ok (.invokevirtual 169, 3) := by decide +kernel
theorem dX7_touches_9 : decode cX7_touches 9 = .ok (.ifCond .ne 5, 3) := by decide +kernel
theorem dX7_touches_12 : decode cX7_touches 12 = .ok (.iconst (-1), 1) := by decide +kernel
theorem dX7_touches_13 : decode cX7_touches 13 = .ok (.ireturn, 1) := by decide +kernel
theorem dX7_touches_14 : decode cX7_touches 14 = .ok (.aload_n 0, 1) := by decide +kernel
theorem dX7_touches_15 : decode cX7_touches 15 = .ok (.iload_n 1, 1) := by decide +kernel
theorem dX7_touches_16 : decode cX7_touches 16 = .ok (.iload_n 2, 1) := by decide +kernel
theorem dX7_touches_17 : decode cX7_touches 17 = .ok (.iload_n 3, 1) := by decide +kernel
theorem dX7_touches_18 : decode cX7_touches 18 = .ok (.iload 4, 2) := by decide +kernel
theorem dX7_touches_20 : decode cX7_touches 20 = .ok (.invokevirtual 173, 3) := by decide +kernel
theorem dX7_touches_23 : decode cX7_touches 23 = .ok (.ireturn, 1) := by decide +kernel
theorem dX7_correct_0 : decode cX7_correct 0 = .ok (.aload_n 0, 1) := by decide +kernel
theorem dX7_correct_1 : decode cX7_correct 1 = .ok (.iload_n 1, 1) := by decide +kernel
theorem dX7_correct_2 : decode cX7_correct 2 = .ok (.iload_n 2, 1) := by decide +kernel
theorem dX7_correct_3 : decode cX7_correct 3 = .ok (.iload_n 3, 1) := by decide +kernel
theorem dX7_correct_4 : decode cX7_correct 4 = .ok (.iload 4, 2) := by decide +kernel
theorem dX7_correct_6 : decode cX7_correct 6 = .ok (.invokevirtual 169, 3) := by decide +kernel
theorem dX7_correct_9 : decode cX7_correct 9 = .ok (.ifCond .ne 6, 3) := by decide +kernel
theorem dX7_correct_12 : decode cX7_correct 12 = .ok (.bipush (-2), 2) := by decide +kernel
theorem dX7_correct_14 : decode cX7_correct 14 = .ok (.ireturn, 1) := by decide +kernel
theorem dX7_correct_15 : decode cX7_correct 15 = .ok (.aload_n 0, 1) := by decide +kernel
theorem dX7_correct_16 : decode cX7_correct 16 = .ok (.iload_n 1, 1) := by decide +kernel
theorem dX7_correct_17 : decode cX7_correct 17 = .ok (.iload_n 2, 1) := by decide +kernel
theorem dX7_correct_18 : decode cX7_correct 18 = .ok (.iload_n 3, 1) := by decide +kernel
theorem dX7_correct_19 : decode cX7_correct 19 = .ok (.iload 4, 2) := by decide +kernel
theorem dX7_correct_21 : decode cX7_correct 21 = .ok (.invokevirtual 173, 3) := by decide +kernel
theorem dX7_correct_24 : decode cX7_correct 24 = .ok (.istore 5, 2) := by decide +kernel
theorem dX7_correct_26 : decode cX7_correct 26 = .ok (.aload_n 0, 1) := by decide +kernel
theorem dX7_correct_27 : decode cX7_correct 27 = .ok (.getfield 28, 3) := by decide +kernel
theorem dX7_correct_30 : decode cX7_correct 30 = .ok (.iconst 1, 1) := by decide +kernel
theorem dX7_correct_31 : decode cX7_correct 31 = .ok (.invokevirtual 177, 3) := by decide +kernel
theorem dX7_correct_34 : decode cX7_correct 34 = .ok (.astore 6, 2) := by decide +kernel
theorem dX7_correct_36 : decode cX7_correct 36 = .ok (.aload 6, 2) := by decide +kernel
theorem dX7_correct_38 : decode cX7_correct 38 = .ok (.iload_n 1, 1) := by decide +kernel
theorem dX7_correct_39 : decode cX7_correct 39 = .ok (.putfield 181, 3) := by decide +kernel
theorem dX7_correct_42 : decode cX7_correct 42 = .ok (.aload 6, 2) := by decide +kernel
theorem dX7_correct_44 : decode cX7_correct 44 = .ok (.iload_n 2, 1) := by decide +kernel
theorem dX7_correct_45 : decode cX7_correct 45 = .ok (.putfield 186, 3) := by decide +kernel
theorem dX7_correct_48 : decode cX7_correct 48 = .ok (.aload 6, 2) := by decide +kernel
theorem dX7_correct_50 : decode cX7_correct 50 = .ok (.iload_n 3, 1) := by decide +kernel
theorem dX7_correct_51 : decode cX7_correct 51 = .ok (.putfield 189, 3) := by decide +kernel
theorem dX7_correct_54 : decode cX7_correct 54 = .ok (.aload 6, 2) := by decide +kernel
theorem dX7_correct_56 : decode cX7_correct 56 = .ok (.aload_n 0, 1) := by decide +kernel
theorem dX7_correct_57 : decode cX7_correct 57 = .ok (.getfield 35, 3) := by decide +kernel
theorem dX7_correct_60 : decode cX7_correct 60 = .ok (.iload_n 1, 1) := by decide +kernel
theorem dX7_correct_61 : decode cX7_correct 61 = .ok (.iload_n 2, 1) := by decide +kernel
theorem dX7_correct_62 : decode cX7_correct 62 = .ok (.iload_n 3, 1) := by decide +kernel
theorem dX7_correct_63 : decode cX7_correct 63 = .ok (.invokevirtual 113, 3) := by decide +kernel
theorem dX7_correct_66 : decode cX7_correct 66 = .ok (.putfield 192, 3) := by decide +kernel
theorem dX7_correct_69 : decode cX7_correct 69 = .ok (.aload_n 0, 1) := by decide +kernel
theorem dX7_correct_70 : decode cX7_correct 70 = .ok (.getfield 35, 3) := by decide +kernel
theorem dX7_correct_73 : decode cX7_correct 73 = .ok (.iload_n 1, 1) := by decide +kernel
theorem dX7_correct_74 : decode cX7_correct 74 = .ok (.iload_n 2, 1) := by decide +kernel
theorem dX7_correct_75 : decode cX7_correct 75 = .ok (.iload_n 3, 1) := by decide +kernel
theorem dX7_correct_76 : decode cX7_correct 76 = .ok (.iload 4, 2) := by decide +kernel
theorem dX7_correct_78 : decode cX7_correct 78 = .ok (.invokevirtual 165, 3) := by decide +kernel
theorem dX7_correct_81 : decode cX7_correct 81 = .ok (.iload 5, 2) := by decide +kernel
theorem dX7_correct_83 : decode cX7_correct 83 = .ok (.invokestatic 195, 3) := by decide +kernel
theorem dX7_correct_86 : decode cX7_correct 86 = .ok (.ireturn, 1) := by decide +kernel
theorem dX7_pass_0 : decode cX7_pass 0 = .ok (.iload_n 1, 1) := by decide +kernel
theorem dX7_pass_1 : decode cX7_pass 1 = .ok (.iconst 1, 1) := by decide +kernel
theorem dX7_pass_2 : decode cX7_pass 2 = .ok (.if_icmp .lt 23, 3) := by decide +kernel
theorem dX7_pass_5 : decode cX7_pass 5 = .ok (.iload_n 1, 1) := by decide +kernel
theorem dX7_pass_6 : decode cX7_pass 6 = .ok (.bipush 12, 2) := by decide +kernel
theorem dX7_pass_8 : decode cX7_pass 8 = .ok (.if_icmp .gt 17, 3) := by decide +kernel
theorem dX7_pass_11 : decode cX7_pass 11 = .ok (.aload_n 0, 1) := by decide +kernel
theorem dX7_pass_12 : decode cX7_pass 12 = .ok (.getfield 35, 3) := by decide +kernel
theorem dX7_pass_15 : decode cX7_pass 15 = .ok (.getfield 94, 3) := by decide +kernel
theorem dX7_pass_18 : decode cX7_pass 18 = .ok (.iload_n 1, 1) := by decide +kernel
theorem dX7_pass_19 : decode cX7_pass 19 = .ok (.iadd, 1) := by decide +kernel
theorem dX7_pass_20 : decode cX7_pass 20 = .ok (.bipush 60, 2) := by decide +kernel
theorem dX7_pass_22 : decode cX7_pass 22 = .ok (.if_icmp .le 5, 3) := by decide +kernel
theorem dX7_pass_25 : decode cX7_pass 25 = .ok (.iconst (-1), 1) := by decide +kernel
theorem dX7_pass_26 : decode cX7_pass 26 = .ok (.ireturn, 1) := by decide +kernel
theorem dX7_pass_27 : decode cX7_pass 27 = .ok (.aload_n 0, 1) := by decide +kernel
theorem dX7_pass_28 : decode cX7_pass 28 = .ok (.getfield 28, 3) := by decide +kernel
theorem dX7_pass_31 : decode cX7_pass 31 = .ok (.iconst 2, 1) := by decide +kernel
theorem dX7_pass_32 : decode cX7_pass 32 = .ok (.invokevirtual 177, 3) := by decide +kernel
theorem dX7_pass_35 : decode cX7_pass 35 = .ok (.astore_n 2, 1) := by decide +kernel
theorem dX7_pass_36 : decode cX7_pass 36 = .ok (.aload_n 2, 1) := by decide +kernel
theorem dX7_pass_37 : decode cX7_pass 37 = .ok (.aload_n 0, 1) := by decide +kernel
theorem dX7_pass_38 : decode cX7_pass 38 = .ok (.getfield 35, 3) := by decide +kernel
theorem dX7_pass_41 : decode cX7_pass 41 = .ok (.getfield 94, 3) := by decide +kernel
theorem dX7_pass_44 : decode cX7_pass 44 = .ok (.putfield 192, 3) := by decide +kernel
theorem dX7_pass_47 : decode cX7_pass 47 = .ok (.aload_n 0, 1) := by decide +kernel
theorem dX7_pass_48 : decode cX7_pass 48 = .ok (.getfield 35, 3) := by decide +kernel
theorem dX7_pass_51 : decode cX7_pass 51 = .ok (.dup, 1) := by decide +kernel
theorem dX7_pass_52 : decode cX7_pass 52 = .ok (.getfield 94, 3) := by decide +kernel
theorem dX7_pass_55 : decode cX7_pass 55 = .ok (.iload_n 1, 1) := by decide +kernel
theorem dX7_pass_56 : decode cX7_pass 56 = .ok (.iadd, 1) := by decide +kernel
theorem dX7_pass_57 : decode cX7_pass 57 = .ok (.putfield 94, 3) := by decide +kernel
theorem dX7_pass_60 : decode cX7_pass 60 = .ok (.aload_n 0, 1) := by decide +kernel
theorem dX7_pass_61 : decode cX7_pass 61 = .ok (.getfield 35, 3) := by decide +kernel
theorem dX7_pass_64 : decode cX7_pass 64 = .ok (.getfield 94, 3) := by decide +kernel
theorem dX7_pass_67 : decode cX7_pass 67 = .ok (.ireturn, 1) := by decide +kernel
theorem dX7_smooth_0 : decode cX7_smooth 0 = .ok (.iload_n 1, 1) := by decide +kernel
theorem dX7_smooth_1 : decode cX7_smooth 1 = .ok (.ifCond .lt 9, 3) := by decide +kernel
theorem dX7_smooth_4 : decode cX7_smooth 4 = .ok (.iload_n 1, 1) := by decide +kernel
theorem dX7_smooth_5 : decode cX7_smooth 5 = .ok (.bipush 100, 2) := by decide +kernel
theorem dX7_smooth_7 : decode cX7_smooth 7 = .ok (.if_icmp .le 5, 3) := by decide +kernel
theorem dX7_smooth_10 : decode cX7_smooth 10 = .ok (.iconst (-1), 1) := by decide +kernel
theorem dX7_smooth_11 : decode cX7_smooth 11 = .ok (.ireturn, 1) := by decide +kernel
theorem dX7_smooth_12 : decode cX7_smooth 12 = .ok (.aload_n 0, 1) := by decide +kernel
theorem dX7_smooth_13 : decode cX7_smooth 13 = .ok (.getfield 28, 3) := by decide +kernel
theorem dX7_smooth_16 : decode cX7_smooth 16 = .ok (.iconst 3, 1) := by decide +kernel
theorem dX7_smooth_17 : decode cX7_smooth 17 = .ok (.invokevirtual 177, 3) := by decide +kernel
theorem dX7_smooth_20 : decode cX7_smooth 20 = .ok (.astore_n 2, 1) := by decide +kernel
theorem dX7_smooth_21 : decode cX7_smooth 21 = .ok (.aload_n 2, 1) := by decide +kernel
theorem dX7_smooth_22 : decode cX7_smooth 22 = .ok (.aload_n 0, 1) := by decide +kernel
theorem dX7_smooth_23 : decode cX7_smooth 23 = .ok (.getfield 35, 3) := by decide +kernel
theorem dX7_smooth_26 : decode cX7_smooth 26 = .ok (.getfield 107, 3) := by decide +kernel
theorem dX7_smooth_29 : decode cX7_smooth 29 = .ok (.putfield 192, 3) := by decide +kernel
theorem dX7_smooth_32 : decode cX7_smooth 32 = .ok (.aload_n 0, 1) := by decide +kernel
theorem dX7_smooth_33 : decode cX7_smooth 33 = .ok (.getfield 35, 3) := by decide +kernel
theorem dX7_smooth_36 : decode cX7_smooth 36 = .ok (.iload_n 1, 1) := by decide +kernel
theorem dX7_smooth_37 : decode cX7_smooth 37 = .ok (.putfield 107, 3) := by decide +kernel
theorem dX7_smooth_40 : decode cX7_smooth 40 = .ok (.aload_n 2, 1) := by decide +kernel
theorem dX7_smooth_41 : decode cX7_smooth 41 = .ok (.getfield 192, 3) := by decide +kernel
theorem dX7_smooth_44 : decode cX7_smooth 44 = .ok (.ireturn, 1) := by decide +kernel
theorem dX7_window_0 : decode cX7_window 0 = .ok (.aload_n 0, 1) := by decide +kernel
theorem dX7_window_1 : decode cX7_window 1 = .ok (.getfield 35, 3) := by decide +kernel
theorem dX7_window_4 : decode cX7_window 4 = .ok (.iload_n 1, 1) := by decide +kernel
theorem dX7_window_5 : decode cX7_window 5 = .ok (.invokevirtual 120, 3) := by decide +kernel
theorem dX7_window_8 : decode cX7_window 8 = .ok (.astore 4, 2) := by decide +kernel
theorem dX7_window_10 : decode cX7_window 10 = .ok (.aload 4, 2) := by decide +kernel
theorem dX7_window_12 : decode cX7_window 12 = .ok (.ifnull 24, 3) := by decide +kernel
theorem dX7_window_15 : decode cX7_window 15 = .ok (.iload_n 2, 1) := by decide +kernel
theorem dX7_window_16 : decode cX7_window 16 = .ok (.iconst 1, 1) := by decide +kernel
theorem dX7_window_17 : decode cX7_window 17 = .ok (.if_icmp .lt 19, 3) := by decide +kernel
theorem dX7_window_20 : decode cX7_window 20 = .ok (.iload_n 2, 1) := by decide +kernel
theorem dX7_window_21 : decode cX7_window 21 = .ok (.bipush 12, 2) := by decide +kernel
theorem dX7_window_23 : decode cX7_window 23 = .ok (.if_icmp .gt 13, 3) := by decide +kernel
theorem dX7_window_26 : decode cX7_window 26 = .ok (.iload_n 3, 1) := by decide +kernel
theorem dX7_window_27 : decode cX7_window 27 = .ok (.iconst 1, 1) := by decide +kernel
theorem dX7_window_28 : decode cX7_window 28 = .ok (.if_icmp .lt 8, 3) := by decide +kernel
theorem dX7_window_31 : decode cX7_window 31 = .ok (.iload_n 3, 1) := by decide +kernel
theorem dX7_window_32 : decode cX7_window 32 = .ok (.iload_n 2, 1) := by decide +kernel
theorem dX7_window_33 : decode cX7_window 33 = .ok (.if_icmp .le 5, 3) := by decide +kernel
theorem dX7_window_36 : decode cX7_window 36 = .ok (.iconst 0, 1) := by decide +kernel
theorem dX7_window_37 : decode cX7_window 37 = .ok (.ireturn, 1) := by decide +kernel
theorem dX7_window_38 : decode cX7_window 38 = .ok (.aload_n 0, 1) := by decide +kernel
theorem dX7_window_39 : decode cX7_window 39 = .ok (.getfield 28, 3) := by decide +kernel
theorem dX7_window_42 : decode cX7_window 42 = .ok (.iconst 4, 1) := by decide +kernel
theorem dX7_window_43 : decode cX7_window 43 = .ok (.invokevirtual 177, 3) := by decide +kernel
theorem dX7_window_46 : decode cX7_window 46 = .ok (.astore 5, 2) := by decide +kernel
theorem dX7_window_48 : decode cX7_window 48 = .ok (.aload 5, 2) := by decide +kernel
theorem dX7_window_50 : decode cX7_window 50 = .ok (.iload_n 1, 1) := by decide +kernel
theorem dX7_window_51 : decode cX7_window 51 = .ok (.putfield 186, 3) := by decide +kernel
theorem dX7_window_54 : decode cX7_window 54 = .ok (.aload 5, 2) := by decide +kernel
theorem dX7_window_56 : decode cX7_window 56 = .ok (.aload 4, 2) := by decide +kernel
theorem dX7_window_58 : decode cX7_window 58 = .ok (.getfield 200, 3) := by decide +kernel
theorem dX7_window_61 : decode cX7_window 61 = .ok (.putfield 192, 3) := by decide +kernel
theorem dX7_window_64 : decode cX7_window 64 = .ok (.aload 5, 2) := by decide +kernel
theorem dX7_window_66 : decode cX7_window 66 = .ok (.aload 4, 2) := by decide +kernel
theorem dX7_window_68 : decode cX7_window 68 = .ok (.getfield 203, 3) := by decide +kernel
theorem dX7_window_71 : decode cX7_window 71 = .ok (.putfield 206, 3) := by decide +kernel
theorem dX7_window_74 : decode cX7_window 74 = .ok (.aload 4, 2) := by decide +kernel
theorem dX7_window_76 : decode cX7_window 76 = .ok (.iload_n 2, 1) := by decide +kernel
theorem dX7_window_77 : decode cX7_window 77 = .ok (.putfield 200, 3) := by decide +kernel
theorem dX7_window_80 : decode cX7_window 80 = .ok (.aload 4, 2) := by decide +kernel
theorem dX7_window_82 : decode cX7_window 82 = .ok (.iload_n 3, 1) := by decide +kernel
theorem dX7_window_83 : decode cX7_window 83 = .ok (.putfield 203, 3) := by decide +kernel
theorem dX7_window_86 : decode cX7_window 86 = .ok (.iconst 1, 1) := by decide +kernel
theorem dX7_window_87 : decode cX7_window 87 = .ok (.ireturn, 1) := by decide +kernel
theorem dX7_undo_0 : decode cX7_undo 0 = .ok (.aload_n 0, 1) := by decide +kernel
theorem dX7_undo_1 : decode cX7_undo 1 = .ok (.getfield 28, 3) := by decide +kernel
theorem dX7_undo_4 : decode cX7_undo 4 = .ok (.invokevirtual 209, 3) := by decide +kernel
theorem dX7_undo_7 : decode cX7_undo 7 = .ok (.astore_n 1, 1) := by decide +kernel
theorem dX7_undo_8 : decode cX7_undo 8 = .ok (.aload_n 1, 1) := by decide +kernel
theorem dX7_undo_9 : decode cX7_undo 9 = .ok (.ifnonnull 5, 3) := by decide +kernel
theorem dX7_undo_12 : decode cX7_undo 12 = .ok (.iconst (-1), 1) := by decide +kernel
theorem dX7_undo_13 : decode cX7_undo 13 = .ok (.ireturn, 1) := by decide +kernel
theorem dX7_undo_14 : decode cX7_undo 14 = .ok (.aload_n 0, 1) := by decide +kernel
theorem dX7_undo_15 : decode cX7_undo 15 = .ok (.aload_n 1, 1) := by decide +kernel
theorem dX7_undo_16 : decode cX7_undo 16 = .ok (.invokevirtual 213, 3) := by decide +kernel
theorem dX7_undo_19 : decode cX7_undo 19 = .ok (.aload_n 0, 1) := by decide +kernel
theorem dX7_undo_20 : decode cX7_undo 20 = .ok (.getfield 28, 3) := by decide +kernel
theorem dX7_undo_23 : decode cX7_undo 23 = .ok (.getfield 110, 3) := by decide +kernel
theorem dX7_undo_26 : decode cX7_undo 26 = .ok (.ireturn, 1) := by decide +kernel
theorem dX7_takeBack_0 : decode cX7_takeBack 0 = .ok (.aload_n 1, 1) := by decide +kernel
theorem dX7_takeBack_1 : decode cX7_takeBack 1 = .ok (.getfield 217, 3) := by decide +kernel
theorem dX7_takeBack_4 : decode cX7_takeBack 4 = .ok (.tableswitch 121 1 4 #[32, 58, 72, 86], 32) := by decide +kernel
theorem dX7_takeBack_36 : decode cX7_takeBack 36 = .ok (.aload_n 0, 1) := by decide +kernel
theorem dX7_takeBack_37 : decode cX7_takeBack 37 = .ok (.getfield 35, 3) := by decide +kernel
theorem dX7_takeBack_40 : decode cX7_takeBack 40 = .ok (.aload_n 1, 1) := by decide +kernel
theorem dX7_takeBack_41 : decode cX7_takeBack 41 = .ok (.getfield 181, 3) := by decide +kernel
theorem dX7_takeBack_44 : decode cX7_takeBack 44 = .ok (.aload_n 1, 1) := by decide +kernel
theorem dX7_takeBack_45 : decode cX7_takeBack 45 = .ok (.getfield 186, 3) := by decide +kernel
theorem dX7_takeBack_48 : decode cX7_takeBack 48 = .ok (.aload_n 1, 1) := by decide +kernel
theorem dX7_takeBack_49 : decode cX7_takeBack 49 = .ok (.getfield 189, 3) := by decide +kernel
theorem dX7_takeBack_52 : decode cX7_takeBack 52 = .ok (.aload_n 1, 1) := by decide +kernel
theorem dX7_takeBack_53 : decode cX7_takeBack 53 = .ok (.getfield 192, 3) := by decide +kernel
theorem dX7_takeBack_56 : decode cX7_takeBack 56 = .ok (.invokevirtual 165, 3) := by decide +kernel
theorem dX7_takeBack_59 : decode cX7_takeBack 59 = .ok (.goto 66, 3) := by decide +kernel
theorem dX7_takeBack_62 : decode cX7_takeBack 62 = .ok (.aload_n 0, 1) := by decide +kernel
theorem dX7_takeBack_63 : decode cX7_takeBack 63 = .ok (.getfield 35, 3) := by decide +kernel
theorem dX7_takeBack_66 : decode cX7_takeBack 66 = .ok (.aload_n 1, 1) := by decide +kernel
theorem dX7_takeBack_67 : decode cX7_takeBack 67 = .ok (.getfield 192, 3) := by decide +kernel
theorem dX7_takeBack_70 : decode cX7_takeBack 70 = .ok (.putfield 94, 3) := by decide +kernel
theorem dX7_takeBack_73 : decode cX7_takeBack 73 = .ok (.goto 52, 3) := by decide +kernel
theorem dX7_takeBack_76 : decode cX7_takeBack 76 = .ok (.aload_n 0, 1) := by decide +kernel
theorem dX7_takeBack_77 : decode cX7_takeBack 77 = .ok (.getfield 35, 3) := by decide +kernel
theorem dX7_takeBack_80 : decode cX7_takeBack 80 = .ok (.aload_n 1, 1) := by decide +kernel
theorem dX7_takeBack_81 : decode cX7_takeBack 81 = .ok (.getfield 192, 3) := by decide +kernel
theorem dX7_takeBack_84 : decode cX7_takeBack 84 = .ok (.putfield 107, 3) := by decide +kernel
theorem dX7_takeBack_87 : decode cX7_takeBack 87 = .ok (.goto 38, 3) := by decide +kernel
theorem dX7_takeBack_90 : decode cX7_takeBack 90 = .ok (.aload_n 0, 1) := by decide +kernel
theorem dX7_takeBack_91 : decode cX7_takeBack 91 = .ok (.getfield 35, 3) := by decide +kernel
theorem dX7_takeBack_94 : decode cX7_takeBack 94 = .ok (.aload_n 1, 1) := by decide +kernel
theorem dX7_takeBack_95 : decode cX7_takeBack 95 = .ok (.getfield 186, 3) := by decide +kernel
theorem dX7_takeBack_98 : decode cX7_takeBack 98 = .ok (.invokevirtual 120, 3) := by decide +kernel
theorem dX7_takeBack_101 : decode cX7_takeBack 101 = .ok (.astore_n 2, 1) := by decide +kernel
theorem dX7_takeBack_102 : decode cX7_takeBack 102 = .ok (.aload_n 2, 1) := by decide +kernel
theorem dX7_takeBack_103 : decode cX7_takeBack 103 = .ok (.ifnull 22, 3) := by decide +kernel
theorem dX7_takeBack_106 : decode cX7_takeBack 106 = .ok (.aload_n 2, 1) := by decide +kernel
theorem dX7_takeBack_107 : decode cX7_takeBack 107 = .ok (.aload_n 1, 1) := by decide +kernel
theorem dX7_takeBack_108 : decode cX7_takeBack 108 = .ok (.getfield 192, 3) := by decide +kernel
theorem dX7_takeBack_111 : decode cX7_takeBack 111 = .ok (.putfield 200, 3) := by decide +kernel
theorem dX7_takeBack_114 : decode cX7_takeBack 114 = .ok (.aload_n 2, 1) := by decide +kernel
theorem dX7_takeBack_115 : decode cX7_takeBack 115 = .ok (.aload_n 1, 1) := by decide +kernel
theorem dX7_takeBack_116 : decode cX7_takeBack 116 = .ok (.getfield 206, 3) := by decide +kernel
theorem dX7_takeBack_119 : decode cX7_takeBack 119 = .ok (.putfield 203, 3) := by decide +kernel
theorem dX7_takeBack_122 : decode cX7_takeBack 122 = .ok (.goto 3, 3) := by decide +kernel
theorem dX7_takeBack_125 : decode cX7_takeBack 125 = .ok (.return_, 1) := by decide +kernel
theorem dX7_canCorrect_0 : decode cX7_canCorrect 0 = .ok (.aload_n 0, 1) := by decide +kernel
theorem dX7_canCorrect_1 : decode cX7_canCorrect 1 = .ok (.getfield 35, 3) := by decide +kernel
theorem dX7_canCorrect_4 : decode cX7_canCorrect 4 = .ok (.iload_n 1, 1) := by decide +kernel
theorem dX7_canCorrect_5 : decode cX7_canCorrect 5 = .ok (.iload_n 2, 1) := by decide +kernel
theorem dX7_canCorrect_6 : decode cX7_canCorrect 6 = .ok (.iload_n 3, 1) := by decide +kernel
theorem dX7_canCorrect_7 : decode cX7_canCorrect 7 = .ok (.invokevirtual 158, 3) := by decide +kernel
theorem dX7_canCorrect_10 : decode cX7_canCorrect 10 = .ok (.ifCond .eq 21, 3) := by decide +kernel
theorem dX7_canCorrect_13 : decode cX7_canCorrect 13 = .ok (.iload 4, 2) := by decide +kernel
theorem dX7_canCorrect_15 : decode cX7_canCorrect 15 = .ok (.iconst (-1), 1) := by decide +kernel
theorem dX7_canCorrect_16 : decode cX7_canCorrect 16 = .ok (.if_icmp .lt 15, 3) := by decide +kernel
theorem dX7_canCorrect_19 : decode cX7_canCorrect 19 = .ok (.iload 4, 2) := by decide +kernel
theorem dX7_canCorrect_21 : decode cX7_canCorrect 21 = .ok (.sipush 999, 3) := by decide +kernel
theorem dX7_canCorrect_24 : decode cX7_canCorrect 24 = .ok (.if_icmp .gt 7, 3) := by decide +kernel
theorem dX7_canCorrect_27 : decode cX7_canCorrect 27 = .ok (.iconst 1, 1) := by decide +kernel
theorem dX7_canCorrect_28 : decode cX7_canCorrect 28 = .ok (.goto 4, 3) := by decide +kernel
theorem dX7_canCorrect_31 : decode cX7_canCorrect 31 = .ok (.iconst 0, 1) := by decide +kernel
theorem dX7_canCorrect_32 : decode cX7_canCorrect 32 = .ok (.ireturn, 1) := by decide +kernel
theorem dX7_touchedHours_0 : decode cX7_touchedHours 0 = .ok (.aload_n 0, 1) := by decide +kernel
theorem dX7_touchedHours_1 : decode cX7_touchedHours 1 = .ok (.getfield 35, 3) := by decide +kernel
theorem dX7_touchedHours_4 : decode cX7_touchedHours 4 = .ok (.iload_n 1, 1) := by decide +kernel
theorem dX7_touchedHours_5 : decode cX7_touchedHours 5 = .ok (.iload_n 2, 1) := by decide +kernel
theorem dX7_touchedHours_6 : decode cX7_touchedHours 6 = .ok (.iload_n 3, 1) := by decide +kernel
theorem dX7_touchedHours_7 : decode cX7_touchedHours 7 = .ok (.invokevirtual 113, 3) := by decide +kernel
theorem dX7_touchedHours_10 : decode cX7_touchedHours 10 = .ok (.istore 5, 2) := by decide +kernel
theorem dX7_touchedHours_12 : decode cX7_touchedHours 12 = .ok (.iconst 0, 1) := by decide +kernel
theorem dX7_touchedHours_13 : decode cX7_touchedHours 13 = .ok (.istore 6, 2) := by decide +kernel
theorem dX7_touchedHours_15 : decode cX7_touchedHours 15 = .ok (.iconst 0, 1) := by decide +kernel
theorem dX7_touchedHours_16 : decode cX7_touchedHours 16 = .ok (.istore 7, 2) := by decide +kernel
theorem dX7_touchedHours_18 : decode cX7_touchedHours 18 = .ok (.iload 7, 2) := by decide +kernel
theorem dX7_touchedHours_20 : decode cX7_touchedHours 20 = .ok (.bipush 12, 2) := by decide +kernel
theorem dX7_touchedHours_22 : decode cX7_touchedHours 22 = .ok (.if_icmp .ge 77, 3) := by decide +kernel
theorem dX7_touchedHours_25 : decode cX7_touchedHours 25 = .ok (.aload_n 0, 1) := by decide +kernel
theorem dX7_touchedHours_26 : decode cX7_touchedHours 26 = .ok (.getfield 35, 3) := by decide +kernel
theorem dX7_touchedHours_29 : decode cX7_touchedHours 29 = .ok (.iload_n 1, 1) := by decide +kernel
theorem dX7_touchedHours_30 : decode cX7_touchedHours 30 = .ok (.iload_n 3, 1) := by decide +kernel
theorem dX7_touchedHours_31 : decode cX7_touchedHours 31 = .ok (.iload 7, 2) := by decide +kernel
theorem dX7_touchedHours_33 : decode cX7_touchedHours 33 = .ok (.iadd, 1) := by decide +kernel
theorem dX7_touchedHours_34 : decode cX7_touchedHours 34 = .ok (.invokevirtual 133, 3) := by decide +kernel
theorem dX7_touchedHours_37 : decode cX7_touchedHours 37 = .ok (.istore 8, 2) := by decide +kernel
theorem dX7_touchedHours_39 : decode cX7_touchedHours 39 = .ok (.aload_n 0, 1) := by decide +kernel
theorem dX7_touchedHours_40 : decode cX7_touchedHours 40 = .ok (.getfield 35, 3) := by decide +kernel
theorem dX7_touchedHours_43 : decode cX7_touchedHours 43 = .ok (.iload_n 1, 1) := by decide +kernel
theorem dX7_touchedHours_44 : decode cX7_touchedHours 44 = .ok (.iload_n 2, 1) := by decide +kernel
theorem dX7_touchedHours_45 : decode cX7_touchedHours 45 = .ok (.iload_n 3, 1) := by decide +kernel
theorem dX7_touchedHours_46 : decode cX7_touchedHours 46 = .ok (.iload 4, 2) := by decide +kernel
theorem dX7_touchedHours_48 : decode cX7_touchedHours 48 = .ok (.invokevirtual 165, 3) := by decide +kernel
theorem dX7_touchedHours_51 : decode cX7_touchedHours 51 = .ok (.aload_n 0, 1) := by decide +kernel
theorem dX7_touchedHours_52 : decode cX7_touchedHours 52 = .ok (.getfield 35, 3) := by decide +kernel
theorem dX7_touchedHours_55 : decode cX7_touchedHours 55 = .ok (.iload_n 1, 1) := by decide +kernel
theorem dX7_touchedHours_56 : decode cX7_touchedHours 56 = .ok (.iload_n 3, 1) := by decide +kernel
theorem dX7_touchedHours_57 : decode cX7_touchedHours 57 = .ok (.iload 7, 2) := by decide +kernel
theorem dX7_touchedHours_59 : decode cX7_touchedHours 59 = .ok (.iadd, 1) := by decide +kernel
theorem dX7_touchedHours_60 : decode cX7_touchedHours 60 = .ok (.invokevirtual 133, 3) := by decide +kernel
theorem dX7_touchedHours_63 : decode cX7_touchedHours 63 = .ok (.istore 9, 2) := by decide +kernel
theorem dX7_touchedHours_65 : decode cX7_touchedHours 65 = .ok (.aload_n 0, 1) := by decide +kernel
theorem dX7_touchedHours_66 : decode cX7_touchedHours 66 = .ok (.getfield 35, 3) := by decide +kernel
theorem dX7_touchedHours_69 : decode cX7_touchedHours 69 = .ok (.iload_n 1, 1) := by decide +kernel
theorem dX7_touchedHours_70 : decode cX7_touchedHours 70 = .ok (.iload_n 2, 1) := by decide +kernel
theorem dX7_touchedHours_71 : decode cX7_touchedHours 71 = .ok (.iload_n 3, 1) := by decide +kernel
theorem dX7_touchedHours_72 : decode cX7_touchedHours 72 = .ok (.iload 5, 2) := by decide +kernel
theorem dX7_touchedHours_74 : decode cX7_touchedHours 74 = .ok (.invokevirtual 165, 3) := by decide +kernel
theorem dX7_touchedHours_77 : decode cX7_touchedHours 77 = .ok (.iload 9, 2) := by decide +kernel
theorem dX7_touchedHours_79 : decode cX7_touchedHours 79 = .ok (.iload 8, 2) := by decide +kernel
theorem dX7_touchedHours_81 : decode cX7_touchedHours 81 = .ok (.if_icmp .eq 12, 3) := by decide +kernel
theorem dX7_touchedHours_84 : decode cX7_touchedHours 84 = .ok (.iload 6, 2) := by decide +kernel
theorem dX7_touchedHours_86 : decode cX7_touchedHours 86 = .ok (.iconst 1, 1) := by decide +kernel
theorem dX7_touchedHours_87 : decode cX7_touchedHours 87 = .ok (.iload 7, 2) := by decide +kernel
theorem dX7_touchedHours_89 : decode cX7_touchedHours 89 = .ok (.ishl, 1) := by decide +kernel
theorem dX7_touchedHours_90 : decode cX7_touchedHours 90 = .ok (.ior, 1) := by decide +kernel
theorem dX7_touchedHours_91 : decode cX7_touchedHours 91 = .ok (.istore 6, 2) := by decide +kernel
theorem dX7_touchedHours_93 : decode cX7_touchedHours 93 = .ok (.iinc 7 1, 3) := by decide +kernel
theorem dX7_touchedHours_96 : decode cX7_touchedHours 96 = .ok (.goto (-78), 3) := by decide +kernel
theorem dX7_touchedHours_99 : decode cX7_touchedHours 99 = .ok (.iload 6, 2) := by decide +kernel
theorem dX7_touchedHours_101 : decode cX7_touchedHours 101 = .ok (.ireturn, 1) := by decide +kernel
theorem dX8_isIn_0 : decode cX8_isIn 0 = .ok (.iload_n 0, 1) := by decide +kernel
theorem dX8_isIn_1 : decode cX8_isIn 1 = .ok (.iload_n 1, 1) := by decide +kernel
theorem dX8_isIn_2 : decode cX8_isIn 2 = .ok (.if_icmp .lt 12, 3) := by decide +kernel
theorem dX8_isIn_5 : decode cX8_isIn 5 = .ok (.iload_n 0, 1) := by decide +kernel
theorem dX8_isIn_6 : decode cX8_isIn 6 = .ok (.iload_n 2, 1) := by decide +kernel
theorem dX8_isIn_7 : decode cX8_isIn 7 = .ok (.if_icmp .gt 7, 3) := by decide +kernel
theorem dX8_isIn_10 : decode cX8_isIn 10 = .ok (.iconst 1, 1) := by decide +kernel
theorem dX8_isIn_11 : decode cX8_isIn 11 = .ok (.goto 4, 3) := by decide +kernel
theorem dX8_isIn_14 : decode cX8_isIn 14 = .ok (.iconst 0, 1) := by decide +kernel
theorem dX8_isIn_15 : decode cX8_isIn 15 = .ok (.ireturn, 1) := by decide +kernel
theorem dX8_lays_0 : decode cX8_lays 0 = .ok (.bipush 24, 2) := by decide +kernel
theorem dX8_lays_2 : decode cX8_lays 2 = .ok (.istore_n 2, 1) := by decide +kernel
theorem dX8_lays_3 : decode cX8_lays 3 = .ok (.iload_n 2, 1) := by decide +kernel
theorem dX8_lays_4 : decode cX8_lays 4 = .ok (.ifCond .lt 35, 3) := by decide +kernel
theorem dX8_lays_7 : decode cX8_lays 7 = .ok (.aload_n 0, 1) := by decide +kernel
theorem dX8_lays_8 : decode cX8_lays 8 = .ok (.getfield 7, 3) := by decide +kernel
theorem dX8_lays_11 : decode cX8_lays 11 = .ok (.aload_n 0, 1) := by decide +kernel
theorem dX8_lays_12 : decode cX8_lays 12 = .ok (.getfield 11, 3) := by decide +kernel
theorem dX8_lays_15 : decode cX8_lays 15 = .ok (.iload_n 1, 1) := by decide +kernel
theorem dX8_lays_16 : decode cX8_lays 16 = .ok (.iload_n 2, 1) := by decide +kernel
theorem dX8_lays_17 : decode cX8_lays 17 = .ok (.iushr, 1) := by decide +kernel
theorem dX8_lays_18 : decode cX8_lays 18 = .ok (.sipush 255, 3) := by decide +kernel
theorem dX8_lays_21 : decode cX8_lays 21 = .ok (.iand, 1) := by decide +kernel
theorem dX8_lays_22 : decode cX8_lays 22 = .ok (.iastore, 1) := by decide +kernel
theorem dX8_lays_23 : decode cX8_lays 23 = .ok (.aload_n 0, 1) := by decide +kernel
theorem dX8_lays_24 : decode cX8_lays 24 = .ok (.dup, 1) := by decide +kernel
theorem dX8_lays_25 : decode cX8_lays 25 = .ok (.getfield 11, 3) := by decide +kernel
theorem dX8_lays_28 : decode cX8_lays 28 = .ok (.iconst 1, 1) := by decide +kernel
theorem dX8_lays_29 : decode cX8_lays 29 = .ok (.iadd, 1) := by decide +kernel
theorem dX8_lays_30 : decode cX8_lays 30 = .ok (.putfield 11, 3) := by decide +kernel
theorem dX8_lays_33 : decode cX8_lays 33 = .ok (.iinc 2 (-8), 3) := by decide +kernel
theorem dX8_lays_36 : decode cX8_lays 36 = .ok (.goto (-33), 3) := by decide +kernel
theorem dX8_lays_39 : decode cX8_lays 39 = .ok (.return_, 1) := by decide +kernel
theorem dX8_feed_0 : decode cX8_feed 0 = .ok (.aload_n 0, 1) := by decide +kernel
theorem dX8_feed_1 : decode cX8_feed 1 = .ok (.getfield 11, 3) := by decide +kernel
theorem dX8_feed_4 : decode cX8_feed 4 = .ok (.bipush 20, 2) := by decide +kernel
theorem dX8_feed_6 : decode cX8_feed 6 = .ok (.iadd, 1) := by decide +kernel
theorem dX8_feed_7 : decode cX8_feed 7 = .ok (.sipush 640, 3) := by decide +kernel
theorem dX8_feed_10 : decode cX8_feed 10 = .ok (.if_icmp .le 5, 3) := by decide +kernel
theorem dX8_feed_13 : decode cX8_feed 13 = .ok (.iconst (-1), 1) := by decide +kernel
theorem dX8_feed_14 : decode cX8_feed 14 = .ok (.ireturn, 1) := by decide +kernel
theorem dX8_feed_15 : decode cX8_feed 15 = .ok (.aload_n 0, 1) := by decide +kernel
theorem dX8_feed_16 : decode cX8_feed 16 = .ok (.iload_n 1, 1) := by decide +kernel
theorem dX8_feed_17 : decode cX8_feed 17 = .ok (.invokevirtual 14, 3) := by decide +kernel
theorem dX8_feed_20 : decode cX8_feed 20 = .ok (.aload_n 0, 1) := by decide +kernel
theorem dX8_feed_21 : decode cX8_feed 21 = .ok (.iload_n 2, 1) := by decide +kernel
theorem dX8_feed_22 : decode cX8_feed 22 = .ok (.invokevirtual 14, 3) := by decide +kernel
theorem dX8_feed_25 : decode cX8_feed 25 = .ok (.aload_n 0, 1) := by decide +kernel
theorem dX8_feed_26 : decode cX8_feed 26 = .ok (.iload_n 3, 1) := by decide +kernel
theorem dX8_feed_27 : decode cX8_feed 27 = .ok (.invokevirtual 14, 3) := by decide +kernel
theorem dX8_feed_30 : decode cX8_feed 30 = .ok (.aload_n 0, 1) := by decide +kernel
theorem dX8_feed_31 : decode cX8_feed 31 = .ok (.iload 4, 2) := by decide +kernel
theorem dX8_feed_33 : decode cX8_feed 33 = .ok (.invokevirtual 14, 3) := by decide +kernel
theorem dX8_feed_36 : decode cX8_feed 36 = .ok (.aload_n 0, 1) := by decide +kernel
theorem dX8_feed_37 : decode cX8_feed 37 = .ok (.iload 5, 2) := by decide +kernel
theorem dX8_feed_39 : decode cX8_feed 39 = .ok (.invokevirtual 14, 3) := by decide +kernel
theorem dX8_feed_42 : decode cX8_feed 42 = .ok (.aload_n 0, 1) := by decide +kernel
theorem dX8_feed_43 : decode cX8_feed 43 = .ok (.getfield 11, 3) := by decide +kernel
theorem dX8_feed_46 : decode cX8_feed 46 = .ok (.ireturn, 1) := by decide +kernel
theorem dX8_end_0 : decode cX8_end 0 = .ok (.iload_n 1, 1) := by decide +kernel
theorem dX8_end_1 : decode cX8_end 1 = .ok (.ifCond .lt 11, 3) := by decide +kernel
theorem dX8_end_4 : decode cX8_end 4 = .ok (.iload_n 1, 1) := by decide +kernel
theorem dX8_end_5 : decode cX8_end 5 = .ok (.aload_n 0, 1) := by decide +kernel
theorem dX8_end_6 : decode cX8_end 6 = .ok (.getfield 11, 3) := by decide +kernel
theorem dX8_end_9 : decode cX8_end 9 = .ok (.if_icmp .le 5, 3) := by decide +kernel
theorem dX8_end_12 : decode cX8_end 12 = .ok (.iconst 0, 1) := by decide +kernel
theorem dX8_end_13 : decode cX8_end 13 = .ok (.ireturn, 1) := by decide +kernel
theorem dX8_end_14 : decode cX8_end 14 = .ok (.aload_n 0, 1) := by decide +kernel
theorem dX8_end_15 : decode cX8_end 15 = .ok (.iload_n 1, 1) := by decide +kernel
theorem dX8_end_16 : decode cX8_end 16 = .ok (.putfield 11, 3) := by decide +kernel
theorem dX8_end_19 : decode cX8_end 19 = .ok (.iconst 1, 1) := by decide +kernel
theorem dX8_end_20 : decode cX8_end 20 = .ok (.ireturn, 1) := by decide +kernel
theorem dX8_tapeAt_0 : decode cX8_tapeAt 0 = .ok (.iload_n 1, 1) := by decide +kernel
theorem dX8_tapeAt_1 : decode cX8_tapeAt 1 = .ok (.aload_n 0, 1) := by decide +kernel
theorem dX8_tapeAt_2 : decode cX8_tapeAt 2 = .ok (.getfield 18, 3) := by decide +kernel
theorem dX8_tapeAt_5 : decode cX8_tapeAt 5 = .ok (.if_icmp .ge 12, 3) := by decide +kernel
theorem dX8_tapeAt_8 : decode cX8_tapeAt 8 = .ok (.aload_n 0, 1) := by decide +kernel
theorem dX8_tapeAt_9 : decode cX8_tapeAt 9 = .ok (.getfield 7, 3) := by decide +kernel
theorem dX8_tapeAt_12 : decode cX8_tapeAt 12 = .ok (.iload_n 1, 1) := by decide +kernel
theorem dX8_tapeAt_13 : decode cX8_tapeAt 13 = .ok (.iaload, 1) := by decide +kernel
theorem dX8_tapeAt_14 : decode cX8_tapeAt 14 = .ok (.goto 4, 3) := by decide +kernel
theorem dX8_tapeAt_17 : decode cX8_tapeAt 17 = .ok (.iconst 0, 1) := by decide +kernel
theorem dX8_tapeAt_18 : decode cX8_tapeAt 18 = .ok (.ireturn, 1) := by decide +kernel
theorem dX8_isDigit_0 : decode cX8_isDigit 0 = .ok (.iload_n 0, 1) := by decide +kernel
theorem dX8_isDigit_1 : decode cX8_isDigit 1 = .ok (.bipush 48, 2) := by decide +kernel
theorem dX8_isDigit_3 : decode cX8_isDigit 3 = .ok (.if_icmp .lt 13, 3) := by decide +kernel
theorem dX8_isDigit_6 : decode cX8_isDigit 6 = .ok (.iload_n 0, 1) := by decide +kernel
theorem dX8_isDigit_7 : decode cX8_isDigit 7 = .ok (.bipush 57, 2) := by decide +kernel
theorem dX8_isDigit_9 : decode cX8_isDigit 9 = .ok (.if_icmp .gt 7, 3) := by decide +kernel
theorem dX8_isDigit_12 : decode cX8_isDigit 12 = .ok (.iconst 1, 1) := by decide +kernel
theorem dX8_isDigit_13 : decode cX8_isDigit 13 = .ok (.goto 4, 3) := by decide +kernel
theorem dX8_isDigit_16 : decode cX8_isDigit 16 = .ok (.iconst 0, 1) := by decide +kernel
theorem dX8_isDigit_17 : decode cX8_isDigit 17 = .ok (.ireturn, 1) := by decide +kernel
theorem dX8_isLetter_0 : decode cX8_isLetter 0 = .ok (.iload_n 0, 1) := by decide +kernel
theorem dX8_isLetter_1 : decode cX8_isLetter 1 = .ok (.bipush 97, 2) := by decide +kernel
theorem dX8_isLetter_3 : decode cX8_isLetter 3 = .ok (.if_icmp .lt 13, 3) := by decide +kernel
theorem dX8_isLetter_6 : decode cX8_isLetter 6 = .ok (.iload_n 0, 1) := by decide +kernel
theorem dX8_isLetter_7 : decode cX8_isLetter 7 = .ok (.bipush 122, 2) := by decide +kernel
theorem dX8_isLetter_9 : decode cX8_isLetter 9 = .ok (.if_icmp .gt 7, 3) := by decide +kernel
theorem dX8_isLetter_12 : decode cX8_isLetter 12 = .ok (.iconst 1, 1) := by decide +kernel
theorem dX8_isLetter_13 : decode cX8_isLetter 13 = .ok (.goto 4, 3) := by decide +kernel
theorem dX8_isLetter_16 : decode cX8_isLetter 16 = .ok (.iconst 0, 1) := by decide +kernel
theorem dX8_isLetter_17 : decode cX8_isLetter 17 = .ok (.ireturn, 1) := by decide +kernel
theorem dX8_go_0 : decode cX8_go 0 = .ok (.aload_n 0, 1) := by decide +kernel
theorem dX8_go_1 : decode cX8_go 1 = .ok (.getfield 21, 3) := by decide +kernel
theorem dX8_go_4 : decode cX8_go 4 = .ok (.aload_n 0, 1) := by decide +kernel
theorem dX8_go_5 : decode cX8_go 5 = .ok (.getfield 18, 3) := by decide +kernel
theorem dX8_go_8 : decode cX8_go 8 = .ok (.if_icmp .ge 44, 3) := by decide +kernel
theorem dX8_go_11 : decode cX8_go 11 = .ok (.aload_n 0, 1) := by decide +kernel
theorem dX8_go_12 : decode cX8_go 12 = .ok (.getfield 7, 3) := by decide +kernel
theorem dX8_go_15 : decode cX8_go 15 = .ok (.aload_n 0, 1) := by decide +kernel
theorem dX8_go_16 : decode cX8_go 16 = .ok (.getfield 21, 3) := by decide +kernel
theorem dX8_go_19 : decode cX8_go 19 = .ok (.iaload, 1) := by decide +kernel
theorem dX8_go_20 : decode cX8_go 20 = .ok (.bipush 32, 2) := by decide +kernel
theorem dX8_go_22 : decode cX8_go 22 = .ok (.if_icmp .eq 17, 3) := by decide +kernel
theorem dX8_go_25 : decode cX8_go 25 = .ok (.aload_n 0, 1) := by decide +kernel
theorem dX8_go_26 : decode cX8_go 26 = .ok (.getfield 7, 3) := by decide +kernel
theorem dX8_go_29 : decode cX8_go 29 = .ok (.aload_n 0, 1) := by decide +kernel
theorem dX8_go_30 : decode cX8_go 30 = .ok (.getfield 21, 3) := by decide +kernel
theorem dX8_go_33 : decode cX8_go 33 = .ok (.iaload, 1) := by decide +kernel
theorem dX8_go_34 : decode cX8_go 34 = .ok (.bipush 10, 2) := by decide +kernel
theorem dX8_go_36 : decode cX8_go 36 = .ok (.if_icmp .ne 16, 3) := by decide +kernel
theorem dX8_go_39 : decode cX8_go 39 = .ok (.aload_n 0, 1) := by decide +kernel
theorem dX8_go_40 : decode cX8_go 40 = .ok (.dup, 1) := by decide +kernel
theorem dX8_go_41 : decode cX8_go 41 = .ok (.getfield 21, 3) := by decide +kernel
theorem dX8_go_44 : decode cX8_go 44 = .ok (.iconst 1, 1) := by decide +kernel
theorem dX8_go_45 : decode cX8_go 45 = .ok (.iadd, 1) := by decide +kernel
theorem dX8_go_46 : decode cX8_go 46 = .ok (.putfield 21, 3) := by decide +kernel
theorem dX8_go_49 : decode cX8_go 49 = .ok (.goto (-49), 3) := by decide +kernel
theorem dX8_go_52 : decode cX8_go 52 = .ok (.aload_n 0, 1) := by decide +kernel
theorem dX8_go_53 : decode cX8_go 53 = .ok (.aload_n 0, 1) := by decide +kernel
theorem dX8_go_54 : decode cX8_go 54 = .ok (.getfield 21, 3) := by decide +kernel
theorem dX8_go_57 : decode cX8_go 57 = .ok (.putfield 24, 3) := by decide +kernel
theorem dX8_go_60 : decode cX8_go 60 = .ok (.aload_n 0, 1) := by decide +kernel
theorem dX8_go_61 : decode cX8_go 61 = .ok (.getfield 18, 3) := by decide +kernel
theorem dX8_go_64 : decode cX8_go 64 = .ok (.sipush 600, 3) := by decide +kernel
theorem dX8_go_67 : decode cX8_go 67 = .ok (.if_icmp .le 26, 3) := by decide +kernel
theorem dX8_go_70 : decode cX8_go 70 = .ok (.aload_n 0, 1) := by decide +kernel
theorem dX8_go_71 : decode cX8_go 71 = .ok (.getfield 24, 3) := by decide +kernel
theorem dX8_go_74 : decode cX8_go 74 = .ok (.sipush 600, 3) := by decide +kernel
theorem dX8_go_77 : decode cX8_go 77 = .ok (.if_icmp .lt 16, 3) := by decide +kernel
theorem dX8_go_80 : decode cX8_go 80 = .ok (.aload_n 0, 1) := by decide +kernel
theorem dX8_go_81 : decode cX8_go 81 = .ok (.sipush 600, 3) := by decide +kernel
theorem dX8_go_84 : decode cX8_go 84 = .ok (.putfield 24, 3) := by decide +kernel
theorem dX8_go_87 : decode cX8_go 87 = .ok (.aload_n 0, 1) := by decide +kernel
theorem dX8_go_88 : decode cX8_go 88 = .ok (.iconst 1, 1) := by decide +kernel
theorem dX8_go_89 : decode cX8_go 89 = .ok (.putfield 27, 3) := by decide +kernel
theorem dX8_go_92 : decode cX8_go 92 = .ok (.return_, 1) := by decide +kernel
theorem dX8_go_93 : decode cX8_go 93 = .ok (.aload_n 0, 1) := by decide +kernel
theorem dX8_go_94 : decode cX8_go 94 = .ok (.getfield 21, 3) := by decide +kernel
theorem dX8_go_97 : decode cX8_go 97 = .ok (.aload_n 0, 1) := by decide +kernel
theorem dX8_go_98 : decode cX8_go 98 = .ok (.getfield 18, 3) := by decide +kernel
theorem dX8_go_101 : decode cX8_go 101 = .ok (.if_icmp .lt 9, 3) := by decide +kernel
theorem dX8_go_104 : decode cX8_go 104 = .ok (.aload_n 0, 1) := by decide +kernel
theorem dX8_go_105 : decode cX8_go 105 = .ok (.iconst 0, 1) := by decide +kernel
theorem dX8_go_106 : decode cX8_go 106 = .ok (.putfield 27, 3) := by decide +kernel
theorem dX8_go_109 : decode cX8_go 109 = .ok (.return_, 1) := by decide +kernel
theorem dX8_go_110 : decode cX8_go 110 = .ok (.aload_n 0, 1) := by decide +kernel
theorem dX8_go_111 : decode cX8_go 111 = .ok (.getfield 7, 3) := by decide +kernel
theorem dX8_go_114 : decode cX8_go 114 = .ok (.aload_n 0, 1) := by decide +kernel
theorem dX8_go_115 : decode cX8_go 115 = .ok (.getfield 21, 3) := by decide +kernel
theorem dX8_go_118 : decode cX8_go 118 = .ok (.iaload, 1) := by decide +kernel
theorem dX8_go_119 : decode cX8_go 119 = .ok (.istore_n 1, 1) := by decide +kernel
theorem dX8_go_120 : decode cX8_go 120 = .ok (.iload_n 1, 1) := by decide +kernel
theorem dX8_go_121 : decode cX8_go 121 = .ok (.invokestatic 30, 3) := by decide +kernel
theorem dX8_go_124 : decode cX8_go 124 = .ok (.ifCond .ne 36, 3) := by decide +kernel
theorem dX8_go_127 : decode cX8_go 127 = .ok (.iload_n 1, 1) := by decide +kernel
theorem dX8_go_128 : decode cX8_go 128 = .ok (.invokestatic 34, 3) := by decide +kernel
theorem dX8_go_131 : decode cX8_go 131 = .ok (.ifCond .ne 29, 3) := by decide +kernel
theorem dX8_go_134 : decode cX8_go 134 = .ok (.aload_n 0, 1) := by decide +kernel
theorem dX8_go_135 : decode cX8_go 135 = .ok (.iload_n 1, 1) := by decide +kernel
theorem dX8_go_136 : decode cX8_go 136 = .ok (.bipush 59, 2) := by decide +kernel
theorem dX8_go_138 : decode cX8_go 138 = .ok (.if_icmp .ne 7, 3) := by decide +kernel
theorem dX8_go_141 : decode cX8_go 141 = .ok (.iconst 4, 1) := by decide +kernel
theorem dX8_go_142 : decode cX8_go 142 = .ok (.goto 4, 3) := by decide +kernel
theorem dX8_go_145 : decode cX8_go 145 = .ok (.iconst 1, 1) := by decide +kernel
theorem dX8_go_146 : decode cX8_go 146 = .ok (.putfield 27, 3) := by decide +kernel
theorem dX8_go_149 : decode cX8_go 149 = .ok (.aload_n 0, 1) := by decide +kernel
theorem dX8_go_150 : decode cX8_go 150 = .ok (.dup, 1) := by decide +kernel
theorem dX8_go_151 : decode cX8_go 151 = .ok (.getfield 21, 3) := by decide +kernel
theorem dX8_go_154 : decode cX8_go 154 = .ok (.iconst 1, 1) := by decide +kernel
theorem dX8_go_155 : decode cX8_go 155 = .ok (.iadd, 1) := by decide +kernel
theorem dX8_go_156 : decode cX8_go 156 = .ok (.putfield 21, 3) := by decide +kernel
theorem dX8_go_159 : decode cX8_go 159 = .ok (.return_, 1) := by decide +kernel
theorem dX8_go_160 : decode cX8_go 160 = .ok (.iload_n 1, 1) := by decide +kernel
theorem dX8_go_161 : decode cX8_go 161 = .ok (.invokestatic 30, 3) := by decide +kernel
theorem dX8_go_164 : decode cX8_go 164 = .ok (.istore_n 2, 1) := by decide +kernel
theorem dX8_go_165 : decode cX8_go 165 = .ok (.iconst 1, 1) := by decide +kernel
theorem dX8_go_166 : decode cX8_go 166 = .ok (.istore_n 3, 1) := by decide +kernel
theorem dX8_go_167 : decode cX8_go 167 = .ok (.aload_n 0, 1) := by decide +kernel
theorem dX8_go_168 : decode cX8_go 168 = .ok (.lconst 0, 1) := by decide +kernel
theorem dX8_go_169 : decode cX8_go 169 = .ok (.putfield 37, 3) := by decide +kernel
theorem dX8_go_172 : decode cX8_go 172 = .ok (.aload_n 0, 1) := by decide +kernel
theorem dX8_go_173 : decode cX8_go 173 = .ok (.iconst 0, 1) := by decide +kernel
theorem dX8_go_174 : decode cX8_go 174 = .ok (.putfield 41, 3) := by decide +kernel
theorem dX8_go_177 : decode cX8_go 177 = .ok (.aload_n 0, 1) := by decide +kernel
theorem dX8_go_178 : decode cX8_go 178 = .ok (.aload_n 0, 1) := by decide +kernel
theorem dX8_go_179 : decode cX8_go 179 = .ok (.getfield 21, 3) := by decide +kernel
theorem dX8_go_182 : decode cX8_go 182 = .ok (.invokevirtual 44, 3) := by decide +kernel
theorem dX8_go_185 : decode cX8_go 185 = .ok (.invokestatic 30, 3) := by decide +kernel
theorem dX8_go_188 : decode cX8_go 188 = .ok (.ifCond .ne 17, 3) := by decide +kernel
theorem dX8_go_191 : decode cX8_go 191 = .ok (.aload_n 0, 1) := by decide +kernel
theorem dX8_go_192 : decode cX8_go 192 = .ok (.aload_n 0, 1) := by decide +kernel
theorem dX8_go_193 : decode cX8_go 193 = .ok (.getfield 21, 3) := by decide +kernel
theorem dX8_go_196 : decode cX8_go 196 = .ok (.invokevirtual 44, 3) := by decide +kernel
theorem dX8_go_199 : decode cX8_go 199 = .ok (.invokestatic 34, 3) := by decide +kernel
theorem dX8_go_202 : decode cX8_go 202 = .ok (.ifCond .eq 110, 3) := by decide +kernel
theorem dX8_go_205 : decode cX8_go 205 = .ok (.aload_n 0, 1) := by decide +kernel
theorem dX8_go_206 : decode cX8_go 206 = .ok (.getfield 7, 3) := by decide +kernel
theorem dX8_go_209 : decode cX8_go 209 = .ok (.aload_n 0, 1) := by decide +kernel
theorem dX8_go_210 : decode cX8_go 210 = .ok (.getfield 21, 3) := by decide +kernel
theorem dX8_go_213 : decode cX8_go 213 = .ok (.iaload, 1) := by decide +kernel
theorem dX8_go_214 : decode cX8_go 214 = .ok (.istore 4, 2) := by decide +kernel
theorem dX8_go_216 : decode cX8_go 216 = .ok (.iload_n 3, 1) := by decide +kernel
theorem dX8_go_217 : decode cX8_go 217 = .ok (.ifCond .eq 16, 3) := by decide +kernel
theorem dX8_go_220 : decode cX8_go 220 = .ok (.iload 4, 2) := by decide +kernel
theorem dX8_go_222 : decode cX8_go 222 = .ok (.invokestatic 30, 3) := by decide +kernel
theorem dX8_go_225 : decode cX8_go 225 = .ok (.iload_n 2, 1) := by decide +kernel
theorem dX8_go_226 : decode cX8_go 226 = .ok (.if_icmp .ne 7, 3) := by decide +kernel
theorem dX8_go_229 : decode cX8_go 229 = .ok (.iconst 1, 1) := by decide +kernel
theorem dX8_go_230 : decode cX8_go 230 = .ok (.goto 4, 3) := by decide +kernel
theorem dX8_go_233 : decode cX8_go 233 = .ok (.iconst 0, 1) := by decide +kernel
theorem dX8_go_234 : decode cX8_go 234 = .ok (.istore_n 3, 1) := by decide +kernel
theorem dX8_go_235 : decode cX8_go 235 = .ok (.aload_n 0, 1) := by decide +kernel
theorem dX8_go_236 : decode cX8_go 236 = .ok (.getfield 21, 3) := by decide +kernel
theorem dX8_go_239 : decode cX8_go 239 = .ok (.aload_n 0, 1) := by decide +kernel
theorem dX8_go_240 : decode cX8_go 240 = .ok (.getfield 24, 3) := by decide +kernel
theorem dX8_go_243 : decode cX8_go 243 = .ok (.isub, 1) := by decide +kernel
theorem dX8_go_244 : decode cX8_go 244 = .ok (.bipush 10, 2) := by decide +kernel
theorem dX8_go_246 : decode cX8_go 246 = .ok (.if_icmp .ge 23, 3) := by decide +kernel
theorem dX8_go_249 : decode cX8_go 249 = .ok (.aload_n 0, 1) := by decide +kernel
theorem dX8_go_250 : decode cX8_go 250 = .ok (.ldc2_w 48, 3) := by decide +kernel
theorem dX8_go_253 : decode cX8_go 253 = .ok (.aload_n 0, 1) := by decide +kernel
theorem dX8_go_254 : decode cX8_go 254 = .ok (.getfield 37, 3) := by decide +kernel
theorem dX8_go_257 : decode cX8_go 257 = .ok (.lmul, 1) := by decide +kernel
theorem dX8_go_258 : decode cX8_go 258 = .ok (.iload 4, 2) := by decide +kernel
theorem dX8_go_260 : decode cX8_go 260 = .ok (.i2l, 1) := by decide +kernel
theorem dX8_go_261 : decode cX8_go 261 = .ok (.ladd, 1) := by decide +kernel
theorem dX8_go_262 : decode cX8_go 262 = .ok (.ldc2_w 50, 3) := by decide +kernel
theorem dX8_go_265 : decode cX8_go 265 = .ok (.lsub, 1) := by decide +kernel
theorem dX8_go_266 : decode cX8_go 266 = .ok (.putfield 37, 3) := by decide +kernel
theorem dX8_go_269 : decode cX8_go 269 = .ok (.aload_n 0, 1) := by decide +kernel
theorem dX8_go_270 : decode cX8_go 270 = .ok (.getfield 21, 3) := by decide +kernel
theorem dX8_go_273 : decode cX8_go 273 = .ok (.aload_n 0, 1) := by decide +kernel
theorem dX8_go_274 : decode cX8_go 274 = .ok (.getfield 24, 3) := by decide +kernel
theorem dX8_go_277 : decode cX8_go 277 = .ok (.isub, 1) := by decide +kernel
theorem dX8_go_278 : decode cX8_go 278 = .ok (.iconst 3, 1) := by decide +kernel
theorem dX8_go_279 : decode cX8_go 279 = .ok (.if_icmp .ge 20, 3) := by decide +kernel
theorem dX8_go_282 : decode cX8_go 282 = .ok (.aload_n 0, 1) := by decide +kernel
theorem dX8_go_283 : decode cX8_go 283 = .ok (.bipush 10, 2) := by decide +kernel
theorem dX8_go_285 : decode cX8_go 285 = .ok (.aload_n 0, 1) := by decide +kernel
theorem dX8_go_286 : decode cX8_go 286 = .ok (.getfield 41, 3) := by decide +kernel
theorem dX8_go_289 : decode cX8_go 289 = .ok (.imul, 1) := by decide +kernel
theorem dX8_go_290 : decode cX8_go 290 = .ok (.iload 4, 2) := by decide +kernel
theorem dX8_go_292 : decode cX8_go 292 = .ok (.iadd, 1) := by decide +kernel
theorem dX8_go_293 : decode cX8_go 293 = .ok (.bipush 48, 2) := by decide +kernel
theorem dX8_go_295 : decode cX8_go 295 = .ok (.isub, 1) := by decide +kernel
theorem dX8_go_296 : decode cX8_go 296 = .ok (.putfield 41, 3) := by decide +kernel
theorem dX8_go_299 : decode cX8_go 299 = .ok (.aload_n 0, 1) := by decide +kernel
theorem dX8_go_300 : decode cX8_go 300 = .ok (.dup, 1) := by decide +kernel
theorem dX8_go_301 : decode cX8_go 301 = .ok (.getfield 21, 3) := by decide +kernel
theorem dX8_go_304 : decode cX8_go 304 = .ok (.iconst 1, 1) := by decide +kernel
theorem dX8_go_305 : decode cX8_go 305 = .ok (.iadd, 1) := by decide +kernel
theorem dX8_go_306 : decode cX8_go 306 = .ok (.putfield 21, 3) := by decide +kernel
theorem dX8_go_309 : decode cX8_go 309 = .ok (.goto (-132), 3) := by decide +kernel
theorem dX8_go_312 : decode cX8_go 312 = .ok (.aload_n 0, 1) := by decide +kernel
theorem dX8_go_313 : decode cX8_go 313 = .ok (.iload_n 3, 1) := by decide +kernel
theorem dX8_go_314 : decode cX8_go 314 = .ok (.ifCond .eq 20, 3) := by decide +kernel
theorem dX8_go_317 : decode cX8_go 317 = .ok (.iload_n 2, 1) := by decide +kernel
theorem dX8_go_318 : decode cX8_go 318 = .ok (.ifCond .ne 20, 3) := by decide +kernel
theorem dX8_go_321 : decode cX8_go 321 = .ok (.aload_n 0, 1) := by decide +kernel
theorem dX8_go_322 : decode cX8_go 322 = .ok (.getfield 21, 3) := by decide +kernel
theorem dX8_go_325 : decode cX8_go 325 = .ok (.aload_n 0, 1) := by decide +kernel
theorem dX8_go_326 : decode cX8_go 326 = .ok (.getfield 24, 3) := by decide +kernel
theorem dX8_go_329 : decode cX8_go 329 = .ok (.isub, 1) := by decide +kernel
theorem dX8_go_330 : decode cX8_go 330 = .ok (.iconst 3, 1) := by decide +kernel
theorem dX8_go_331 : decode cX8_go 331 = .ok (.if_icmp .le 7, 3) := by decide +kernel
theorem dX8_go_334 : decode cX8_go 334 = .ok (.iconst 1, 1) := by decide +kernel
theorem dX8_go_335 : decode cX8_go 335 = .ok (.goto 12, 3) := by decide +kernel
theorem dX8_go_338 : decode cX8_go 338 = .ok (.iload_n 2, 1) := by decide +kernel
theorem dX8_go_339 : decode cX8_go 339 = .ok (.ifCond .eq 7, 3) := by decide +kernel
theorem dX8_go_342 : decode cX8_go 342 = .ok (.iconst 2, 1) := by decide +kernel
theorem dX8_go_343 : decode cX8_go 343 = .ok (.goto 4, 3) := by decide +kernel
theorem dX8_go_346 : decode cX8_go 346 = .ok (.iconst 3, 1) := by decide +kernel
theorem dX8_go_347 : decode cX8_go 347 = .ok (.putfield 27, 3) := by decide +kernel
theorem dX8_go_350 : decode cX8_go 350 = .ok (.return_, 1) := by decide +kernel
theorem dX8_two_0 : decode cX8_two 0 = .ok (.ldc2_w 48, 3) := by decide +kernel
theorem dX8_two_3 : decode cX8_two 3 = .ok (.iload_n 0, 1) := by decide +kernel
theorem dX8_two_4 : decode cX8_two 4 = .ok (.i2l, 1) := by decide +kernel
theorem dX8_two_5 : decode cX8_two 5 = .ok (.ldc2_w 50, 3) := by decide +kernel
theorem dX8_two_8 : decode cX8_two 8 = .ok (.lsub, 1) := by decide +kernel
theorem dX8_two_9 : decode cX8_two 9 = .ok (.lmul, 1) := by decide +kernel
theorem dX8_two_10 : decode cX8_two 10 = .ok (.iload_n 1, 1) := by decide +kernel
theorem dX8_two_11 : decode cX8_two 11 = .ok (.i2l, 1) := by decide +kernel
theorem dX8_two_12 : decode cX8_two 12 = .ok (.ladd, 1) := by decide +kernel
theorem dX8_two_13 : decode cX8_two 13 = .ok (.ldc2_w 50, 3) := by decide +kernel
theorem dX8_two_16 : decode cX8_two 16 = .ok (.lsub, 1) := by decide +kernel
theorem dX8_two_17 : decode cX8_two 17 = .ok (.lreturn, 1) := by decide +kernel
theorem dX8_four_0 : decode cX8_four 0 = .ok (.ldc2_w 52, 3) := by decide +kernel
theorem dX8_four_3 : decode cX8_four 3 = .ok (.iload_n 0, 1) := by decide +kernel
theorem dX8_four_4 : decode cX8_four 4 = .ok (.iload_n 1, 1) := by decide +kernel
theorem dX8_four_5 : decode cX8_four 5 = .ok (.invokestatic 54, 3) := by decide +kernel
theorem dX8_four_8 : decode cX8_four 8 = .ok (.lmul, 1) := by decide +kernel
theorem dX8_four_9 : decode cX8_four 9 = .ok (.iload_n 2, 1) := by decide +kernel
theorem dX8_four_10 : decode cX8_four 10 = .ok (.iload_n 3, 1) := by decide +kernel
theorem dX8_four_11 : decode cX8_four 11 = .ok (.invokestatic 54, 3) := by decide +kernel
theorem dX8_four_14 : decode cX8_four 14 = .ok (.ladd, 1) := by decide +kernel
theorem dX8_four_15 : decode cX8_four 15 = .ok (.lreturn, 1) := by decide +kernel
theorem dX8_six_0 : decode cX8_six 0 = .ok (.ldc2_w 52, 3) := by decide +kernel
theorem dX8_six_3 : decode cX8_six 3 = .ok (.iload_n 0, 1) := by decide +kernel
theorem dX8_six_4 : decode cX8_six 4 = .ok (.iload_n 1, 1) := by decide +kernel
theorem dX8_six_5 : decode cX8_six 5 = .ok (.iload_n 2, 1) := by decide +kernel
theorem dX8_six_6 : decode cX8_six 6 = .ok (.iload_n 3, 1) := by decide +kernel
theorem dX8_six_7 : decode cX8_six 7 = .ok (.invokestatic 58, 3) := by decide +kernel
