theorem dX8_worst_46 : decode cX8_worst 46 = .ok (.if_icmp .eq 30, 3) := by decide +kernel
theorem dX8_worst_49 : decode cX8_worst 49 = .ok (.iload 4, 2) := by decide +kernel
theorem dX8_worst_51 : decode cX8_worst 51 = .ok (.iconst (-1), 1) := by decide +kernel
theorem dX8_worst_52 : decode cX8_worst 52 = .ok (.if_icmp .eq 20, 3) := by decide +kernel
theorem dX8_worst_55 : decode cX8_worst 55 = .ok (.aload_n 0, 1) := by decide +kernel
theorem dX8_worst_56 : decode cX8_worst 56 = .ok (.iload_n 1, 1) := by decide +kernel
theorem dX8_worst_57 : decode cX8_worst 57 = .ok (.iload 5, 2) := by decide +kernel
theorem dX8_worst_59 : decode cX8_worst 59 = .ok (.invokevirtual 191, 3) := by decide +kernel
theorem dX8_worst_62 : decode cX8_worst 62 = .ok (.aload_n 0, 1) := by decide +kernel
theorem dX8_worst_63 : decode cX8_worst 63 = .ok (.iload_n 1, 1) := by decide +kernel
theorem dX8_worst_64 : decode cX8_worst 64 = .ok (.iload 4, 2) := by decide +kernel
theorem dX8_worst_66 : decode cX8_worst 66 = .ok (.invokevirtual 191, 3) := by decide +kernel
theorem dX8_worst_69 : decode cX8_worst 69 = .ok (.if_icmp .le 7, 3) := by decide +kernel
theorem dX8_worst_72 : decode cX8_worst 72 = .ok (.iload 5, 2) := by decide +kernel
theorem dX8_worst_74 : decode cX8_worst 74 = .ok (.istore 4, 2) := by decide +kernel
theorem dX8_worst_76 : decode cX8_worst 76 = .ok (.iinc 5 1, 3) := by decide +kernel
theorem dX8_worst_79 : decode cX8_worst 79 = .ok (.goto (-47), 3) := by decide +kernel
theorem dX8_worst_82 : decode cX8_worst 82 = .ok (.iload 4, 2) := by decide +kernel
theorem dX8_worst_84 : decode cX8_worst 84 = .ok (.ireturn, 1) := by decide +kernel
theorem dX8_forecast_0 : decode cX8_forecast 0 = .ok (.aload_n 0, 1) := by decide +kernel
theorem dX8_forecast_1 : decode cX8_forecast 1 = .ok (.iload_n 1, 1) := by decide +kernel
theorem dX8_forecast_2 : decode cX8_forecast 2 = .ok (.iload_n 2, 1) := by decide +kernel
theorem dX8_forecast_3 : decode cX8_forecast 3 = .ok (.iload_n 3, 1) := by decide +kernel
theorem dX8_forecast_4 : decode cX8_forecast 4 = .ok (.invokevirtual 188, 3) := by decide +kernel
theorem dX8_forecast_7 : decode cX8_forecast 7 = .ok (.ifCond .ne 5, 3) := by decide +kernel
theorem dX8_forecast_10 : decode cX8_forecast 10 = .ok (.iconst (-1), 1) := by decide +kernel
theorem dX8_forecast_11 : decode cX8_forecast 11 = .ok (.ireturn, 1) := by decide +kernel
theorem dX8_forecast_12 : decode cX8_forecast 12 = .ok (.iconst 0, 1) := by decide +kernel
theorem dX8_forecast_13 : decode cX8_forecast 13 = .ok (.istore 4, 2) := by decide +kernel
theorem dX8_forecast_15 : decode cX8_forecast 15 = .ok (.fconst 0, 1) := by decide +kernel
theorem dX8_forecast_16 : decode cX8_forecast 16 = .ok (.fstore 5, 2) := by decide +kernel
theorem dX8_forecast_18 : decode cX8_forecast 18 = .ok (.aload_n 0, 1) := by decide +kernel
theorem dX8_forecast_19 : decode cX8_forecast 19 = .ok (.getfield 74, 3) := by decide +kernel
theorem dX8_forecast_22 : decode cX8_forecast 22 = .ok (.iconst 3, 1) := by decide +kernel
theorem dX8_forecast_23 : decode cX8_forecast 23 = .ok (.iaload, 1) := by decide +kernel
theorem dX8_forecast_24 : decode cX8_forecast 24 = .ok (.i2f, 1) := by decide +kernel
theorem dX8_forecast_25 : decode cX8_forecast 25 = .ok (.ldc 197, 2) := by decide +kernel
theorem dX8_forecast_27 : decode cX8_forecast 27 = .ok (.fdiv, 1) := by decide +kernel
theorem dX8_forecast_28 : decode cX8_forecast 28 = .ok (.fstore 6, 2) := by decide +kernel
theorem dX8_forecast_30 : decode cX8_forecast 30 = .ok (.iconst 0, 1) := by decide +kernel
theorem dX8_forecast_31 : decode cX8_forecast 31 = .ok (.istore 7, 2) := by decide +kernel
theorem dX8_forecast_33 : decode cX8_forecast 33 = .ok (.iload 7, 2) := by decide +kernel
theorem dX8_forecast_35 : decode cX8_forecast 35 = .ok (.iload_n 3, 1) := by decide +kernel
theorem dX8_forecast_36 : decode cX8_forecast 36 = .ok (.if_icmp .gt 56, 3) := by decide +kernel
theorem dX8_forecast_39 : decode cX8_forecast 39 = .ok (.aload_n 0, 1) := by decide +kernel
theorem dX8_forecast_40 : decode cX8_forecast 40 = .ok (.iload_n 1, 1) := by decide +kernel
theorem dX8_forecast_41 : decode cX8_forecast 41 = .ok (.iload_n 2, 1) := by decide +kernel
theorem dX8_forecast_42 : decode cX8_forecast 42 = .ok (.iload 7, 2) := by decide +kernel
theorem dX8_forecast_44 : decode cX8_forecast 44 = .ok (.invokevirtual 169, 3) := by decide +kernel
theorem dX8_forecast_47 : decode cX8_forecast 47 = .ok (.istore 8, 2) := by decide +kernel
theorem dX8_forecast_49 : decode cX8_forecast 49 = .ok (.iload 8, 2) := by decide +kernel
theorem dX8_forecast_51 : decode cX8_forecast 51 = .ok (.iconst (-1), 1) := by decide +kernel
theorem dX8_forecast_52 : decode cX8_forecast 52 = .ok (.if_icmp .ne 6, 3) := by decide +kernel
theorem dX8_forecast_55 : decode cX8_forecast 55 = .ok (.goto 31, 3) := by decide +kernel
theorem dX8_forecast_58 : decode cX8_forecast 58 = .ok (.iload 4, 2) := by decide +kernel
theorem dX8_forecast_60 : decode cX8_forecast 60 = .ok (.ifCond .eq 18, 3) := by decide +kernel
theorem dX8_forecast_63 : decode cX8_forecast 63 = .ok (.fload 5, 2) := by decide +kernel
theorem dX8_forecast_65 : decode cX8_forecast 65 = .ok (.fload 6, 2) := by decide +kernel
theorem dX8_forecast_67 : decode cX8_forecast 67 = .ok (.iload 8, 2) := by decide +kernel
theorem dX8_forecast_69 : decode cX8_forecast 69 = .ok (.i2f, 1) := by decide +kernel
theorem dX8_forecast_70 : decode cX8_forecast 70 = .ok (.fload 5, 2) := by decide +kernel
theorem dX8_forecast_72 : decode cX8_forecast 72 = .ok (.fsub, 1) := by decide +kernel
theorem dX8_forecast_73 : decode cX8_forecast 73 = .ok (.fmul, 1) := by decide +kernel
theorem dX8_forecast_74 : decode cX8_forecast 74 = .ok (.fadd, 1) := by decide +kernel
theorem dX8_forecast_75 : decode cX8_forecast 75 = .ok (.goto 6, 3) := by decide +kernel
theorem dX8_forecast_78 : decode cX8_forecast 78 = .ok (.iload 8, 2) := by decide +kernel
theorem dX8_forecast_80 : decode cX8_forecast 80 = .ok (.i2f, 1) := by decide +kernel
theorem dX8_forecast_81 : decode cX8_forecast 81 = .ok (.fstore 5, 2) := by decide +kernel
theorem dX8_forecast_83 : decode cX8_forecast 83 = .ok (.iconst 1, 1) := by decide +kernel
theorem dX8_forecast_84 : decode cX8_forecast 84 = .ok (.istore 4, 2) := by decide +kernel
theorem dX8_forecast_86 : decode cX8_forecast 86 = .ok (.iinc 7 1, 3) := by decide +kernel
theorem dX8_forecast_89 : decode cX8_forecast 89 = .ok (.goto (-56), 3) := by decide +kernel
theorem dX8_forecast_92 : decode cX8_forecast 92 = .ok (.iload 4, 2) := by decide +kernel
theorem dX8_forecast_94 : decode cX8_forecast 94 = .ok (.ifCond .eq 9, 3) := by decide +kernel
theorem dX8_forecast_97 : decode cX8_forecast 97 = .ok (.fload 5, 2) := by decide +kernel
theorem dX8_forecast_99 : decode cX8_forecast 99 = .ok (.f2i, 1) := by decide +kernel
theorem dX8_forecast_100 : decode cX8_forecast 100 = .ok (.goto 4, 3) := by decide +kernel
theorem dX8_forecast_103 : decode cX8_forecast 103 = .ok (.iconst (-1), 1) := by decide +kernel
theorem dX8_forecast_104 : decode cX8_forecast 104 = .ok (.ireturn, 1) := by decide +kernel
theorem dX8_keeps_0 : decode cX8_keeps 0 = .ok (.aload_n 0, 1) := by decide +kernel
theorem dX8_keeps_1 : decode cX8_keeps 1 = .ok (.getfield 74, 3) := by decide +kernel
theorem dX8_keeps_4 : decode cX8_keeps 4 = .ok (.iconst 0, 1) := by decide +kernel
theorem dX8_keeps_5 : decode cX8_keeps 5 = .ok (.iaload, 1) := by decide +kernel
theorem dX8_keeps_6 : decode cX8_keeps 6 = .ok (.iconst 1, 1) := by decide +kernel
theorem dX8_keeps_7 : decode cX8_keeps 7 = .ok (.isub, 1) := by decide +kernel
theorem dX8_keeps_8 : decode cX8_keeps 8 = .ok (.istore 4, 2) := by decide +kernel
theorem dX8_keeps_10 : decode cX8_keeps 10 = .ok (.aload_n 0, 1) := by decide +kernel
theorem dX8_keeps_11 : decode cX8_keeps 11 = .ok (.iload_n 1, 1) := by decide +kernel
theorem dX8_keeps_12 : decode cX8_keeps 12 = .ok (.iload_n 2, 1) := by decide +kernel
theorem dX8_keeps_13 : decode cX8_keeps 13 = .ok (.iload 4, 2) := by decide +kernel
theorem dX8_keeps_15 : decode cX8_keeps 15 = .ok (.invokevirtual 188, 3) := by decide +kernel
theorem dX8_keeps_18 : decode cX8_keeps 18 = .ok (.ifCond .eq 12, 3) := by decide +kernel
theorem dX8_keeps_21 : decode cX8_keeps 21 = .ok (.iload_n 3, 1) := by decide +kernel
theorem dX8_keeps_22 : decode cX8_keeps 22 = .ok (.iconst 0, 1) := by decide +kernel
theorem dX8_keeps_23 : decode cX8_keeps 23 = .ok (.iconst 2, 1) := by decide +kernel
theorem dX8_keeps_24 : decode cX8_keeps 24 = .ok (.invokestatic 89, 3) := by decide +kernel
theorem dX8_keeps_27 : decode cX8_keeps 27 = .ok (.ifCond .ne 5, 3) := by decide +kernel
theorem dX8_keeps_30 : decode cX8_keeps 30 = .ok (.iconst (-1), 1) := by decide +kernel
theorem dX8_keeps_31 : decode cX8_keeps 31 = .ok (.ireturn, 1) := by decide +kernel
theorem dX8_keeps_32 : decode cX8_keeps 32 = .ok (.iload_n 1, 1) := by decide +kernel
theorem dX8_keeps_33 : decode cX8_keeps 33 = .ok (.iload_n 2, 1) := by decide +kernel
theorem dX8_keeps_34 : decode cX8_keeps 34 = .ok (.iload 4, 2) := by decide +kernel
theorem dX8_keeps_36 : decode cX8_keeps 36 = .ok (.invokestatic 132, 3) := by decide +kernel
theorem dX8_keeps_39 : decode cX8_keeps 39 = .ok (.istore 5, 2) := by decide +kernel
theorem dX8_keeps_41 : decode cX8_keeps 41 = .ok (.aload_n 0, 1) := by decide +kernel
theorem dX8_keeps_42 : decode cX8_keeps 42 = .ok (.getfield 74, 3) := by decide +kernel
theorem dX8_keeps_45 : decode cX8_keeps 45 = .ok (.iload 5, 2) := by decide +kernel
theorem dX8_keeps_47 : decode cX8_keeps 47 = .ok (.iaload, 1) := by decide +kernel
theorem dX8_keeps_48 : decode cX8_keeps 48 = .ok (.istore 6, 2) := by decide +kernel
theorem dX8_keeps_50 : decode cX8_keeps 50 = .ok (.bipush (-2), 2) := by decide +kernel
theorem dX8_keeps_52 : decode cX8_keeps 52 = .ok (.istore 7, 2) := by decide +kernel
theorem dX8_keeps_54 : decode cX8_keeps 54 = .ok (.sipush 999, 3) := by decide +kernel
theorem dX8_keeps_57 : decode cX8_keeps 57 = .ok (.istore 8, 2) := by decide +kernel
theorem dX8_keeps_59 : decode cX8_keeps 59 = .ok (.iload 8, 2) := by decide +kernel
theorem dX8_keeps_61 : decode cX8_keeps 61 = .ok (.ifCond .lt 59, 3) := by decide +kernel
theorem dX8_keeps_64 : decode cX8_keeps 64 = .ok (.iload 7, 2) := by decide +kernel
theorem dX8_keeps_66 : decode cX8_keeps 66 = .ok (.bipush (-2), 2) := by decide +kernel
theorem dX8_keeps_68 : decode cX8_keeps 68 = .ok (.if_icmp .ne 52, 3) := by decide +kernel
theorem dX8_keeps_71 : decode cX8_keeps 71 = .ok (.aload_n 0, 1) := by decide +kernel
theorem dX8_keeps_72 : decode cX8_keeps 72 = .ok (.getfield 74, 3) := by decide +kernel
theorem dX8_keeps_75 : decode cX8_keeps 75 = .ok (.iload 5, 2) := by decide +kernel
theorem dX8_keeps_77 : decode cX8_keeps 77 = .ok (.iload 8, 2) := by decide +kernel
theorem dX8_keeps_79 : decode cX8_keeps 79 = .ok (.iconst 1, 1) := by decide +kernel
theorem dX8_keeps_80 : decode cX8_keeps 80 = .ok (.iadd, 1) := by decide +kernel
theorem dX8_keeps_81 : decode cX8_keeps 81 = .ok (.iastore, 1) := by decide +kernel
theorem dX8_keeps_82 : decode cX8_keeps 82 = .ok (.aload_n 0, 1) := by decide +kernel
theorem dX8_keeps_83 : decode cX8_keeps 83 = .ok (.iload_n 1, 1) := by decide +kernel
theorem dX8_keeps_84 : decode cX8_keeps 84 = .ok (.iload 4, 2) := by decide +kernel
theorem dX8_keeps_86 : decode cX8_keeps 86 = .ok (.invokevirtual 191, 3) := by decide +kernel
theorem dX8_keeps_89 : decode cX8_keeps 89 = .ok (.istore 9, 2) := by decide +kernel
theorem dX8_keeps_91 : decode cX8_keeps 91 = .ok (.iload 9, 2) := by decide +kernel
theorem dX8_keeps_93 : decode cX8_keeps 93 = .ok (.iconst (-1), 1) := by decide +kernel
theorem dX8_keeps_94 : decode cX8_keeps 94 = .ok (.if_icmp .eq 20, 3) := by decide +kernel
theorem dX8_keeps_97 : decode cX8_keeps 97 = .ok (.iload 9, 2) := by decide +kernel
theorem dX8_keeps_99 : decode cX8_keeps 99 = .ok (.aload_n 0, 1) := by decide +kernel
theorem dX8_keeps_100 : decode cX8_keeps 100 = .ok (.getfield 74, 3) := by decide +kernel
theorem dX8_keeps_103 : decode cX8_keeps 103 = .ok (.iconst 4, 1) := by decide +kernel
theorem dX8_keeps_104 : decode cX8_keeps 104 = .ok (.iload_n 3, 1) := by decide +kernel
theorem dX8_keeps_105 : decode cX8_keeps 105 = .ok (.iadd, 1) := by decide +kernel
theorem dX8_keeps_106 : decode cX8_keeps 106 = .ok (.iaload, 1) := by decide +kernel
theorem dX8_keeps_107 : decode cX8_keeps 107 = .ok (.if_icmp .ge 7, 3) := by decide +kernel
theorem dX8_keeps_110 : decode cX8_keeps 110 = .ok (.iload 8, 2) := by decide +kernel
theorem dX8_keeps_112 : decode cX8_keeps 112 = .ok (.istore 7, 2) := by decide +kernel
theorem dX8_keeps_114 : decode cX8_keeps 114 = .ok (.iinc 8 (-1), 3) := by decide +kernel
theorem dX8_keeps_117 : decode cX8_keeps 117 = .ok (.goto (-58), 3) := by decide +kernel
theorem dX8_keeps_120 : decode cX8_keeps 120 = .ok (.aload_n 0, 1) := by decide +kernel
theorem dX8_keeps_121 : decode cX8_keeps 121 = .ok (.getfield 74, 3) := by decide +kernel
theorem dX8_keeps_124 : decode cX8_keeps 124 = .ok (.iload 5, 2) := by decide +kernel
theorem dX8_keeps_126 : decode cX8_keeps 126 = .ok (.iload 6, 2) := by decide +kernel
theorem dX8_keeps_128 : decode cX8_keeps 128 = .ok (.iastore, 1) := by decide +kernel
theorem dX8_keeps_129 : decode cX8_keeps 129 = .ok (.iload 7, 2) := by decide +kernel
theorem dX8_keeps_131 : decode cX8_keeps 131 = .ok (.ireturn, 1) := by decide +kernel
theorem dX8_canCorrect_0 : decode cX8_canCorrect 0 = .ok (.aload_n 0, 1) := by decide +kernel
theorem dX8_canCorrect_1 : decode cX8_canCorrect 1 = .ok (.iload_n 1, 1) := by decide +kernel
theorem dX8_canCorrect_2 : decode cX8_canCorrect 2 = .ok (.iload_n 2, 1) := by decide +kernel
theorem dX8_canCorrect_3 : decode cX8_canCorrect 3 = .ok (.iload_n 3, 1) := by decide +kernel
theorem dX8_canCorrect_4 : decode cX8_canCorrect 4 = .ok (.invokevirtual 188, 3) := by decide +kernel
theorem dX8_canCorrect_7 : decode cX8_canCorrect 7 = .ok (.ifCond .eq 19, 3) := by decide +kernel
theorem dX8_canCorrect_10 : decode cX8_canCorrect 10 = .ok (.iload 4, 2) := by decide +kernel
theorem dX8_canCorrect_12 : decode cX8_canCorrect 12 = .ok (.iconst (-1), 1) := by decide +kernel
theorem dX8_canCorrect_13 : decode cX8_canCorrect 13 = .ok (.sipush 999, 3) := by decide +kernel
theorem dX8_canCorrect_16 : decode cX8_canCorrect 16 = .ok (.invokestatic 89, 3) := by decide +kernel
theorem dX8_canCorrect_19 : decode cX8_canCorrect 19 = .ok (.ifCond .eq 7, 3) := by decide +kernel
theorem dX8_canCorrect_22 : decode cX8_canCorrect 22 = .ok (.iconst 1, 1) := by decide +kernel
theorem dX8_canCorrect_23 : decode cX8_canCorrect 23 = .ok (.goto 4, 3) := by decide +kernel
theorem dX8_canCorrect_26 : decode cX8_canCorrect 26 = .ok (.iconst 0, 1) := by decide +kernel
theorem dX8_canCorrect_27 : decode cX8_canCorrect 27 = .ok (.ireturn, 1) := by decide +kernel
theorem dX8_corrects_0 : decode cX8_corrects 0 = .ok (.iconst 0, 1) := by decide +kernel
theorem dX8_corrects_1 : decode cX8_corrects 1 = .ok (.istore 5, 2) := by decide +kernel
theorem dX8_corrects_3 : decode cX8_corrects 3 = .ok (.iload 5, 2) := by decide +kernel
theorem dX8_corrects_5 : decode cX8_corrects 5 = .ok (.aload_n 0, 1) := by decide +kernel
theorem dX8_corrects_6 : decode cX8_corrects 6 = .ok (.getfield 74, 3) := by decide +kernel
theorem dX8_corrects_9 : decode cX8_corrects 9 = .ok (.iconst 0, 1) := by decide +kernel
theorem dX8_corrects_10 : decode cX8_corrects 10 = .ok (.iaload, 1) := by decide +kernel
theorem dX8_corrects_11 : decode cX8_corrects 11 = .ok (.if_icmp .ge 23, 3) := by decide +kernel
theorem dX8_corrects_14 : decode cX8_corrects 14 = .ok (.aload_n 0, 1) := by decide +kernel
theorem dX8_corrects_15 : decode cX8_corrects 15 = .ok (.getfield 83, 3) := by decide +kernel
theorem dX8_corrects_18 : decode cX8_corrects 18 = .ok (.iload 5, 2) := by decide +kernel
theorem dX8_corrects_20 : decode cX8_corrects 20 = .ok (.aload_n 0, 1) := by decide +kernel
theorem dX8_corrects_21 : decode cX8_corrects 21 = .ok (.iload_n 1, 1) := by decide +kernel
theorem dX8_corrects_22 : decode cX8_corrects 22 = .ok (.iload 5, 2) := by decide +kernel
theorem dX8_corrects_24 : decode cX8_corrects 24 = .ok (.invokevirtual 191, 3) := by decide +kernel
theorem dX8_corrects_27 : decode cX8_corrects 27 = .ok (.iastore, 1) := by decide +kernel
theorem dX8_corrects_28 : decode cX8_corrects 28 = .ok (.iinc 5 1, 3) := by decide +kernel
theorem dX8_corrects_31 : decode cX8_corrects 31 = .ok (.goto (-28), 3) := by decide +kernel
theorem dX8_corrects_34 : decode cX8_corrects 34 = .ok (.aload_n 0, 1) := by decide +kernel
theorem dX8_corrects_35 : decode cX8_corrects 35 = .ok (.getfield 74, 3) := by decide +kernel
theorem dX8_corrects_38 : decode cX8_corrects 38 = .ok (.iload_n 1, 1) := by decide +kernel
theorem dX8_corrects_39 : decode cX8_corrects 39 = .ok (.iload_n 2, 1) := by decide +kernel
theorem dX8_corrects_40 : decode cX8_corrects 40 = .ok (.iload_n 3, 1) := by decide +kernel
theorem dX8_corrects_41 : decode cX8_corrects 41 = .ok (.invokestatic 132, 3) := by decide +kernel
theorem dX8_corrects_44 : decode cX8_corrects 44 = .ok (.iload 4, 2) := by decide +kernel
theorem dX8_corrects_46 : decode cX8_corrects 46 = .ok (.iconst 1, 1) := by decide +kernel
theorem dX8_corrects_47 : decode cX8_corrects 47 = .ok (.iadd, 1) := by decide +kernel
theorem dX8_corrects_48 : decode cX8_corrects 48 = .ok (.iastore, 1) := by decide +kernel
theorem dX8_corrects_49 : decode cX8_corrects 49 = .ok (.iconst 0, 1) := by decide +kernel
theorem dX8_corrects_50 : decode cX8_corrects 50 = .ok (.istore 5, 2) := by decide +kernel
theorem dX8_corrects_52 : decode cX8_corrects 52 = .ok (.iload_n 3, 1) := by decide +kernel
theorem dX8_corrects_53 : decode cX8_corrects 53 = .ok (.istore 6, 2) := by decide +kernel
theorem dX8_corrects_55 : decode cX8_corrects 55 = .ok (.iload 6, 2) := by decide +kernel
theorem dX8_corrects_57 : decode cX8_corrects 57 = .ok (.aload_n 0, 1) := by decide +kernel
theorem dX8_corrects_58 : decode cX8_corrects 58 = .ok (.getfield 74, 3) := by decide +kernel
theorem dX8_corrects_61 : decode cX8_corrects 61 = .ok (.iconst 0, 1) := by decide +kernel
theorem dX8_corrects_62 : decode cX8_corrects 62 = .ok (.iaload, 1) := by decide +kernel
theorem dX8_corrects_63 : decode cX8_corrects 63 = .ok (.if_icmp .ge 46, 3) := by decide +kernel
theorem dX8_corrects_66 : decode cX8_corrects 66 = .ok (.iload 6, 2) := by decide +kernel
theorem dX8_corrects_68 : decode cX8_corrects 68 = .ok (.iload_n 3, 1) := by decide +kernel
theorem dX8_corrects_69 : decode cX8_corrects 69 = .ok (.bipush 12, 2) := by decide +kernel
theorem dX8_corrects_71 : decode cX8_corrects 71 = .ok (.iadd, 1) := by decide +kernel
theorem dX8_corrects_72 : decode cX8_corrects 72 = .ok (.if_icmp .ge 37, 3) := by decide +kernel
theorem dX8_corrects_75 : decode cX8_corrects 75 = .ok (.aload_n 0, 1) := by decide +kernel
theorem dX8_corrects_76 : decode cX8_corrects 76 = .ok (.iload_n 1, 1) := by decide +kernel
theorem dX8_corrects_77 : decode cX8_corrects 77 = .ok (.iload 6, 2) := by decide +kernel
theorem dX8_corrects_79 : decode cX8_corrects 79 = .ok (.invokevirtual 191, 3) := by decide +kernel
theorem dX8_corrects_82 : decode cX8_corrects 82 = .ok (.aload_n 0, 1) := by decide +kernel
theorem dX8_corrects_83 : decode cX8_corrects 83 = .ok (.getfield 83, 3) := by decide +kernel
theorem dX8_corrects_86 : decode cX8_corrects 86 = .ok (.iload 6, 2) := by decide +kernel
theorem dX8_corrects_88 : decode cX8_corrects 88 = .ok (.iaload, 1) := by decide +kernel
theorem dX8_corrects_89 : decode cX8_corrects 89 = .ok (.if_icmp .eq 14, 3) := by decide +kernel
theorem dX8_corrects_92 : decode cX8_corrects 92 = .ok (.iload 5, 2) := by decide +kernel
theorem dX8_corrects_94 : decode cX8_corrects 94 = .ok (.iconst 1, 1) := by decide +kernel
theorem dX8_corrects_95 : decode cX8_corrects 95 = .ok (.iload 6, 2) := by decide +kernel
theorem dX8_corrects_97 : decode cX8_corrects 97 = .ok (.iload_n 3, 1) := by decide +kernel
theorem dX8_corrects_98 : decode cX8_corrects 98 = .ok (.isub, 1) := by decide +kernel
theorem dX8_corrects_99 : decode cX8_corrects 99 = .ok (.ishl, 1) := by decide +kernel
theorem dX8_corrects_100 : decode cX8_corrects 100 = .ok (.ior, 1) := by decide +kernel
theorem dX8_corrects_101 : decode cX8_corrects 101 = .ok (.istore 5, 2) := by decide +kernel
theorem dX8_corrects_103 : decode cX8_corrects 103 = .ok (.iinc 6 1, 3) := by decide +kernel
theorem dX8_corrects_106 : decode cX8_corrects 106 = .ok (.goto (-51), 3) := by decide +kernel
theorem dX8_corrects_109 : decode cX8_corrects 109 = .ok (.iload 5, 2) := by decide +kernel
theorem dX8_corrects_111 : decode cX8_corrects 111 = .ok (.ireturn, 1) := by decide +kernel
theorem dX8_touches_0 : decode cX8_touches 0 = .ok (.aload_n 0, 1) := by decide +kernel
theorem dX8_touches_1 : decode cX8_touches 1 = .ok (.iload_n 1, 1) := by decide +kernel
theorem dX8_touches_2 : decode cX8_touches 2 = .ok (.iload_n 2, 1) := by decide +kernel
theorem dX8_touches_3 : decode cX8_touches 3 = .ok (.iload_n 3, 1) := by decide +kernel
theorem dX8_touches_4 : decode cX8_touches 4 = .ok (.iload 4, 2) := by decide +kernel
theorem dX8_touches_6 : decode cX8_touches 6 = .ok (.invokevirtual 198, 3) := by decide +kernel
theorem dX8_touches_9 : decode cX8_touches 9 = .ok (.ifCond .ne 5, 3) := by decide +kernel
theorem dX8_touches_12 : decode cX8_touches 12 = .ok (.iconst (-1), 1) := by decide +kernel
theorem dX8_touches_13 : decode cX8_touches 13 = .ok (.ireturn, 1) := by decide +kernel
theorem dX8_touches_14 : decode cX8_touches 14 = .ok (.aload_n 0, 1) := by decide +kernel
theorem dX8_touches_15 : decode cX8_touches 15 = .ok (.iload_n 1, 1) := by decide +kernel
theorem dX8_touches_16 : decode cX8_touches 16 = .ok (.iload_n 2, 1) := by decide +kernel
theorem dX8_touches_17 : decode cX8_touches 17 = .ok (.iload_n 3, 1) := by decide +kernel
theorem dX8_touches_18 : decode cX8_touches 18 = .ok (.invokevirtual 169, 3) := by decide +kernel
theorem dX8_touches_21 : decode cX8_touches 21 = .ok (.istore 5, 2) := by decide +kernel
theorem dX8_touches_23 : decode cX8_touches 23 = .ok (.aload_n 0, 1) := by decide +kernel
theorem dX8_touches_24 : decode cX8_touches 24 = .ok (.iload_n 1, 1) := by decide +kernel
theorem dX8_touches_25 : decode cX8_touches 25 = .ok (.iload_n 2, 1) := by decide +kernel
theorem dX8_touches_26 : decode cX8_touches 26 = .ok (.iload_n 3, 1) := by decide +kernel
theorem dX8_touches_27 : decode cX8_touches 27 = .ok (.iload 4, 2) := by decide +kernel
theorem dX8_touches_29 : decode cX8_touches 29 = .ok (.invokevirtual 202, 3) := by decide +kernel
theorem dX8_touches_32 : decode cX8_touches 32 = .ok (.istore 6, 2) := by decide +kernel
theorem dX8_touches_34 : decode cX8_touches 34 = .ok (.aload_n 0, 1) := by decide +kernel
theorem dX8_touches_35 : decode cX8_touches 35 = .ok (.getfield 74, 3) := by decide +kernel
theorem dX8_touches_38 : decode cX8_touches 38 = .ok (.iload_n 1, 1) := by decide +kernel
theorem dX8_touches_39 : decode cX8_touches 39 = .ok (.iload_n 2, 1) := by decide +kernel
theorem dX8_touches_40 : decode cX8_touches 40 = .ok (.iload_n 3, 1) := by decide +kernel
theorem dX8_touches_41 : decode cX8_touches 41 = .ok (.invokestatic 132, 3) := by decide +kernel
theorem dX8_touches_44 : decode cX8_touches 44 = .ok (.iload 5, 2) := by decide +kernel
theorem dX8_touches_46 : decode cX8_touches 46 = .ok (.iconst 1, 1) := by decide +kernel
theorem dX8_touches_47 : decode cX8_touches 47 = .ok (.iadd, 1) := by decide +kernel
theorem dX8_touches_48 : decode cX8_touches 48 = .ok (.iastore, 1) := by decide +kernel
theorem dX8_touches_49 : decode cX8_touches 49 = .ok (.iload 6, 2) := by decide +kernel
theorem dX8_touches_51 : decode cX8_touches 51 = .ok (.ireturn, 1) := by decide +kernel
theorem dX8_snap_0 : decode cX8_snap 0 = .ok (.aload_n 0, 1) := by decide +kernel
theorem dX8_snap_1 : decode cX8_snap 1 = .ok (.getfield 154, 3) := by decide +kernel
theorem dX8_snap_4 : decode cX8_snap 4 = .ok (.bipush 10, 2) := by decide +kernel
theorem dX8_snap_6 : decode cX8_snap 6 = .ok (.if_icmp .ne 44, 3) := by decide +kernel
theorem dX8_snap_9 : decode cX8_snap 9 = .ok (.iconst 0, 1) := by decide +kernel
theorem dX8_snap_10 : decode cX8_snap 10 = .ok (.istore_n 1, 1) := by decide +kernel
theorem dX8_snap_11 : decode cX8_snap 11 = .ok (.iload_n 1, 1) := by decide +kernel
theorem dX8_snap_12 : decode cX8_snap 12 = .ok (.sipush 6930, 3) := by decide +kernel
theorem dX8_snap_15 : decode cX8_snap 15 = .ok (.if_icmp .ge 25, 3) := by decide +kernel
theorem dX8_snap_18 : decode cX8_snap 18 = .ok (.aload_n 0, 1) := by decide +kernel
theorem dX8_snap_19 : decode cX8_snap 19 = .ok (.getfield 80, 3) := by decide +kernel
theorem dX8_snap_22 : decode cX8_snap 22 = .ok (.iload_n 1, 1) := by decide +kernel
theorem dX8_snap_23 : decode cX8_snap 23 = .ok (.aload_n 0, 1) := by decide +kernel
theorem dX8_snap_24 : decode cX8_snap 24 = .ok (.getfield 80, 3) := by decide +kernel
theorem dX8_snap_27 : decode cX8_snap 27 = .ok (.iload_n 1, 1) := by decide +kernel
theorem dX8_snap_28 : decode cX8_snap 28 = .ok (.sipush 770, 3) := by decide +kernel
theorem dX8_snap_31 : decode cX8_snap 31 = .ok (.iadd, 1) := by decide +kernel
theorem dX8_snap_32 : decode cX8_snap 32 = .ok (.iaload, 1) := by decide +kernel
theorem dX8_snap_33 : decode cX8_snap 33 = .ok (.iastore, 1) := by decide +kernel
theorem dX8_snap_34 : decode cX8_snap 34 = .ok (.iinc 1 1, 3) := by decide +kernel
theorem dX8_snap_37 : decode cX8_snap 37 = .ok (.goto (-26), 3) := by decide +kernel
theorem dX8_snap_40 : decode cX8_snap 40 = .ok (.aload_n 0, 1) := by decide +kernel
theorem dX8_snap_41 : decode cX8_snap 41 = .ok (.dup, 1) := by decide +kernel
theorem dX8_snap_42 : decode cX8_snap 42 = .ok (.getfield 154, 3) := by decide +kernel
theorem dX8_snap_45 : decode cX8_snap 45 = .ok (.iconst 1, 1) := by decide +kernel
theorem dX8_snap_46 : decode cX8_snap 46 = .ok (.isub, 1) := by decide +kernel
theorem dX8_snap_47 : decode cX8_snap 47 = .ok (.putfield 154, 3) := by decide +kernel
theorem dX8_snap_50 : decode cX8_snap 50 = .ok (.iconst 0, 1) := by decide +kernel
theorem dX8_snap_51 : decode cX8_snap 51 = .ok (.istore_n 1, 1) := by decide +kernel
theorem dX8_snap_52 : decode cX8_snap 52 = .ok (.iload_n 1, 1) := by decide +kernel
theorem dX8_snap_53 : decode cX8_snap 53 = .ok (.sipush 770, 3) := by decide +kernel
theorem dX8_snap_56 : decode cX8_snap 56 = .ok (.if_icmp .ge 30, 3) := by decide +kernel
theorem dX8_snap_59 : decode cX8_snap 59 = .ok (.aload_n 0, 1) := by decide +kernel
theorem dX8_snap_60 : decode cX8_snap 60 = .ok (.getfield 80, 3) := by decide +kernel
theorem dX8_snap_63 : decode cX8_snap 63 = .ok (.sipush 770, 3) := by decide +kernel
theorem dX8_snap_66 : decode cX8_snap 66 = .ok (.aload_n 0, 1) := by decide +kernel
theorem dX8_snap_67 : decode cX8_snap 67 = .ok (.getfield 154, 3) := by decide +kernel
theorem dX8_snap_70 : decode cX8_snap 70 = .ok (.imul, 1) := by decide +kernel
theorem dX8_snap_71 : decode cX8_snap 71 = .ok (.iload_n 1, 1) := by decide +kernel
theorem dX8_snap_72 : decode cX8_snap 72 = .ok (.iadd, 1) := by decide +kernel
theorem dX8_snap_73 : decode cX8_snap 73 = .ok (.aload_n 0, 1) := by decide +kernel
theorem dX8_snap_74 : decode cX8_snap 74 = .ok (.getfield 74, 3) := by decide +kernel
theorem dX8_snap_77 : decode cX8_snap 77 = .ok (.iload_n 1, 1) := by decide +kernel
theorem dX8_snap_78 : decode cX8_snap 78 = .ok (.iaload, 1) := by decide +kernel
theorem dX8_snap_79 : decode cX8_snap 79 = .ok (.iastore, 1) := by decide +kernel
theorem dX8_snap_80 : decode cX8_snap 80 = .ok (.iinc 1 1, 3) := by decide +kernel
theorem dX8_snap_83 : decode cX8_snap 83 = .ok (.goto (-31), 3) := by decide +kernel
theorem dX8_snap_86 : decode cX8_snap 86 = .ok (.aload_n 0, 1) := by decide +kernel
theorem dX8_snap_87 : decode cX8_snap 87 = .ok (.dup, 1) := by decide +kernel
theorem dX8_snap_88 : decode cX8_snap 88 = .ok (.getfield 154, 3) := by decide +kernel
theorem dX8_snap_91 : decode cX8_snap 91 = .ok (.iconst 1, 1) := by decide +kernel
theorem dX8_snap_92 : decode cX8_snap 92 = .ok (.iadd, 1) := by decide +kernel
theorem dX8_snap_93 : decode cX8_snap 93 = .ok (.putfield 154, 3) := by decide +kernel
theorem dX8_snap_96 : decode cX8_snap 96 = .ok (.return_, 1) := by decide +kernel
theorem dX8_correct_0 : decode cX8_correct 0 = .ok (.aload_n 0, 1) := by decide +kernel
theorem dX8_correct_1 : decode cX8_correct 1 = .ok (.iload_n 1, 1) := by decide +kernel
theorem dX8_correct_2 : decode cX8_correct 2 = .ok (.iload_n 2, 1) := by decide +kernel
theorem dX8_correct_3 : decode cX8_correct 3 = .ok (.iload_n 3, 1) := by decide +kernel
theorem dX8_correct_4 : decode cX8_correct 4 = .ok (.iload 4, 2) := by decide +kernel
theorem dX8_correct_6 : decode cX8_correct 6 = .ok (.invokevirtual 198, 3) := by decide +kernel
theorem dX8_correct_9 : decode cX8_correct 9 = .ok (.ifCond .ne 6, 3) := by decide +kernel
theorem dX8_correct_12 : decode cX8_correct 12 = .ok (.bipush (-2), 2) := by decide +kernel
theorem dX8_correct_14 : decode cX8_correct 14 = .ok (.ireturn, 1) := by decide +kernel
theorem dX8_correct_15 : decode cX8_correct 15 = .ok (.aload_n 0, 1) := by decide +kernel
theorem dX8_correct_16 : decode cX8_correct 16 = .ok (.invokevirtual 206, 3) := by decide +kernel
theorem dX8_correct_19 : decode cX8_correct 19 = .ok (.aload_n 0, 1) := by decide +kernel
theorem dX8_correct_20 : decode cX8_correct 20 = .ok (.iload_n 1, 1) := by decide +kernel
theorem dX8_correct_21 : decode cX8_correct 21 = .ok (.iload_n 2, 1) := by decide +kernel
theorem dX8_correct_22 : decode cX8_correct 22 = .ok (.iload_n 3, 1) := by decide +kernel
theorem dX8_correct_23 : decode cX8_correct 23 = .ok (.iload 4, 2) := by decide +kernel
theorem dX8_correct_25 : decode cX8_correct 25 = .ok (.invokevirtual 202, 3) := by decide +kernel
theorem dX8_correct_28 : decode cX8_correct 28 = .ok (.istore 5, 2) := by decide +kernel
theorem dX8_correct_30 : decode cX8_correct 30 = .ok (.iconst 0, 1) := by decide +kernel
theorem dX8_correct_31 : decode cX8_correct 31 = .ok (.istore 6, 2) := by decide +kernel
theorem dX8_correct_33 : decode cX8_correct 33 = .ok (.iconst 0, 1) := by decide +kernel
theorem dX8_correct_34 : decode cX8_correct 34 = .ok (.istore 7, 2) := by decide +kernel
theorem dX8_correct_36 : decode cX8_correct 36 = .ok (.iload 7, 2) := by decide +kernel
theorem dX8_correct_38 : decode cX8_correct 38 = .ok (.bipush 12, 2) := by decide +kernel
theorem dX8_correct_40 : decode cX8_correct 40 = .ok (.if_icmp .ge 21, 3) := by decide +kernel
theorem dX8_correct_43 : decode cX8_correct 43 = .ok (.iload 6, 2) := by decide +kernel
theorem dX8_correct_45 : decode cX8_correct 45 = .ok (.iload 5, 2) := by decide +kernel
theorem dX8_correct_47 : decode cX8_correct 47 = .ok (.iload 7, 2) := by decide +kernel
theorem dX8_correct_49 : decode cX8_correct 49 = .ok (.ishr, 1) := by decide +kernel
theorem dX8_correct_50 : decode cX8_correct 50 = .ok (.iconst 1, 1) := by decide +kernel
theorem dX8_correct_51 : decode cX8_correct 51 = .ok (.iand, 1) := by decide +kernel
theorem dX8_correct_52 : decode cX8_correct 52 = .ok (.iadd, 1) := by decide +kernel
theorem dX8_correct_53 : decode cX8_correct 53 = .ok (.istore 6, 2) := by decide +kernel
theorem dX8_correct_55 : decode cX8_correct 55 = .ok (.iinc 7 1, 3) := by decide +kernel
theorem dX8_correct_58 : decode cX8_correct 58 = .ok (.goto (-22), 3) := by decide +kernel
theorem dX8_correct_61 : decode cX8_correct 61 = .ok (.iload 6, 2) := by decide +kernel
theorem dX8_correct_63 : decode cX8_correct 63 = .ok (.ireturn, 1) := by decide +kernel
theorem dX8_pass_0 : decode cX8_pass 0 = .ok (.iload_n 1, 1) := by decide +kernel
theorem dX8_pass_1 : decode cX8_pass 1 = .ok (.iconst 1, 1) := by decide +kernel
theorem dX8_pass_2 : decode cX8_pass 2 = .ok (.bipush 12, 2) := by decide +kernel
theorem dX8_pass_4 : decode cX8_pass 4 = .ok (.invokestatic 89, 3) := by decide +kernel
theorem dX8_pass_7 : decode cX8_pass 7 = .ok (.ifCond .eq 16, 3) := by decide +kernel
theorem dX8_pass_10 : decode cX8_pass 10 = .ok (.aload_n 0, 1) := by decide +kernel
theorem dX8_pass_11 : decode cX8_pass 11 = .ok (.getfield 74, 3) := by decide +kernel
theorem dX8_pass_14 : decode cX8_pass 14 = .ok (.iconst 0, 1) := by decide +kernel
theorem dX8_pass_15 : decode cX8_pass 15 = .ok (.iaload, 1) := by decide +kernel
theorem dX8_pass_16 : decode cX8_pass 16 = .ok (.iload_n 1, 1) := by decide +kernel
theorem dX8_pass_17 : decode cX8_pass 17 = .ok (.iadd, 1) := by decide +kernel
theorem dX8_pass_18 : decode cX8_pass 18 = .ok (.bipush 60, 2) := by decide +kernel
theorem dX8_pass_20 : decode cX8_pass 20 = .ok (.if_icmp .le 5, 3) := by decide +kernel
theorem dX8_pass_23 : decode cX8_pass 23 = .ok (.iconst (-1), 1) := by decide +kernel
theorem dX8_pass_24 : decode cX8_pass 24 = .ok (.ireturn, 1) := by decide +kernel
theorem dX8_pass_25 : decode cX8_pass 25 = .ok (.aload_n 0, 1) := by decide +kernel
theorem dX8_pass_26 : decode cX8_pass 26 = .ok (.invokevirtual 206, 3) := by decide +kernel
theorem dX8_pass_29 : decode cX8_pass 29 = .ok (.aload_n 0, 1) := by decide +kernel
theorem dX8_pass_30 : decode cX8_pass 30 = .ok (.getfield 74, 3) := by decide +kernel
theorem dX8_pass_33 : decode cX8_pass 33 = .ok (.iconst 0, 1) := by decide +kernel
theorem dX8_pass_34 : decode cX8_pass 34 = .ok (.dup2, 1) := by decide +kernel
theorem dX8_pass_35 : decode cX8_pass 35 = .ok (.iaload, 1) := by decide +kernel
theorem dX8_pass_36 : decode cX8_pass 36 = .ok (.iload_n 1, 1) := by decide +kernel
theorem dX8_pass_37 : decode cX8_pass 37 = .ok (.iadd, 1) := by decide +kernel
theorem dX8_pass_38 : decode cX8_pass 38 = .ok (.iastore, 1) := by decide +kernel
theorem dX8_pass_39 : decode cX8_pass 39 = .ok (.aload_n 0, 1) := by decide +kernel
theorem dX8_pass_40 : decode cX8_pass 40 = .ok (.getfield 74, 3) := by decide +kernel
theorem dX8_pass_43 : decode cX8_pass 43 = .ok (.iconst 0, 1) := by decide +kernel
theorem dX8_pass_44 : decode cX8_pass 44 = .ok (.iaload, 1) := by decide +kernel
theorem dX8_pass_45 : decode cX8_pass 45 = .ok (.ireturn, 1) := by decide +kernel
theorem dX8_smooth_0 : decode cX8_smooth 0 = .ok (.iload_n 1, 1) := by decide +kernel
theorem dX8_smooth_1 : decode cX8_smooth 1 = .ok (.iconst 0, 1) := by decide +kernel
theorem dX8_smooth_2 : decode cX8_smooth 2 = .ok (.bipush 100, 2) := by decide +kernel
theorem dX8_smooth_4 : decode cX8_smooth 4 = .ok (.invokestatic 89, 3) := by decide +kernel
theorem dX8_smooth_7 : decode cX8_smooth 7 = .ok (.ifCond .ne 5, 3) := by decide +kernel
theorem dX8_smooth_10 : decode cX8_smooth 10 = .ok (.iconst (-1), 1) := by decide +kernel
theorem dX8_smooth_11 : decode cX8_smooth 11 = .ok (.ireturn, 1) := by decide +kernel
theorem dX8_smooth_12 : decode cX8_smooth 12 = .ok (.aload_n 0, 1) := by decide +kernel
theorem dX8_smooth_13 : decode cX8_smooth 13 = .ok (.invokevirtual 206, 3) := by decide +kernel
theorem dX8_smooth_16 : decode cX8_smooth 16 = .ok (.aload_n 0, 1) := by decide +kernel
theorem dX8_smooth_17 : decode cX8_smooth 17 = .ok (.getfield 74, 3) := by decide +kernel
theorem dX8_smooth_20 : decode cX8_smooth 20 = .ok (.iconst 3, 1) := by decide +kernel
theorem dX8_smooth_21 : decode cX8_smooth 21 = .ok (.iaload, 1) := by decide +kernel
theorem dX8_smooth_22 : decode cX8_smooth 22 = .ok (.istore_n 2, 1) := by decide +kernel
theorem dX8_smooth_23 : decode cX8_smooth 23 = .ok (.aload_n 0, 1) := by decide +kernel
theorem dX8_smooth_24 : decode cX8_smooth 24 = .ok (.getfield 74, 3) := by decide +kernel
theorem dX8_smooth_27 : decode cX8_smooth 27 = .ok (.iconst 3, 1) := by decide +kernel
theorem dX8_smooth_28 : decode cX8_smooth 28 = .ok (.iload_n 1, 1) := by decide +kernel
theorem dX8_smooth_29 : decode cX8_smooth 29 = .ok (.iastore, 1) := by decide +kernel
theorem dX8_smooth_30 : decode cX8_smooth 30 = .ok (.iload_n 2, 1) := by decide +kernel
theorem dX8_smooth_31 : decode cX8_smooth 31 = .ok (.ireturn, 1) := by decide +kernel
theorem dX8_window_0 : decode cX8_window 0 = .ok (.aload_n 0, 1) := by decide +kernel
theorem dX8_window_1 : decode cX8_window 1 = .ok (.iload_n 1, 1) := by decide +kernel
theorem dX8_window_2 : decode cX8_window 2 = .ok (.invokevirtual 160, 3) := by decide +kernel
theorem dX8_window_5 : decode cX8_window 5 = .ok (.ifCond .eq 22, 3) := by decide +kernel
theorem dX8_window_8 : decode cX8_window 8 = .ok (.iload_n 2, 1) := by decide +kernel
theorem dX8_window_9 : decode cX8_window 9 = .ok (.iconst 1, 1) := by decide +kernel
theorem dX8_window_10 : decode cX8_window 10 = .ok (.bipush 12, 2) := by decide +kernel
theorem dX8_window_12 : decode cX8_window 12 = .ok (.invokestatic 89, 3) := by decide +kernel
theorem dX8_window_15 : decode cX8_window 15 = .ok (.ifCond .eq 12, 3) := by decide +kernel
theorem dX8_window_18 : decode cX8_window 18 = .ok (.iload_n 3, 1) := by decide +kernel
theorem dX8_window_19 : decode cX8_window 19 = .ok (.iconst 1, 1) := by decide +kernel
theorem dX8_window_20 : decode cX8_window 20 = .ok (.iload_n 2, 1) := by decide +kernel
theorem dX8_window_21 : decode cX8_window 21 = .ok (.invokestatic 89, 3) := by decide +kernel
theorem dX8_window_24 : decode cX8_window 24 = .ok (.ifCond .ne 5, 3) := by decide +kernel
theorem dX8_window_27 : decode cX8_window 27 = .ok (.iconst 0, 1) := by decide +kernel
theorem dX8_window_28 : decode cX8_window 28 = .ok (.ireturn, 1) := by decide +kernel
theorem dX8_window_29 : decode cX8_window 29 = .ok (.aload_n 0, 1) := by decide +kernel
theorem dX8_window_30 : decode cX8_window 30 = .ok (.invokevirtual 206, 3) := by decide +kernel
theorem dX8_window_33 : decode cX8_window 33 = .ok (.aload_n 0, 1) := by decide +kernel
theorem dX8_window_34 : decode cX8_window 34 = .ok (.getfield 74, 3) := by decide +kernel
theorem dX8_window_37 : decode cX8_window 37 = .ok (.bipush 7, 2) := by decide +kernel
theorem dX8_window_39 : decode cX8_window 39 = .ok (.bipush 13, 2) := by decide +kernel
theorem dX8_window_41 : decode cX8_window 41 = .ok (.iload_n 1, 1) := by decide +kernel
theorem dX8_window_42 : decode cX8_window 42 = .ok (.imul, 1) := by decide +kernel
theorem dX8_window_43 : decode cX8_window 43 = .ok (.iadd, 1) := by decide +kernel
theorem dX8_window_44 : decode cX8_window 44 = .ok (.iconst 0, 1) := by decide +kernel
theorem dX8_window_45 : decode cX8_window 45 = .ok (.iadd, 1) := by decide +kernel
theorem dX8_window_46 : decode cX8_window 46 = .ok (.iload_n 2, 1) := by decide +kernel
theorem dX8_window_47 : decode cX8_window 47 = .ok (.iastore, 1) := by decide +kernel
theorem dX8_window_48 : decode cX8_window 48 = .ok (.aload_n 0, 1) := by decide +kernel
theorem dX8_window_49 : decode cX8_window 49 = .ok (.getfield 74, 3) := by decide +kernel
theorem dX8_window_52 : decode cX8_window 52 = .ok (.bipush 7, 2) := by decide +kernel
theorem dX8_window_54 : decode cX8_window 54 = .ok (.bipush 13, 2) := by decide +kernel
theorem dX8_window_56 : decode cX8_window 56 = .ok (.iload_n 1, 1) := by decide +kernel
theorem dX8_window_57 : decode cX8_window 57 = .ok (.imul, 1) := by decide +kernel
theorem dX8_window_58 : decode cX8_window 58 = .ok (.iadd, 1) := by decide +kernel
theorem dX8_window_59 : decode cX8_window 59 = .ok (.iconst 1, 1) := by decide +kernel
theorem dX8_window_60 : decode cX8_window 60 = .ok (.iadd, 1) := by decide +kernel
theorem dX8_window_61 : decode cX8_window 61 = .ok (.iload_n 3, 1) := by decide +kernel
theorem dX8_window_62 : decode cX8_window 62 = .ok (.iastore, 1) := by decide +kernel
theorem dX8_window_63 : decode cX8_window 63 = .ok (.iconst 1, 1) := by decide +kernel
theorem dX8_window_64 : decode cX8_window 64 = .ok (.ireturn, 1) := by decide +kernel
theorem dX8_undo_0 : decode cX8_undo 0 = .ok (.aload_n 0, 1) := by decide +kernel
theorem dX8_undo_1 : decode cX8_undo 1 = .ok (.getfield 154, 3) := by decide +kernel
theorem dX8_undo_4 : decode cX8_undo 4 = .ok (.ifCond .ne 5, 3) := by decide +kernel
theorem dX8_undo_7 : decode cX8_undo 7 = .ok (.iconst (-1), 1) := by decide +kernel
theorem dX8_undo_8 : decode cX8_undo 8 = .ok (.ireturn, 1) := by decide +kernel
theorem dX8_undo_9 : decode cX8_undo 9 = .ok (.aload_n 0, 1) := by decide +kernel
theorem dX8_undo_10 : decode cX8_undo 10 = .ok (.dup, 1) := by decide +kernel
theorem dX8_undo_11 : decode cX8_undo 11 = .ok (.getfield 154, 3) := by decide +kernel
theorem dX8_undo_14 : decode cX8_undo 14 = .ok (.iconst 1, 1) := by decide +kernel
theorem dX8_undo_15 : decode cX8_undo 15 = .ok (.isub, 1) := by decide +kernel
theorem dX8_undo_16 : decode cX8_undo 16 = .ok (.putfield 154, 3) := by decide +kernel
theorem dX8_undo_19 : decode cX8_undo 19 = .ok (.iconst 0, 1) := by decide +kernel
theorem dX8_undo_20 : decode cX8_undo 20 = .ok (.istore_n 1, 1) := by decide +kernel
theorem dX8_undo_21 : decode cX8_undo 21 = .ok (.iload_n 1, 1) := by decide +kernel
theorem dX8_undo_22 : decode cX8_undo 22 = .ok (.sipush 770, 3) := by decide +kernel
theorem dX8_undo_25 : decode cX8_undo 25 = .ok (.if_icmp .ge 30, 3) := by decide +kernel
theorem dX8_undo_28 : decode cX8_undo 28 = .ok (.aload_n 0, 1) := by decide +kernel
theorem dX8_undo_29 : decode cX8_undo 29 = .ok (.getfield 74, 3) := by decide +kernel
theorem dX8_undo_32 : decode cX8_undo 32 = .ok (.iload_n 1, 1) := by decide +kernel
theorem dX8_undo_33 : decode cX8_undo 33 = .ok (.aload_n 0, 1) := by decide +kernel
theorem dX8_undo_34 : decode cX8_undo 34 = .ok (.getfield 80, 3) := by decide +kernel
theorem dX8_undo_37 : decode cX8_undo 37 = .ok (.sipush 770, 3) := by decide +kernel
theorem dX8_undo_40 : decode cX8_undo 40 = .ok (.aload_n 0, 1) := by decide +kernel
theorem dX8_undo_41 : decode cX8_undo 41 = .ok (.getfield 154, 3) := by decide +kernel
theorem dX8_undo_44 : decode cX8_undo 44 = .ok (.imul, 1) := by decide +kernel
theorem dX8_undo_45 : decode cX8_undo 45 = .ok (.iload_n 1, 1) := by decide +kernel
theorem dX8_undo_46 : decode cX8_undo 46 = .ok (.iadd, 1) := by decide +kernel
theorem dX8_undo_47 : decode cX8_undo 47 = .ok (.iaload, 1) := by decide +kernel
theorem dX8_undo_48 : decode cX8_undo 48 = .ok (.iastore, 1) := by decide +kernel
theorem dX8_undo_49 : decode cX8_undo 49 = .ok (.iinc 1 1, 3) := by decide +kernel
theorem dX8_undo_52 : decode cX8_undo 52 = .ok (.goto (-31), 3) := by decide +kernel
theorem dX8_undo_55 : decode cX8_undo 55 = .ok (.aload_n 0, 1) := by decide +kernel
theorem dX8_undo_56 : decode cX8_undo 56 = .ok (.getfield 154, 3) := by decide +kernel
theorem dX8_undo_59 : decode cX8_undo 59 = .ok (.ireturn, 1) := by decide +kernel
theorem dJ6_bitCount_0f7a4_0 : decode cJ6_bitCount_0f7a4 0 = .ok (.iload_n 0, 1) := by decide +kernel
theorem dJ6_bitCount_0f7a4_1 : decode cJ6_bitCount_0f7a4 1 = .ok (.iload_n 0, 1) := by decide +kernel
theorem dJ6_bitCount_0f7a4_2 : decode cJ6_bitCount_0f7a4 2 = .ok (.iconst 1, 1) := by decide +kernel
theorem dJ6_bitCount_0f7a4_3 : decode cJ6_bitCount_0f7a4 3 = .ok (.iushr, 1) := by decide +kernel
theorem dJ6_bitCount_0f7a4_4 : decode cJ6_bitCount_0f7a4 4 = .ok (.ldc_w 265, 3) := by decide +kernel
theorem dJ6_bitCount_0f7a4_7 : decode cJ6_bitCount_0f7a4 7 = .ok (.iand, 1) := by decide +kernel
theorem dJ6_bitCount_0f7a4_8 : decode cJ6_bitCount_0f7a4 8 = .ok (.isub, 1) := by decide +kernel
theorem dJ6_bitCount_0f7a4_9 : decode cJ6_bitCount_0f7a4 9 = .ok (.istore_n 0, 1) := by decide +kernel
theorem dJ6_bitCount_0f7a4_10 : decode cJ6_bitCount_0f7a4 10 = .ok (.iload_n 0, 1) := by decide +kernel
theorem dJ6_bitCount_0f7a4_11 : decode cJ6_bitCount_0f7a4 11 = .ok (.ldc_w 266, 3) := by decide +kernel
theorem dJ6_bitCount_0f7a4_14 : decode cJ6_bitCount_0f7a4 14 = .ok (.iand, 1) := by decide +kernel
theorem dJ6_bitCount_0f7a4_15 : decode cJ6_bitCount_0f7a4 15 = .ok (.iload_n 0, 1) := by decide +kernel
theorem dJ6_bitCount_0f7a4_16 : decode cJ6_bitCount_0f7a4 16 = .ok (.iconst 2, 1) := by decide +kernel
theorem dJ6_bitCount_0f7a4_17 : decode cJ6_bitCount_0f7a4 17 = .ok (.iushr, 1) := by decide +kernel
theorem dJ6_bitCount_0f7a4_18 : decode cJ6_bitCount_0f7a4 18 = .ok (.ldc_w 266, 3) := by decide +kernel
theorem dJ6_bitCount_0f7a4_21 : decode cJ6_bitCount_0f7a4 21 = .ok (.iand, 1) := by decide +kernel
theorem dJ6_bitCount_0f7a4_22 : decode cJ6_bitCount_0f7a4 22 = .ok (.iadd, 1) := by decide +kernel
theorem dJ6_bitCount_0f7a4_23 : decode cJ6_bitCount_0f7a4 23 = .ok (.istore_n 0, 1) := by decide +kernel
theorem dJ6_bitCount_0f7a4_24 : decode cJ6_bitCount_0f7a4 24 = .ok (.iload_n 0, 1) := by decide +kernel
theorem dJ6_bitCount_0f7a4_25 : decode cJ6_bitCount_0f7a4 25 = .ok (.iload_n 0, 1) := by decide +kernel
theorem dJ6_bitCount_0f7a4_26 : decode cJ6_bitCount_0f7a4 26 = .ok (.iconst 4, 1) := by decide +kernel
theorem dJ6_bitCount_0f7a4_27 : decode cJ6_bitCount_0f7a4 27 = .ok (.iushr, 1) := by decide +kernel
theorem dJ6_bitCount_0f7a4_28 : decode cJ6_bitCount_0f7a4 28 = .ok (.iadd, 1) := by decide +kernel
theorem dJ6_bitCount_0f7a4_29 : decode cJ6_bitCount_0f7a4 29 = .ok (.ldc_w 267, 3) := by decide +kernel
theorem dJ6_bitCount_0f7a4_32 : decode cJ6_bitCount_0f7a4 32 = .ok (.iand, 1) := by decide +kernel
theorem dJ6_bitCount_0f7a4_33 : decode cJ6_bitCount_0f7a4 33 = .ok (.istore_n 0, 1) := by decide +kernel
theorem dJ6_bitCount_0f7a4_34 : decode cJ6_bitCount_0f7a4 34 = .ok (.iload_n 0, 1) := by decide +kernel
theorem dJ6_bitCount_0f7a4_35 : decode cJ6_bitCount_0f7a4 35 = .ok (.iload_n 0, 1) := by decide +kernel
theorem dJ6_bitCount_0f7a4_36 : decode cJ6_bitCount_0f7a4 36 = .ok (.bipush 8, 2) := by decide +kernel
theorem dJ6_bitCount_0f7a4_38 : decode cJ6_bitCount_0f7a4 38 = .ok (.iushr, 1) := by decide +kernel
theorem dJ6_bitCount_0f7a4_39 : decode cJ6_bitCount_0f7a4 39 = .ok (.iadd, 1) := by decide +kernel
theorem dJ6_bitCount_0f7a4_40 : decode cJ6_bitCount_0f7a4 40 = .ok (.istore_n 0, 1) := by decide +kernel
theorem dJ6_bitCount_0f7a4_41 : decode cJ6_bitCount_0f7a4 41 = .ok (.iload_n 0, 1) := by decide +kernel
theorem dJ6_bitCount_0f7a4_42 : decode cJ6_bitCount_0f7a4 42 = .ok (.iload_n 0, 1) := by decide +kernel
theorem dJ6_bitCount_0f7a4_43 : decode cJ6_bitCount_0f7a4 43 = .ok (.bipush 16, 2) := by decide +kernel
theorem dJ6_bitCount_0f7a4_45 : decode cJ6_bitCount_0f7a4 45 = .ok (.iushr, 1) := by decide +kernel
theorem dJ6_bitCount_0f7a4_46 : decode cJ6_bitCount_0f7a4 46 = .ok (.iadd, 1) := by decide +kernel
theorem dJ6_bitCount_0f7a4_47 : decode cJ6_bitCount_0f7a4 47 = .ok (.istore_n 0, 1) := by decide +kernel
theorem dJ6_bitCount_0f7a4_48 : decode cJ6_bitCount_0f7a4 48 = .ok (.iload_n 0, 1) := by decide +kernel
theorem dJ6_bitCount_0f7a4_49 : decode cJ6_bitCount_0f7a4 49 = .ok (.bipush 63, 2) := by decide +kernel
theorem dJ6_bitCount_0f7a4_51 : decode cJ6_bitCount_0f7a4 51 = .ok (.iand, 1) := by decide +kernel
theorem dJ6_bitCount_0f7a4_52 : decode cJ6_bitCount_0f7a4 52 = .ok (.ireturn, 1) := by decide +kernel
theorem dJ9_max_7cf53_0 : decode cJ9_max_7cf53 0 = .ok (.iload_n 0, 1) := by decide +kernel
theorem dJ9_max_7cf53_1 : decode cJ9_max_7cf53 1 = .ok (.iload_n 1, 1) := by decide +kernel
theorem dJ9_max_7cf53_2 : decode cJ9_max_7cf53 2 = .ok (.if_icmp .lt 7, 3) := by decide +kernel
theorem dJ9_max_7cf53_5 : decode cJ9_max_7cf53 5 = .ok (.iload_n 0, 1) := by decide +kernel
theorem dJ9_max_7cf53_6 : decode cJ9_max_7cf53 6 = .ok (.goto 4, 3) := by decide +kernel
theorem dJ9_max_7cf53_9 : decode cJ9_max_7cf53 9 = .ok (.iload_n 1, 1) := by decide +kernel
theorem dJ9_max_7cf53_10 : decode cJ9_max_7cf53 10 = .ok (.ireturn, 1) := by decide +kernel
theorem dJ9_min_7cf53_0 : decode cJ9_min_7cf53 0 = .ok (.iload_n 0, 1) := by decide +kernel
theorem dJ9_min_7cf53_1 : decode cJ9_min_7cf53 1 = .ok (.iload_n 1, 1) := by decide +kernel
theorem dJ9_min_7cf53_2 : decode cJ9_min_7cf53 2 = .ok (.if_icmp .gt 7, 3) := by decide +kernel
theorem dJ9_min_7cf53_5 : decode cJ9_min_7cf53 5 = .ok (.iload_n 0, 1) := by decide +kernel
theorem dJ9_min_7cf53_6 : decode cJ9_min_7cf53 6 = .ok (.goto 4, 3) := by decide +kernel
theorem dJ9_min_7cf53_9 : decode cJ9_min_7cf53 9 = .ok (.iload_n 1, 1) := by decide +kernel
theorem dJ9_min_7cf53_10 : decode cJ9_min_7cf53 10 = .ok (.ireturn, 1) := by decide +kernel
theorem dJ0_length_8abf5_0 : decode cJ0_length_8abf5 0 = .ok (.aload_n 0, 1) := by decide +kernel
theorem dJ0_length_8abf5_1 : decode cJ0_length_8abf5 1 = .ok (.getfield 9, 3) := by decide +kernel
theorem dJ0_length_8abf5_4 : decode cJ0_length_8abf5 4 = .ok (.arraylength, 1) := by decide +kernel
theorem dJ0_length_8abf5_5 : decode cJ0_length_8abf5 5 = .ok (.aload_n 0, 1) := by decide +kernel
theorem dJ0_length_8abf5_6 : decode cJ0_length_8abf5 6 = .ok (.invokevirtual 335, 3) := by decide +kernel
theorem dJ0_length_8abf5_9 : decode cJ0_length_8abf5 9 = .ok (.ishr, 1) := by decide +kernel
theorem dJ0_length_8abf5_10 : decode cJ0_length_8abf5 10 = .ok (.ireturn, 1) := by decide +kernel
theorem dJ0_charAt_5068e_0 : decode cJ0_charAt_5068e 0 = .ok (.aload_n 0, 1) := by decide +kernel
theorem dJ0_charAt_5068e_1 : decode cJ0_charAt_5068e 1 = .ok (.invokevirtual 492, 3) := by decide +kernel
theorem dJ0_charAt_5068e_4 : decode cJ0_charAt_5068e 4 = .ok (.ifCond .eq 12, 3) := by decide +kernel
theorem dJ0_charAt_5068e_7 : decode cJ0_charAt_5068e 7 = .ok (.aload_n 0, 1) := by decide +kernel
theorem dJ0_charAt_5068e_8 : decode cJ0_charAt_5068e 8 = .ok (.getfield 9, 3) := by decide +kernel
theorem dJ0_charAt_5068e_11 : decode cJ0_charAt_5068e 11 = .ok (.iload_n 1, 1) := by decide +kernel
theorem dJ0_charAt_5068e_12 : decode cJ0_charAt_5068e 12 = .ok (.invokestatic 495, 3) := by decide +kernel
theorem dJ0_charAt_5068e_15 : decode cJ0_charAt_5068e 15 = .ok (.ireturn, 1) := by decide +kernel
theorem dJ0_charAt_5068e_16 : decode cJ0_charAt_5068e 16 = .ok (.aload_n 0, 1) := by decide +kernel
theorem dJ0_charAt_5068e_17 : decode cJ0_charAt_5068e 17 = .ok (.getfield 9, 3) := by decide +kernel
theorem dJ0_charAt_5068e_20 : decode cJ0_charAt_5068e 20 = .ok (.iload_n 1, 1) := by decide +kernel
theorem dJ0_charAt_5068e_21 : decode cJ0_charAt_5068e 21 = .ok (.invokestatic 498, 3) := by decide +kernel
theorem dJ0_charAt_5068e_24 : decode cJ0_charAt_5068e 24 = .ok (.ireturn, 1) := by decide +kernel
theorem dJ0_coder_7d493_0 : decode cJ0_coder_7d493 0 = .ok (.getstatic 38, 3) := by decide +kernel
theorem dJ0_coder_7d493_3 : decode cJ0_coder_7d493 3 = .ok (.ifCond .eq 10, 3) := by decide +kernel
theorem dJ0_coder_7d493_6 : decode cJ0_coder_7d493 6 = .ok (.aload_n 0, 1) := by decide +kernel
theorem dJ0_coder_7d493_7 : decode cJ0_coder_7d493 7 = .ok (.getfield 15, 3) := by decide +kernel
theorem dJ0_coder_7d493_10 : decode cJ0_coder_7d493 10 = .ok (.goto 4, 3) := by decide +kernel
theorem dJ0_coder_7d493_13 : decode cJ0_coder_7d493 13 = .ok (.iconst 1, 1) := by decide +kernel
theorem dJ0_coder_7d493_14 : decode cJ0_coder_7d493 14 = .ok (.ireturn, 1) := by decide +kernel
theorem dJ0_isLatin1_aae02_0 : decode cJ0_isLatin1_aae02 0 = .ok (.getstatic 38, 3) := by decide +kernel
theorem dJ0_isLatin1_aae02_3 : decode cJ0_isLatin1_aae02 3 = .ok (.ifCond .eq 14, 3) := by decide +kernel
theorem dJ0_isLatin1_aae02_6 : decode cJ0_isLatin1_aae02 6 = .ok (.aload_n 0, 1) := by decide +kernel
theorem dJ0_isLatin1_aae02_7 : decode cJ0_isLatin1_aae02 7 = .ok (.getfield 15, 3) := by decide +kernel
theorem dJ0_isLatin1_aae02_10 : decode cJ0_isLatin1_aae02 10 = .ok (.ifCond .ne 7, 3) := by decide +kernel
theorem dJ0_isLatin1_aae02_13 : decode cJ0_isLatin1_aae02 13 = .ok (.iconst 1, 1) := by decide +kernel
theorem dJ0_isLatin1_aae02_14 : decode cJ0_isLatin1_aae02 14 = .ok (.goto 4, 3) := by decide +kernel
theorem dJ0_isLatin1_aae02_17 : decode cJ0_isLatin1_aae02 17 = .ok (.iconst 0, 1) := by decide +kernel
theorem dJ0_isLatin1_aae02_18 : decode cJ0_isLatin1_aae02 18 = .ok (.ireturn, 1) := by decide +kernel
theorem dJ0_checkIndex_df160_0 : decode cJ0_checkIndex_df160 0 = .ok (.iload_n 0, 1) := by decide +kernel
theorem dJ0_checkIndex_df160_1 : decode cJ0_checkIndex_df160 1 = .ok (.iload_n 1, 1) := by decide +kernel
theorem dJ0_checkIndex_df160_2 : decode cJ0_checkIndex_df160 2 = .ok (.getstatic 1053, 3) := by decide +kernel
theorem dJ0_checkIndex_df160_5 : decode cJ0_checkIndex_df160 5 = .ok (.invokestatic 1059, 3) := by decide +kernel
theorem dJ0_checkIndex_df160_8 : decode cJ0_checkIndex_df160 8 = .ok (.pop, 1) := by decide +kernel
theorem dJ0_checkIndex_df160_9 : decode cJ0_checkIndex_df160 9 = .ok (.return_, 1) := by decide +kernel
theorem dJ1_charAt_3b067_0 : decode cJ1_charAt_3b067 0 = .ok (.iload_n 1, 1) := by decide +kernel
theorem dJ1_charAt_3b067_1 : decode cJ1_charAt_3b067 1 = .ok (.aload_n 0, 1) := by decide +kernel
theorem dJ1_charAt_3b067_2 : decode cJ1_charAt_3b067 2 = .ok (.arraylength, 1) := by decide +kernel
theorem dJ1_charAt_3b067_3 : decode cJ1_charAt_3b067 3 = .ok (.invokestatic 9, 3) := by decide +kernel
theorem dJ1_charAt_3b067_6 : decode cJ1_charAt_3b067 6 = .ok (.aload_n 0, 1) := by decide +kernel
theorem dJ1_charAt_3b067_7 : decode cJ1_charAt_3b067 7 = .ok (.iload_n 1, 1) := by decide +kernel
theorem dJ1_charAt_3b067_8 : decode cJ1_charAt_3b067 8 = .ok (.baload, 1) := by decide +kernel
theorem dJ1_charAt_3b067_9 : decode cJ1_charAt_3b067 9 = .ok (.sipush 255, 3) := by decide +kernel
theorem dJ1_charAt_3b067_12 : decode cJ1_charAt_3b067 12 = .ok (.iand, 1) := by decide +kernel
theorem dJ1_charAt_3b067_13 : decode cJ1_charAt_3b067 13 = .ok (.i2c, 1) := by decide +kernel
theorem dJ1_charAt_3b067_14 : decode cJ1_charAt_3b067 14 = .ok (.ireturn, 1) := by decide +kernel
theorem dJ2_getChar_3b067_0 : decode cJ2_getChar_3b067 0 = .ok (.getstatic 44, 3) := by decide +kernel
theorem dJ2_getChar_3b067_3 : decode cJ2_getChar_3b067 3 = .ok (.ifCond .ne 25, 3) := by decide +kernel
theorem dJ2_getChar_3b067_6 : decode cJ2_getChar_3b067 6 = .ok (.iload_n 1, 1) := by decide +kernel
theorem dJ2_getChar_3b067_7 : decode cJ2_getChar_3b067 7 = .ok (.ifCond .lt 11, 3) := by decide +kernel
theorem dJ2_getChar_3b067_10 : decode cJ2_getChar_3b067 10 = .ok (.iload_n 1, 1) := by decide +kernel
theorem dJ2_getChar_3b067_11 : decode cJ2_getChar_3b067 11 = .ok (.aload_n 0, 1) := by decide +kernel
theorem dJ2_getChar_3b067_12 : decode cJ2_getChar_3b067 12 = .ok (.invokestatic 48, 3) := by decide +kernel
theorem dJ2_getChar_3b067_15 : decode cJ2_getChar_3b067 15 = .ok (.if_icmp .lt 13, 3) := by decide +kernel
theorem dJ2_getChar_3b067_18 : decode cJ2_getChar_3b067 18 = .ok (.new 52, 3) := by decide +kernel
theorem dJ2_getChar_3b067_21 : decode cJ2_getChar_3b067 21 = .ok (.dup, 1) := by decide +kernel
theorem dJ2_getChar_3b067_22 : decode cJ2_getChar_3b067 22 = .ok (.ldc 54, 2) := by decide +kernel
theorem dJ2_getChar_3b067_24 : decode cJ2_getChar_3b067 24 = .ok (.invokespecial 56, 3) := by decide +kernel
theorem dJ2_getChar_3b067_27 : decode cJ2_getChar_3b067 27 = .ok (.athrow, 1) := by decide +kernel
theorem dJ2_getChar_3b067_28 : decode cJ2_getChar_3b067 28 = .ok (.iload_n 1, 1) := by decide +kernel
theorem dJ2_getChar_3b067_29 : decode cJ2_getChar_3b067 29 = .ok (.iconst 1, 1) := by decide +kernel
theorem dJ2_getChar_3b067_30 : decode cJ2_getChar_3b067 30 = .ok (.ishl, 1) := by decide +kernel
theorem dJ2_getChar_3b067_31 : decode cJ2_getChar_3b067 31 = .ok (.istore_n 1, 1) := by decide +kernel
theorem dJ2_getChar_3b067_32 : decode cJ2_getChar_3b067 32 = .ok (.aload_n 0, 1) := by decide +kernel
theorem dJ2_getChar_3b067_33 : decode cJ2_getChar_3b067 33 = .ok (.iload_n 1, 1) := by decide +kernel
theorem dJ2_getChar_3b067_34 : decode cJ2_getChar_3b067 34 = .ok (.iinc 1 1, 3) := by decide +kernel
theorem dJ2_getChar_3b067_37 : decode cJ2_getChar_3b067 37 = .ok (.baload, 1) := by decide +kernel
theorem dJ2_getChar_3b067_38 : decode cJ2_getChar_3b067 38 = .ok (.sipush 255, 3) := by decide +kernel
theorem dJ2_getChar_3b067_41 : decode cJ2_getChar_3b067 41 = .ok (.iand, 1) := by decide +kernel
theorem dJ2_getChar_3b067_42 : decode cJ2_getChar_3b067 42 = .ok (.getstatic 59, 3) := by decide +kernel
theorem dJ2_getChar_3b067_45 : decode cJ2_getChar_3b067 45 = .ok (.ishl, 1) := by decide +kernel
theorem dJ2_getChar_3b067_46 : decode cJ2_getChar_3b067 46 = .ok (.aload_n 0, 1) := by decide +kernel
theorem dJ2_getChar_3b067_47 : decode cJ2_getChar_3b067 47 = .ok (.iload_n 1, 1) := by decide +kernel
theorem dJ2_getChar_3b067_48 : decode cJ2_getChar_3b067 48 = .ok (.baload, 1) := by decide +kernel
theorem dJ2_getChar_3b067_49 : decode cJ2_getChar_3b067 49 = .ok (.sipush 255, 3) := by decide +kernel
theorem dJ2_getChar_3b067_52 : decode cJ2_getChar_3b067 52 = .ok (.iand, 1) := by decide +kernel
theorem dJ2_getChar_3b067_53 : decode cJ2_getChar_3b067 53 = .ok (.getstatic 63, 3) := by decide +kernel
theorem dJ2_getChar_3b067_56 : decode cJ2_getChar_3b067 56 = .ok (.ishl, 1) := by decide +kernel
theorem dJ2_getChar_3b067_57 : decode cJ2_getChar_3b067 57 = .ok (.ior, 1) := by decide +kernel
theorem dJ2_getChar_3b067_58 : decode cJ2_getChar_3b067 58 = .ok (.i2c, 1) := by decide +kernel
theorem dJ2_getChar_3b067_59 : decode cJ2_getChar_3b067 59 = .ok (.ireturn, 1) := by decide +kernel
theorem dJ2_length_9d52b_0 : decode cJ2_length_9d52b 0 = .ok (.aload_n 0, 1) := by decide +kernel
theorem dJ2_length_9d52b_1 : decode cJ2_length_9d52b 1 = .ok (.arraylength, 1) := by decide +kernel
theorem dJ2_length_9d52b_2 : decode cJ2_length_9d52b 2 = .ok (.iconst 1, 1) := by decide +kernel
theorem dJ2_length_9d52b_3 : decode cJ2_length_9d52b 3 = .ok (.ishr, 1) := by decide +kernel
theorem dJ2_length_9d52b_4 : decode cJ2_length_9d52b 4 = .ok (.ireturn, 1) := by decide +kernel
theorem dJ2_charAt_3b067_0 : decode cJ2_charAt_3b067 0 = .ok (.iload_n 1, 1) := by decide +kernel
theorem dJ2_charAt_3b067_1 : decode cJ2_charAt_3b067 1 = .ok (.aload_n 0, 1) := by decide +kernel
theorem dJ2_charAt_3b067_2 : decode cJ2_charAt_3b067 2 = .ok (.invokestatic 67, 3) := by decide +kernel
theorem dJ2_charAt_3b067_5 : decode cJ2_charAt_3b067 5 = .ok (.aload_n 0, 1) := by decide +kernel
theorem dJ2_charAt_3b067_6 : decode cJ2_charAt_3b067 6 = .ok (.iload_n 1, 1) := by decide +kernel
theorem dJ2_charAt_3b067_7 : decode cJ2_charAt_3b067 7 = .ok (.invokestatic 71, 3) := by decide +kernel
theorem dJ2_charAt_3b067_10 : decode cJ2_charAt_3b067 10 = .ok (.ireturn, 1) := by decide +kernel
theorem dJ2_checkIndex_2214a_0 : decode cJ2_checkIndex_2214a 0 = .ok (.iload_n 0, 1) := by decide +kernel
theorem dJ2_checkIndex_2214a_1 : decode cJ2_checkIndex_2214a 1 = .ok (.aload_n 1, 1) := by decide +kernel
theorem dJ2_checkIndex_2214a_2 : decode cJ2_checkIndex_2214a 2 = .ok (.invokestatic 48, 3) := by decide +kernel
theorem dJ2_checkIndex_2214a_5 : decode cJ2_checkIndex_2214a 5 = .ok (.invokestatic 414, 3) := by decide +kernel
theorem dJ2_checkIndex_2214a_8 : decode cJ2_checkIndex_2214a 8 = .ok (.return_, 1) := by decide +kernel
theorem dJ3_checkIndex_8e157_0 : decode cJ3_checkIndex_8e157 0 = .ok (.iload_n 0, 1) := by decide +kernel
theorem dJ3_checkIndex_8e157_1 : decode cJ3_checkIndex_8e157 1 = .ok (.ifCond .lt 8, 3) := by decide +kernel
theorem dJ3_checkIndex_8e157_4 : decode cJ3_checkIndex_8e157 4 = .ok (.iload_n 0, 1) := by decide +kernel
theorem dJ3_checkIndex_8e157_5 : decode cJ3_checkIndex_8e157 5 = .ok (.iload_n 1, 1) := by decide +kernel
theorem dJ3_checkIndex_8e157_6 : decode cJ3_checkIndex_8e157 6 = .ok (.if_icmp .lt 10, 3) := by decide +kernel
theorem dJ3_checkIndex_8e157_9 : decode cJ3_checkIndex_8e157 9 = .ok (.aload_n 2, 1) := by decide +kernel
theorem dJ3_checkIndex_8e157_10 : decode cJ3_checkIndex_8e157 10 = .ok (.iload_n 0, 1) := by decide +kernel
theorem dJ3_checkIndex_8e157_11 : decode cJ3_checkIndex_8e157 11 = .ok (.iload_n 1, 1) := by decide +kernel
theorem dJ3_checkIndex_8e157_12 : decode cJ3_checkIndex_8e157 12 = .ok (.invokestatic 95, 3) := by decide +kernel
theorem dJ3_checkIndex_8e157_15 : decode cJ3_checkIndex_8e157 15 = .ok (.athrow, 1) := by decide +kernel
theorem dJ3_checkIndex_8e157_16 : decode cJ3_checkIndex_8e157 16 = .ok (.iload_n 0, 1) := by decide +kernel
theorem dJ3_checkIndex_8e157_17 : decode cJ3_checkIndex_8e157 17 = .ok (.ireturn, 1) := by decide +kernel
theorem dL_law_0 : decode cL_law 0 = .ok (.new 7, 3) := by decide +kernel
theorem dL_law_3 : decode cL_law 3 = .ok (.dup, 1) := by decide +kernel
theorem dL_law_4 : decode cL_law 4 = .ok (.invokespecial 9, 3) := by decide +kernel
theorem dL_law_7 : decode cL_law 7 = .ok (.astore_n 1, 1) := by decide +kernel
theorem dL_law_8 : decode cL_law 8 = .ok (.new 10, 3) := by decide +kernel
theorem dL_law_11 : decode cL_law 11 = .ok (.dup, 1) := by decide +kernel
theorem dL_law_12 : decode cL_law 12 = .ok (.invokespecial 12, 3) := by decide +kernel
theorem dL_law_15 : decode cL_law 15 = .ok (.astore_n 2, 1) := by decide +kernel
theorem dL_law_16 : decode cL_law 16 = .ok (.iconst 0, 1) := by decide +kernel
theorem dL_law_17 : decode cL_law 17 = .ok (.istore_n 3, 1) := by decide +kernel
theorem dL_law_18 : decode cL_law 18 = .ok (.iload_n 3, 1) := by decide +kernel
theorem dL_law_19 : decode cL_law 19 = .ok (.aload_n 0, 1) := by decide +kernel
theorem dL_law_20 : decode cL_law 20 = .ok (.arraylength, 1) := by decide +kernel
theorem dL_law_21 : decode cL_law 21 = .ok (.bipush 6, 2) := by decide +kernel
theorem dL_law_23 : decode cL_law 23 = .ok (.isub, 1) := by decide +kernel
theorem dL_law_24 : decode cL_law 24 = .ok (.if_icmp .gt 914, 3) := by decide +kernel
theorem dL_law_27 : decode cL_law 27 = .ok (.aload_n 0, 1) := by decide +kernel
theorem dL_law_28 : decode cL_law 28 = .ok (.iload_n 3, 1) := by decide +kernel
theorem dL_law_29 : decode cL_law 29 = .ok (.iaload, 1) := by decide +kernel
theorem dL_law_30 : decode cL_law 30 = .ok (.bipush 31, 2) := by decide +kernel
theorem dL_law_32 : decode cL_law 32 = .ok (.iand, 1) := by decide +kernel
theorem dL_law_33 : decode cL_law 33 = .ok (.tableswitch 899 0 21 #[103, 166, 189, 202, 215, 238, 281, 324, 357, 390, 433, 476, 519, 562, 605, 648, 691, 744, 797, 820, 843, 886], 103) := by decide +kernel
theorem dL_law_136 : decode cL_law 136 = .ok (.aload_n 1, 1) := by decide +kernel
theorem dL_law_137 : decode cL_law 137 = .ok (.aload_n 0, 1) := by decide +kernel
theorem dL_law_138 : decode cL_law 138 = .ok (.iload_n 3, 1) := by decide +kernel
theorem dL_law_139 : decode cL_law 139 = .ok (.iconst 1, 1) := by decide +kernel
theorem dL_law_140 : decode cL_law 140 = .ok (.iadd, 1) := by decide +kernel
theorem dL_law_141 : decode cL_law 141 = .ok (.iaload, 1) := by decide +kernel
theorem dL_law_142 : decode cL_law 142 = .ok (.aload_n 0, 1) := by decide +kernel
theorem dL_law_143 : decode cL_law 143 = .ok (.iload_n 3, 1) := by decide +kernel
theorem dL_law_144 : decode cL_law 144 = .ok (.iconst 2, 1) := by decide +kernel
theorem dL_law_145 : decode cL_law 145 = .ok (.iadd, 1) := by decide +kernel
theorem dL_law_146 : decode cL_law 146 = .ok (.iaload, 1) := by decide +kernel
theorem dL_law_147 : decode cL_law 147 = .ok (.aload_n 0, 1) := by decide +kernel
theorem dL_law_148 : decode cL_law 148 = .ok (.iload_n 3, 1) := by decide +kernel
theorem dL_law_149 : decode cL_law 149 = .ok (.iconst 3, 1) := by decide +kernel
theorem dL_law_150 : decode cL_law 150 = .ok (.iadd, 1) := by decide +kernel
theorem dL_law_151 : decode cL_law 151 = .ok (.iaload, 1) := by decide +kernel
theorem dL_law_152 : decode cL_law 152 = .ok (.aload_n 0, 1) := by decide +kernel
theorem dL_law_153 : decode cL_law 153 = .ok (.iload_n 3, 1) := by decide +kernel
theorem dL_law_154 : decode cL_law 154 = .ok (.iconst 4, 1) := by decide +kernel
theorem dL_law_155 : decode cL_law 155 = .ok (.iadd, 1) := by decide +kernel
theorem dL_law_156 : decode cL_law 156 = .ok (.iaload, 1) := by decide +kernel
theorem dL_law_157 : decode cL_law 157 = .ok (.aload_n 0, 1) := by decide +kernel
theorem dL_law_158 : decode cL_law 158 = .ok (.iload_n 3, 1) := by decide +kernel
theorem dL_law_159 : decode cL_law 159 = .ok (.iconst 5, 1) := by decide +kernel
theorem dL_law_160 : decode cL_law 160 = .ok (.iadd, 1) := by decide +kernel
theorem dL_law_161 : decode cL_law 161 = .ok (.iaload, 1) := by decide +kernel
theorem dL_law_162 : decode cL_law 162 = .ok (.invokevirtual 13, 3) := by decide +kernel
theorem dL_law_165 : decode cL_law 165 = .ok (.aload_n 2, 1) := by decide +kernel
theorem dL_law_166 : decode cL_law 166 = .ok (.aload_n 0, 1) := by decide +kernel
theorem dL_law_167 : decode cL_law 167 = .ok (.iload_n 3, 1) := by decide +kernel
theorem dL_law_168 : decode cL_law 168 = .ok (.iconst 1, 1) := by decide +kernel
theorem dL_law_169 : decode cL_law 169 = .ok (.iadd, 1) := by decide +kernel
theorem dL_law_170 : decode cL_law 170 = .ok (.iaload, 1) := by decide +kernel
theorem dL_law_171 : decode cL_law 171 = .ok (.aload_n 0, 1) := by decide +kernel
theorem dL_law_172 : decode cL_law 172 = .ok (.iload_n 3, 1) := by decide +kernel
theorem dL_law_173 : decode cL_law 173 = .ok (.iconst 2, 1) := by decide +kernel
theorem dL_law_174 : decode cL_law 174 = .ok (.iadd, 1) := by decide +kernel
theorem dL_law_175 : decode cL_law 175 = .ok (.iaload, 1) := by decide +kernel
theorem dL_law_176 : decode cL_law 176 = .ok (.aload_n 0, 1) := by decide +kernel
theorem dL_law_177 : decode cL_law 177 = .ok (.iload_n 3, 1) := by decide +kernel
theorem dL_law_178 : decode cL_law 178 = .ok (.iconst 3, 1) := by decide +kernel
theorem dL_law_179 : decode cL_law 179 = .ok (.iadd, 1) := by decide +kernel
theorem dL_law_180 : decode cL_law 180 = .ok (.iaload, 1) := by decide +kernel
theorem dL_law_181 : decode cL_law 181 = .ok (.aload_n 0, 1) := by decide +kernel
theorem dL_law_182 : decode cL_law 182 = .ok (.iload_n 3, 1) := by decide +kernel
theorem dL_law_183 : decode cL_law 183 = .ok (.iconst 4, 1) := by decide +kernel
theorem dL_law_184 : decode cL_law 184 = .ok (.iadd, 1) := by decide +kernel
theorem dL_law_185 : decode cL_law 185 = .ok (.iaload, 1) := by decide +kernel
theorem dL_law_186 : decode cL_law 186 = .ok (.aload_n 0, 1) := by decide +kernel
theorem dL_law_187 : decode cL_law 187 = .ok (.iload_n 3, 1) := by decide +kernel
theorem dL_law_188 : decode cL_law 188 = .ok (.iconst 5, 1) := by decide +kernel
theorem dL_law_189 : decode cL_law 189 = .ok (.iadd, 1) := by decide +kernel
theorem dL_law_190 : decode cL_law 190 = .ok (.iaload, 1) := by decide +kernel
theorem dL_law_191 : decode cL_law 191 = .ok (.invokevirtual 17, 3) := by decide +kernel
theorem dL_law_194 : decode cL_law 194 = .ok (.if_icmp .eq 738, 3) := by decide +kernel
theorem dL_law_197 : decode cL_law 197 = .ok (.iconst 0, 1) := by decide +kernel
theorem dL_law_198 : decode cL_law 198 = .ok (.ireturn, 1) := by decide +kernel
theorem dL_law_199 : decode cL_law 199 = .ok (.aload_n 1, 1) := by decide +kernel
theorem dL_law_200 : decode cL_law 200 = .ok (.aload_n 0, 1) := by decide +kernel
theorem dL_law_201 : decode cL_law 201 = .ok (.iload_n 3, 1) := by decide +kernel
theorem dL_law_202 : decode cL_law 202 = .ok (.iconst 1, 1) := by decide +kernel
theorem dL_law_203 : decode cL_law 203 = .ok (.iadd, 1) := by decide +kernel
theorem dL_law_204 : decode cL_law 204 = .ok (.iaload, 1) := by decide +kernel
theorem dL_law_205 : decode cL_law 205 = .ok (.invokevirtual 18, 3) := by decide +kernel
theorem dL_law_208 : decode cL_law 208 = .ok (.aload_n 2, 1) := by decide +kernel
theorem dL_law_209 : decode cL_law 209 = .ok (.aload_n 0, 1) := by decide +kernel
theorem dL_law_210 : decode cL_law 210 = .ok (.iload_n 3, 1) := by decide +kernel
theorem dL_law_211 : decode cL_law 211 = .ok (.iconst 1, 1) := by decide +kernel
theorem dL_law_212 : decode cL_law 212 = .ok (.iadd, 1) := by decide +kernel
theorem dL_law_213 : decode cL_law 213 = .ok (.iaload, 1) := by decide +kernel
theorem dL_law_214 : decode cL_law 214 = .ok (.invokevirtual 22, 3) := by decide +kernel
theorem dL_law_217 : decode cL_law 217 = .ok (.if_icmp .eq 715, 3) := by decide +kernel
theorem dL_law_220 : decode cL_law 220 = .ok (.iconst 0, 1) := by decide +kernel
theorem dL_law_221 : decode cL_law 221 = .ok (.ireturn, 1) := by decide +kernel
theorem dL_law_222 : decode cL_law 222 = .ok (.aload_n 1, 1) := by decide +kernel
theorem dL_law_223 : decode cL_law 223 = .ok (.invokevirtual 23, 3) := by decide +kernel
theorem dL_law_226 : decode cL_law 226 = .ok (.aload_n 2, 1) := by decide +kernel
theorem dL_law_227 : decode cL_law 227 = .ok (.invokevirtual 27, 3) := by decide +kernel
theorem dL_law_230 : decode cL_law 230 = .ok (.if_icmp .eq 702, 3) := by decide +kernel
theorem dL_law_233 : decode cL_law 233 = .ok (.iconst 0, 1) := by decide +kernel
theorem dL_law_234 : decode cL_law 234 = .ok (.ireturn, 1) := by decide +kernel
theorem dL_law_235 : decode cL_law 235 = .ok (.aload_n 1, 1) := by decide +kernel
theorem dL_law_236 : decode cL_law 236 = .ok (.invokevirtual 28, 3) := by decide +kernel
theorem dL_law_239 : decode cL_law 239 = .ok (.aload_n 2, 1) := by decide +kernel
theorem dL_law_240 : decode cL_law 240 = .ok (.invokevirtual 31, 3) := by decide +kernel
theorem dL_law_243 : decode cL_law 243 = .ok (.if_icmp .eq 689, 3) := by decide +kernel
theorem dL_law_246 : decode cL_law 246 = .ok (.iconst 0, 1) := by decide +kernel
theorem dL_law_247 : decode cL_law 247 = .ok (.ireturn, 1) := by decide +kernel
theorem dL_law_248 : decode cL_law 248 = .ok (.aload_n 1, 1) := by decide +kernel
theorem dL_law_249 : decode cL_law 249 = .ok (.aload_n 0, 1) := by decide +kernel
theorem dL_law_250 : decode cL_law 250 = .ok (.iload_n 3, 1) := by decide +kernel
theorem dL_law_251 : decode cL_law 251 = .ok (.iconst 1, 1) := by decide +kernel
theorem dL_law_252 : decode cL_law 252 = .ok (.iadd, 1) := by decide +kernel
theorem dL_law_253 : decode cL_law 253 = .ok (.iaload, 1) := by decide +kernel
theorem dL_law_254 : decode cL_law 254 = .ok (.invokevirtual 32, 3) := by decide +kernel
theorem dL_law_257 : decode cL_law 257 = .ok (.aload_n 2, 1) := by decide +kernel
theorem dL_law_258 : decode cL_law 258 = .ok (.aload_n 0, 1) := by decide +kernel
theorem dL_law_259 : decode cL_law 259 = .ok (.iload_n 3, 1) := by decide +kernel
theorem dL_law_260 : decode cL_law 260 = .ok (.iconst 1, 1) := by decide +kernel
theorem dL_law_261 : decode cL_law 261 = .ok (.iadd, 1) := by decide +kernel
theorem dL_law_262 : decode cL_law 262 = .ok (.iaload, 1) := by decide +kernel
theorem dL_law_263 : decode cL_law 263 = .ok (.invokevirtual 36, 3) := by decide +kernel
theorem dL_law_266 : decode cL_law 266 = .ok (.if_icmp .eq 666, 3) := by decide +kernel
theorem dL_law_269 : decode cL_law 269 = .ok (.iconst 0, 1) := by decide +kernel
theorem dL_law_270 : decode cL_law 270 = .ok (.ireturn, 1) := by decide +kernel
theorem dL_law_271 : decode cL_law 271 = .ok (.aload_n 1, 1) := by decide +kernel
theorem dL_law_272 : decode cL_law 272 = .ok (.aload_n 0, 1) := by decide +kernel
theorem dL_law_273 : decode cL_law 273 = .ok (.iload_n 3, 1) := by decide +kernel
theorem dL_law_274 : decode cL_law 274 = .ok (.iconst 1, 1) := by decide +kernel
theorem dL_law_275 : decode cL_law 275 = .ok (.iadd, 1) := by decide +kernel
theorem dL_law_276 : decode cL_law 276 = .ok (.iaload, 1) := by decide +kernel
theorem dL_law_277 : decode cL_law 277 = .ok (.aload_n 0, 1) := by decide +kernel
theorem dL_law_278 : decode cL_law 278 = .ok (.iload_n 3, 1) := by decide +kernel
theorem dL_law_279 : decode cL_law 279 = .ok (.iconst 2, 1) := by decide +kernel
theorem dL_law_280 : decode cL_law 280 = .ok (.iadd, 1) := by decide +kernel
theorem dL_law_281 : decode cL_law 281 = .ok (.iaload, 1) := by decide +kernel
theorem dL_law_282 : decode cL_law 282 = .ok (.aload_n 0, 1) := by decide +kernel
theorem dL_law_283 : decode cL_law 283 = .ok (.iload_n 3, 1) := by decide +kernel
theorem dL_law_284 : decode cL_law 284 = .ok (.iconst 3, 1) := by decide +kernel
theorem dL_law_285 : decode cL_law 285 = .ok (.iadd, 1) := by decide +kernel
theorem dL_law_286 : decode cL_law 286 = .ok (.iaload, 1) := by decide +kernel
theorem dL_law_287 : decode cL_law 287 = .ok (.invokevirtual 37, 3) := by decide +kernel
theorem dL_law_290 : decode cL_law 290 = .ok (.aload_n 2, 1) := by decide +kernel
theorem dL_law_291 : decode cL_law 291 = .ok (.aload_n 0, 1) := by decide +kernel
theorem dL_law_292 : decode cL_law 292 = .ok (.iload_n 3, 1) := by decide +kernel
theorem dL_law_293 : decode cL_law 293 = .ok (.iconst 1, 1) := by decide +kernel
theorem dL_law_294 : decode cL_law 294 = .ok (.iadd, 1) := by decide +kernel
theorem dL_law_295 : decode cL_law 295 = .ok (.iaload, 1) := by decide +kernel
theorem dL_law_296 : decode cL_law 296 = .ok (.aload_n 0, 1) := by decide +kernel
theorem dL_law_297 : decode cL_law 297 = .ok (.iload_n 3, 1) := by decide +kernel
theorem dL_law_298 : decode cL_law 298 = .ok (.iconst 2, 1) := by decide +kernel
theorem dL_law_299 : decode cL_law 299 = .ok (.iadd, 1) := by decide +kernel
theorem dL_law_300 : decode cL_law 300 = .ok (.iaload, 1) := by decide +kernel
theorem dL_law_301 : decode cL_law 301 = .ok (.aload_n 0, 1) := by decide +kernel
theorem dL_law_302 : decode cL_law 302 = .ok (.iload_n 3, 1) := by decide +kernel
theorem dL_law_303 : decode cL_law 303 = .ok (.iconst 3, 1) := by decide +kernel
theorem dL_law_304 : decode cL_law 304 = .ok (.iadd, 1) := by decide +kernel
theorem dL_law_305 : decode cL_law 305 = .ok (.iaload, 1) := by decide +kernel
theorem dL_law_306 : decode cL_law 306 = .ok (.invokevirtual 41, 3) := by decide +kernel
theorem dL_law_309 : decode cL_law 309 = .ok (.if_icmp .eq 623, 3) := by decide +kernel
theorem dL_law_312 : decode cL_law 312 = .ok (.iconst 0, 1) := by decide +kernel
theorem dL_law_313 : decode cL_law 313 = .ok (.ireturn, 1) := by decide +kernel
theorem dL_law_314 : decode cL_law 314 = .ok (.aload_n 1, 1) := by decide +kernel
theorem dL_law_315 : decode cL_law 315 = .ok (.aload_n 0, 1) := by decide +kernel
theorem dL_law_316 : decode cL_law 316 = .ok (.iload_n 3, 1) := by decide +kernel
theorem dL_law_317 : decode cL_law 317 = .ok (.iconst 1, 1) := by decide +kernel
theorem dL_law_318 : decode cL_law 318 = .ok (.iadd, 1) := by decide +kernel
theorem dL_law_319 : decode cL_law 319 = .ok (.iaload, 1) := by decide +kernel
theorem dL_law_320 : decode cL_law 320 = .ok (.aload_n 0, 1) := by decide +kernel
theorem dL_law_321 : decode cL_law 321 = .ok (.iload_n 3, 1) := by decide +kernel
theorem dL_law_322 : decode cL_law 322 = .ok (.iconst 2, 1) := by decide +kernel
theorem dL_law_323 : decode cL_law 323 = .ok (.iadd, 1) := by decide +kernel
theorem dL_law_324 : decode cL_law 324 = .ok (.iaload, 1) := by decide +kernel
theorem dL_law_325 : decode cL_law 325 = .ok (.aload_n 0, 1) := by decide +kernel
theorem dL_law_326 : decode cL_law 326 = .ok (.iload_n 3, 1) := by decide +kernel
theorem dL_law_327 : decode cL_law 327 = .ok (.iconst 3, 1) := by decide +kernel
theorem dL_law_328 : decode cL_law 328 = .ok (.iadd, 1) := by decide +kernel
theorem dL_law_329 : decode cL_law 329 = .ok (.iaload, 1) := by decide +kernel
theorem dL_law_330 : decode cL_law 330 = .ok (.invokevirtual 42, 3) := by decide +kernel
theorem dL_law_333 : decode cL_law 333 = .ok (.aload_n 2, 1) := by decide +kernel
theorem dL_law_334 : decode cL_law 334 = .ok (.aload_n 0, 1) := by decide +kernel
theorem dL_law_335 : decode cL_law 335 = .ok (.iload_n 3, 1) := by decide +kernel
theorem dL_law_336 : decode cL_law 336 = .ok (.iconst 1, 1) := by decide +kernel
theorem dL_law_337 : decode cL_law 337 = .ok (.iadd, 1) := by decide +kernel
theorem dL_law_338 : decode cL_law 338 = .ok (.iaload, 1) := by decide +kernel
theorem dL_law_339 : decode cL_law 339 = .ok (.aload_n 0, 1) := by decide +kernel
theorem dL_law_340 : decode cL_law 340 = .ok (.iload_n 3, 1) := by decide +kernel
theorem dL_law_341 : decode cL_law 341 = .ok (.iconst 2, 1) := by decide +kernel
theorem dL_law_342 : decode cL_law 342 = .ok (.iadd, 1) := by decide +kernel
theorem dL_law_343 : decode cL_law 343 = .ok (.iaload, 1) := by decide +kernel
theorem dL_law_344 : decode cL_law 344 = .ok (.aload_n 0, 1) := by decide +kernel
theorem dL_law_345 : decode cL_law 345 = .ok (.iload_n 3, 1) := by decide +kernel
theorem dL_law_346 : decode cL_law 346 = .ok (.iconst 3, 1) := by decide +kernel
theorem dL_law_347 : decode cL_law 347 = .ok (.iadd, 1) := by decide +kernel
theorem dL_law_348 : decode cL_law 348 = .ok (.iaload, 1) := by decide +kernel
theorem dL_law_349 : decode cL_law 349 = .ok (.invokevirtual 45, 3) := by decide +kernel
theorem dL_law_352 : decode cL_law 352 = .ok (.if_icmp .eq 580, 3) := by decide +kernel
theorem dL_law_355 : decode cL_law 355 = .ok (.iconst 0, 1) := by decide +kernel
theorem dL_law_356 : decode cL_law 356 = .ok (.ireturn, 1) := by decide +kernel
theorem dL_law_357 : decode cL_law 357 = .ok (.aload_n 1, 1) := by decide +kernel
theorem dL_law_358 : decode cL_law 358 = .ok (.aload_n 0, 1) := by decide +kernel
theorem dL_law_359 : decode cL_law 359 = .ok (.iload_n 3, 1) := by decide +kernel
theorem dL_law_360 : decode cL_law 360 = .ok (.iconst 1, 1) := by decide +kernel
theorem dL_law_361 : decode cL_law 361 = .ok (.iadd, 1) := by decide +kernel
theorem dL_law_362 : decode cL_law 362 = .ok (.iaload, 1) := by decide +kernel
theorem dL_law_363 : decode cL_law 363 = .ok (.aload_n 0, 1) := by decide +kernel
theorem dL_law_364 : decode cL_law 364 = .ok (.iload_n 3, 1) := by decide +kernel
theorem dL_law_365 : decode cL_law 365 = .ok (.iconst 2, 1) := by decide +kernel
theorem dL_law_366 : decode cL_law 366 = .ok (.iadd, 1) := by decide +kernel
theorem dL_law_367 : decode cL_law 367 = .ok (.iaload, 1) := by decide +kernel
theorem dL_law_368 : decode cL_law 368 = .ok (.invokevirtual 46, 3) := by decide +kernel
theorem dL_law_371 : decode cL_law 371 = .ok (.aload_n 2, 1) := by decide +kernel
theorem dL_law_372 : decode cL_law 372 = .ok (.aload_n 0, 1) := by decide +kernel
theorem dL_law_373 : decode cL_law 373 = .ok (.iload_n 3, 1) := by decide +kernel
theorem dL_law_374 : decode cL_law 374 = .ok (.iconst 1, 1) := by decide +kernel
theorem dL_law_375 : decode cL_law 375 = .ok (.iadd, 1) := by decide +kernel
theorem dL_law_376 : decode cL_law 376 = .ok (.iaload, 1) := by decide +kernel
theorem dL_law_377 : decode cL_law 377 = .ok (.aload_n 0, 1) := by decide +kernel
theorem dL_law_378 : decode cL_law 378 = .ok (.iload_n 3, 1) := by decide +kernel
theorem dL_law_379 : decode cL_law 379 = .ok (.iconst 2, 1) := by decide +kernel
theorem dL_law_380 : decode cL_law 380 = .ok (.iadd, 1) := by decide +kernel
theorem dL_law_381 : decode cL_law 381 = .ok (.iaload, 1) := by decide +kernel
theorem dL_law_382 : decode cL_law 382 = .ok (.invokevirtual 50, 3) := by decide +kernel
theorem dL_law_385 : decode cL_law 385 = .ok (.if_icmp .eq 547, 3) := by decide +kernel
theorem dL_law_388 : decode cL_law 388 = .ok (.iconst 0, 1) := by decide +kernel
theorem dL_law_389 : decode cL_law 389 = .ok (.ireturn, 1) := by decide +kernel
theorem dL_law_390 : decode cL_law 390 = .ok (.aload_n 1, 1) := by decide +kernel
theorem dL_law_391 : decode cL_law 391 = .ok (.aload_n 0, 1) := by decide +kernel
theorem dL_law_392 : decode cL_law 392 = .ok (.iload_n 3, 1) := by decide +kernel
theorem dL_law_393 : decode cL_law 393 = .ok (.iconst 1, 1) := by decide +kernel
theorem dL_law_394 : decode cL_law 394 = .ok (.iadd, 1) := by decide +kernel
theorem dL_law_395 : decode cL_law 395 = .ok (.iaload, 1) := by decide +kernel
theorem dL_law_396 : decode cL_law 396 = .ok (.aload_n 0, 1) := by decide +kernel
theorem dL_law_397 : decode cL_law 397 = .ok (.iload_n 3, 1) := by decide +kernel
theorem dL_law_398 : decode cL_law 398 = .ok (.iconst 2, 1) := by decide +kernel
theorem dL_law_399 : decode cL_law 399 = .ok (.iadd, 1) := by decide +kernel
theorem dL_law_400 : decode cL_law 400 = .ok (.iaload, 1) := by decide +kernel
theorem dL_law_401 : decode cL_law 401 = .ok (.invokevirtual 51, 3) := by decide +kernel
theorem dL_law_404 : decode cL_law 404 = .ok (.aload_n 2, 1) := by decide +kernel
theorem dL_law_405 : decode cL_law 405 = .ok (.aload_n 0, 1) := by decide +kernel
theorem dL_law_406 : decode cL_law 406 = .ok (.iload_n 3, 1) := by decide +kernel
theorem dL_law_407 : decode cL_law 407 = .ok (.iconst 1, 1) := by decide +kernel
theorem dL_law_408 : decode cL_law 408 = .ok (.iadd, 1) := by decide +kernel
theorem dL_law_409 : decode cL_law 409 = .ok (.iaload, 1) := by decide +kernel
theorem dL_law_410 : decode cL_law 410 = .ok (.aload_n 0, 1) := by decide +kernel
theorem dL_law_411 : decode cL_law 411 = .ok (.iload_n 3, 1) := by decide +kernel
theorem dL_law_412 : decode cL_law 412 = .ok (.iconst 2, 1) := by decide +kernel
theorem dL_law_413 : decode cL_law 413 = .ok (.iadd, 1) := by decide +kernel
theorem dL_law_414 : decode cL_law 414 = .ok (.iaload, 1) := by decide +kernel
theorem dL_law_415 : decode cL_law 415 = .ok (.invokevirtual 54, 3) := by decide +kernel
theorem dL_law_418 : decode cL_law 418 = .ok (.if_icmp .eq 514, 3) := by decide +kernel
theorem dL_law_421 : decode cL_law 421 = .ok (.iconst 0, 1) := by decide +kernel
theorem dL_law_422 : decode cL_law 422 = .ok (.ireturn, 1) := by decide +kernel
theorem dL_law_423 : decode cL_law 423 = .ok (.aload_n 1, 1) := by decide +kernel
theorem dL_law_424 : decode cL_law 424 = .ok (.aload_n 0, 1) := by decide +kernel
theorem dL_law_425 : decode cL_law 425 = .ok (.iload_n 3, 1) := by decide +kernel
theorem dL_law_426 : decode cL_law 426 = .ok (.iconst 1, 1) := by decide +kernel
theorem dL_law_427 : decode cL_law 427 = .ok (.iadd, 1) := by decide +kernel
theorem dL_law_428 : decode cL_law 428 = .ok (.iaload, 1) := by decide +kernel
theorem dL_law_429 : decode cL_law 429 = .ok (.aload_n 0, 1) := by decide +kernel
theorem dL_law_430 : decode cL_law 430 = .ok (.iload_n 3, 1) := by decide +kernel
theorem dL_law_431 : decode cL_law 431 = .ok (.iconst 2, 1) := by decide +kernel
theorem dL_law_432 : decode cL_law 432 = .ok (.iadd, 1) := by decide +kernel
theorem dL_law_433 : decode cL_law 433 = .ok (.iaload, 1) := by decide +kernel
theorem dL_law_434 : decode cL_law 434 = .ok (.aload_n 0, 1) := by decide +kernel
theorem dL_law_435 : decode cL_law 435 = .ok (.iload_n 3, 1) := by decide +kernel
theorem dL_law_436 : decode cL_law 436 = .ok (.iconst 3, 1) := by decide +kernel
theorem dL_law_437 : decode cL_law 437 = .ok (.iadd, 1) := by decide +kernel
theorem dL_law_438 : decode cL_law 438 = .ok (.iaload, 1) := by decide +kernel
theorem dL_law_439 : decode cL_law 439 = .ok (.invokevirtual 55, 3) := by decide +kernel
theorem dL_law_442 : decode cL_law 442 = .ok (.aload_n 2, 1) := by decide +kernel
theorem dL_law_443 : decode cL_law 443 = .ok (.aload_n 0, 1) := by decide +kernel
theorem dL_law_444 : decode cL_law 444 = .ok (.iload_n 3, 1) := by decide +kernel
theorem dL_law_445 : decode cL_law 445 = .ok (.iconst 1, 1) := by decide +kernel
theorem dL_law_446 : decode cL_law 446 = .ok (.iadd, 1) := by decide +kernel
theorem dL_law_447 : decode cL_law 447 = .ok (.iaload, 1) := by decide +kernel
theorem dL_law_448 : decode cL_law 448 = .ok (.aload_n 0, 1) := by decide +kernel
theorem dL_law_449 : decode cL_law 449 = .ok (.iload_n 3, 1) := by decide +kernel
theorem dL_law_450 : decode cL_law 450 = .ok (.iconst 2, 1) := by decide +kernel
theorem dL_law_451 : decode cL_law 451 = .ok (.iadd, 1) := by decide +kernel
theorem dL_law_452 : decode cL_law 452 = .ok (.iaload, 1) := by decide +kernel
theorem dL_law_453 : decode cL_law 453 = .ok (.aload_n 0, 1) := by decide +kernel
theorem dL_law_454 : decode cL_law 454 = .ok (.iload_n 3, 1) := by decide +kernel
theorem dL_law_455 : decode cL_law 455 = .ok (.iconst 3, 1) := by decide +kernel
theorem dL_law_456 : decode cL_law 456 = .ok (.iadd, 1) := by decide +kernel
theorem dL_law_457 : decode cL_law 457 = .ok (.iaload, 1) := by decide +kernel
theorem dL_law_458 : decode cL_law 458 = .ok (.invokevirtual 58, 3) := by decide +kernel
theorem dL_law_461 : decode cL_law 461 = .ok (.if_icmp .eq 471, 3) := by decide +kernel
theorem dL_law_464 : decode cL_law 464 = .ok (.iconst 0, 1) := by decide +kernel
theorem dL_law_465 : decode cL_law 465 = .ok (.ireturn, 1) := by decide +kernel
theorem dL_law_466 : decode cL_law 466 = .ok (.aload_n 1, 1) := by decide +kernel
theorem dL_law_467 : decode cL_law 467 = .ok (.aload_n 0, 1) := by decide +kernel
theorem dL_law_468 : decode cL_law 468 = .ok (.iload_n 3, 1) := by decide +kernel
theorem dL_law_469 : decode cL_law 469 = .ok (.iconst 1, 1) := by decide +kernel
theorem dL_law_470 : decode cL_law 470 = .ok (.iadd, 1) := by decide +kernel
theorem dL_law_471 : decode cL_law 471 = .ok (.iaload, 1) := by decide +kernel
theorem dL_law_472 : decode cL_law 472 = .ok (.aload_n 0, 1) := by decide +kernel
theorem dL_law_473 : decode cL_law 473 = .ok (.iload_n 3, 1) := by decide +kernel
theorem dL_law_474 : decode cL_law 474 = .ok (.iconst 2, 1) := by decide +kernel
theorem dL_law_475 : decode cL_law 475 = .ok (.iadd, 1) := by decide +kernel
theorem dL_law_476 : decode cL_law 476 = .ok (.iaload, 1) := by decide +kernel
theorem dL_law_477 : decode cL_law 477 = .ok (.aload_n 0, 1) := by decide +kernel
theorem dL_law_478 : decode cL_law 478 = .ok (.iload_n 3, 1) := by decide +kernel
theorem dL_law_479 : decode cL_law 479 = .ok (.iconst 3, 1) := by decide +kernel
theorem dL_law_480 : decode cL_law 480 = .ok (.iadd, 1) := by decide +kernel
theorem dL_law_481 : decode cL_law 481 = .ok (.iaload, 1) := by decide +kernel
theorem dL_law_482 : decode cL_law 482 = .ok (.invokevirtual 59, 3) := by decide +kernel
theorem dL_law_485 : decode cL_law 485 = .ok (.aload_n 2, 1) := by decide +kernel
theorem dL_law_486 : decode cL_law 486 = .ok (.aload_n 0, 1) := by decide +kernel
theorem dL_law_487 : decode cL_law 487 = .ok (.iload_n 3, 1) := by decide +kernel
theorem dL_law_488 : decode cL_law 488 = .ok (.iconst 1, 1) := by decide +kernel
theorem dL_law_489 : decode cL_law 489 = .ok (.iadd, 1) := by decide +kernel
theorem dL_law_490 : decode cL_law 490 = .ok (.iaload, 1) := by decide +kernel
theorem dL_law_491 : decode cL_law 491 = .ok (.aload_n 0, 1) := by decide +kernel
theorem dL_law_492 : decode cL_law 492 = .ok (.iload_n 3, 1) := by decide +kernel
theorem dL_law_493 : decode cL_law 493 = .ok (.iconst 2, 1) := by decide +kernel
theorem dL_law_494 : decode cL_law 494 = .ok (.iadd, 1) := by decide +kernel
theorem dL_law_495 : decode cL_law 495 = .ok (.iaload, 1) := by decide +kernel
theorem dL_law_496 : decode cL_law 496 = .ok (.aload_n 0, 1) := by decide +kernel
theorem dL_law_497 : decode cL_law 497 = .ok (.iload_n 3, 1) := by decide +kernel
theorem dL_law_498 : decode cL_law 498 = .ok (.iconst 3, 1) := by decide +kernel
theorem dL_law_499 : decode cL_law 499 = .ok (.iadd, 1) := by decide +kernel
theorem dL_law_500 : decode cL_law 500 = .ok (.iaload, 1) := by decide +kernel
theorem dL_law_501 : decode cL_law 501 = .ok (.invokevirtual 62, 3) := by decide +kernel
theorem dL_law_504 : decode cL_law 504 = .ok (.if_icmp .eq 428, 3) := by decide +kernel
theorem dL_law_507 : decode cL_law 507 = .ok (.iconst 0, 1) := by decide +kernel
theorem dL_law_508 : decode cL_law 508 = .ok (.ireturn, 1) := by decide +kernel
theorem dL_law_509 : decode cL_law 509 = .ok (.aload_n 1, 1) := by decide +kernel
theorem dL_law_510 : decode cL_law 510 = .ok (.aload_n 0, 1) := by decide +kernel
theorem dL_law_511 : decode cL_law 511 = .ok (.iload_n 3, 1) := by decide +kernel
theorem dL_law_512 : decode cL_law 512 = .ok (.iconst 1, 1) := by decide +kernel
theorem dL_law_513 : decode cL_law 513 = .ok (.iadd, 1) := by decide +kernel
theorem dL_law_514 : decode cL_law 514 = .ok (.iaload, 1) := by decide +kernel
theorem dL_law_515 : decode cL_law 515 = .ok (.aload_n 0, 1) := by decide +kernel
theorem dL_law_516 : decode cL_law 516 = .ok (.iload_n 3, 1) := by decide +kernel
theorem dL_law_517 : decode cL_law 517 = .ok (.iconst 2, 1) := by decide +kernel
theorem dL_law_518 : decode cL_law 518 = .ok (.iadd, 1) := by decide +kernel
theorem dL_law_519 : decode cL_law 519 = .ok (.iaload, 1) := by decide +kernel
theorem dL_law_520 : decode cL_law 520 = .ok (.aload_n 0, 1) := by decide +kernel
theorem dL_law_521 : decode cL_law 521 = .ok (.iload_n 3, 1) := by decide +kernel
theorem dL_law_522 : decode cL_law 522 = .ok (.iconst 3, 1) := by decide +kernel
theorem dL_law_523 : decode cL_law 523 = .ok (.iadd, 1) := by decide +kernel
theorem dL_law_524 : decode cL_law 524 = .ok (.iaload, 1) := by decide +kernel
theorem dL_law_525 : decode cL_law 525 = .ok (.invokevirtual 63, 3) := by decide +kernel
theorem dL_law_528 : decode cL_law 528 = .ok (.aload_n 2, 1) := by decide +kernel
theorem dL_law_529 : decode cL_law 529 = .ok (.aload_n 0, 1) := by decide +kernel
theorem dL_law_530 : decode cL_law 530 = .ok (.iload_n 3, 1) := by decide +kernel
theorem dL_law_531 : decode cL_law 531 = .ok (.iconst 1, 1) := by decide +kernel
theorem dL_law_532 : decode cL_law 532 = .ok (.iadd, 1) := by decide +kernel
theorem dL_law_533 : decode cL_law 533 = .ok (.iaload, 1) := by decide +kernel
theorem dL_law_534 : decode cL_law 534 = .ok (.aload_n 0, 1) := by decide +kernel
theorem dL_law_535 : decode cL_law 535 = .ok (.iload_n 3, 1) := by decide +kernel
theorem dL_law_536 : decode cL_law 536 = .ok (.iconst 2, 1) := by decide +kernel
theorem dL_law_537 : decode cL_law 537 = .ok (.iadd, 1) := by decide +kernel
theorem dL_law_538 : decode cL_law 538 = .ok (.iaload, 1) := by decide +kernel
theorem dL_law_539 : decode cL_law 539 = .ok (.aload_n 0, 1) := by decide +kernel
theorem dL_law_540 : decode cL_law 540 = .ok (.iload_n 3, 1) := by decide +kernel
theorem dL_law_541 : decode cL_law 541 = .ok (.iconst 3, 1) := by decide +kernel
theorem dL_law_542 : decode cL_law 542 = .ok (.iadd, 1) := by decide +kernel
theorem dL_law_543 : decode cL_law 543 = .ok (.iaload, 1) := by decide +kernel
theorem dL_law_544 : decode cL_law 544 = .ok (.invokevirtual 66, 3) := by decide +kernel
theorem dL_law_547 : decode cL_law 547 = .ok (.if_icmp .eq 385, 3) := by decide +kernel
theorem dL_law_550 : decode cL_law 550 = .ok (.iconst 0, 1) := by decide +kernel
theorem dL_law_551 : decode cL_law 551 = .ok (.ireturn, 1) := by decide +kernel
theorem dL_law_552 : decode cL_law 552 = .ok (.aload_n 1, 1) := by decide +kernel
theorem dL_law_553 : decode cL_law 553 = .ok (.aload_n 0, 1) := by decide +kernel
theorem dL_law_554 : decode cL_law 554 = .ok (.iload_n 3, 1) := by decide +kernel
theorem dL_law_555 : decode cL_law 555 = .ok (.iconst 1, 1) := by decide +kernel
theorem dL_law_556 : decode cL_law 556 = .ok (.iadd, 1) := by decide +kernel
theorem dL_law_557 : decode cL_law 557 = .ok (.iaload, 1) := by decide +kernel
theorem dL_law_558 : decode cL_law 558 = .ok (.aload_n 0, 1) := by decide +kernel
theorem dL_law_559 : decode cL_law 559 = .ok (.iload_n 3, 1) := by decide +kernel
theorem dL_law_560 : decode cL_law 560 = .ok (.iconst 2, 1) := by decide +kernel
theorem dL_law_561 : decode cL_law 561 = .ok (.iadd, 1) := by decide +kernel
theorem dL_law_562 : decode cL_law 562 = .ok (.iaload, 1) := by decide +kernel
theorem dL_law_563 : decode cL_law 563 = .ok (.aload_n 0, 1) := by decide +kernel
theorem dL_law_564 : decode cL_law 564 = .ok (.iload_n 3, 1) := by decide +kernel
theorem dL_law_565 : decode cL_law 565 = .ok (.iconst 3, 1) := by decide +kernel
theorem dL_law_566 : decode cL_law 566 = .ok (.iadd, 1) := by decide +kernel
theorem dL_law_567 : decode cL_law 567 = .ok (.iaload, 1) := by decide +kernel
theorem dL_law_568 : decode cL_law 568 = .ok (.invokevirtual 67, 3) := by decide +kernel
theorem dL_law_571 : decode cL_law 571 = .ok (.aload_n 2, 1) := by decide +kernel
theorem dL_law_572 : decode cL_law 572 = .ok (.aload_n 0, 1) := by decide +kernel
theorem dL_law_573 : decode cL_law 573 = .ok (.iload_n 3, 1) := by decide +kernel
theorem dL_law_574 : decode cL_law 574 = .ok (.iconst 1, 1) := by decide +kernel
theorem dL_law_575 : decode cL_law 575 = .ok (.iadd, 1) := by decide +kernel
theorem dL_law_576 : decode cL_law 576 = .ok (.iaload, 1) := by decide +kernel
theorem dL_law_577 : decode cL_law 577 = .ok (.aload_n 0, 1) := by decide +kernel
theorem dL_law_578 : decode cL_law 578 = .ok (.iload_n 3, 1) := by decide +kernel
theorem dL_law_579 : decode cL_law 579 = .ok (.iconst 2, 1) := by decide +kernel
theorem dL_law_580 : decode cL_law 580 = .ok (.iadd, 1) := by decide +kernel
theorem dL_law_581 : decode cL_law 581 = .ok (.iaload, 1) := by decide +kernel
theorem dL_law_582 : decode cL_law 582 = .ok (.aload_n 0, 1) := by decide +kernel
theorem dL_law_583 : decode cL_law 583 = .ok (.iload_n 3, 1) := by decide +kernel
theorem dL_law_584 : decode cL_law 584 = .ok (.iconst 3, 1) := by decide +kernel
theorem dL_law_585 : decode cL_law 585 = .ok (.iadd, 1) := by decide +kernel
theorem dL_law_586 : decode cL_law 586 = .ok (.iaload, 1) := by decide +kernel
theorem dL_law_587 : decode cL_law 587 = .ok (.invokevirtual 70, 3) := by decide +kernel
theorem dL_law_590 : decode cL_law 590 = .ok (.if_icmp .eq 342, 3) := by decide +kernel
theorem dL_law_593 : decode cL_law 593 = .ok (.iconst 0, 1) := by decide +kernel
theorem dL_law_594 : decode cL_law 594 = .ok (.ireturn, 1) := by decide +kernel
theorem dL_law_595 : decode cL_law 595 = .ok (.aload_n 1, 1) := by decide +kernel
theorem dL_law_596 : decode cL_law 596 = .ok (.aload_n 0, 1) := by decide +kernel
theorem dL_law_597 : decode cL_law 597 = .ok (.iload_n 3, 1) := by decide +kernel
theorem dL_law_598 : decode cL_law 598 = .ok (.iconst 1, 1) := by decide +kernel
theorem dL_law_599 : decode cL_law 599 = .ok (.iadd, 1) := by decide +kernel
theorem dL_law_600 : decode cL_law 600 = .ok (.iaload, 1) := by decide +kernel
theorem dL_law_601 : decode cL_law 601 = .ok (.aload_n 0, 1) := by decide +kernel
theorem dL_law_602 : decode cL_law 602 = .ok (.iload_n 3, 1) := by decide +kernel
theorem dL_law_603 : decode cL_law 603 = .ok (.iconst 2, 1) := by decide +kernel
theorem dL_law_604 : decode cL_law 604 = .ok (.iadd, 1) := by decide +kernel
theorem dL_law_605 : decode cL_law 605 = .ok (.iaload, 1) := by decide +kernel
theorem dL_law_606 : decode cL_law 606 = .ok (.aload_n 0, 1) := by decide +kernel
theorem dL_law_607 : decode cL_law 607 = .ok (.iload_n 3, 1) := by decide +kernel
theorem dL_law_608 : decode cL_law 608 = .ok (.iconst 3, 1) := by decide +kernel
theorem dL_law_609 : decode cL_law 609 = .ok (.iadd, 1) := by decide +kernel
theorem dL_law_610 : decode cL_law 610 = .ok (.iaload, 1) := by decide +kernel
theorem dL_law_611 : decode cL_law 611 = .ok (.invokevirtual 71, 3) := by decide +kernel
theorem dL_law_614 : decode cL_law 614 = .ok (.aload_n 2, 1) := by decide +kernel
theorem dL_law_615 : decode cL_law 615 = .ok (.aload_n 0, 1) := by decide +kernel
theorem dL_law_616 : decode cL_law 616 = .ok (.iload_n 3, 1) := by decide +kernel
theorem dL_law_617 : decode cL_law 617 = .ok (.iconst 1, 1) := by decide +kernel
theorem dL_law_618 : decode cL_law 618 = .ok (.iadd, 1) := by decide +kernel
theorem dL_law_619 : decode cL_law 619 = .ok (.iaload, 1) := by decide +kernel
theorem dL_law_620 : decode cL_law 620 = .ok (.aload_n 0, 1) := by decide +kernel
theorem dL_law_621 : decode cL_law 621 = .ok (.iload_n 3, 1) := by decide +kernel
theorem dL_law_622 : decode cL_law 622 = .ok (.iconst 2, 1) := by decide +kernel
theorem dL_law_623 : decode cL_law 623 = .ok (.iadd, 1) := by decide +kernel
theorem dL_law_624 : decode cL_law 624 = .ok (.iaload, 1) := by decide +kernel
theorem dL_law_625 : decode cL_law 625 = .ok (.aload_n 0, 1) := by decide +kernel
theorem dL_law_626 : decode cL_law 626 = .ok (.iload_n 3, 1) := by decide +kernel
theorem dL_law_627 : decode cL_law 627 = .ok (.iconst 3, 1) := by decide +kernel
theorem dL_law_628 : decode cL_law 628 = .ok (.iadd, 1) := by decide +kernel
theorem dL_law_629 : decode cL_law 629 = .ok (.iaload, 1) := by decide +kernel
theorem dL_law_630 : decode cL_law 630 = .ok (.invokevirtual 74, 3) := by decide +kernel
theorem dL_law_633 : decode cL_law 633 = .ok (.if_icmp .eq 299, 3) := by decide +kernel
theorem dL_law_636 : decode cL_law 636 = .ok (.iconst 0, 1) := by decide +kernel
theorem dL_law_637 : decode cL_law 637 = .ok (.ireturn, 1) := by decide +kernel
theorem dL_law_638 : decode cL_law 638 = .ok (.aload_n 1, 1) := by decide +kernel
theorem dL_law_639 : decode cL_law 639 = .ok (.aload_n 0, 1) := by decide +kernel
theorem dL_law_640 : decode cL_law 640 = .ok (.iload_n 3, 1) := by decide +kernel
theorem dL_law_641 : decode cL_law 641 = .ok (.iconst 1, 1) := by decide +kernel
theorem dL_law_642 : decode cL_law 642 = .ok (.iadd, 1) := by decide +kernel
theorem dL_law_643 : decode cL_law 643 = .ok (.iaload, 1) := by decide +kernel
theorem dL_law_644 : decode cL_law 644 = .ok (.aload_n 0, 1) := by decide +kernel
theorem dL_law_645 : decode cL_law 645 = .ok (.iload_n 3, 1) := by decide +kernel
theorem dL_law_646 : decode cL_law 646 = .ok (.iconst 2, 1) := by decide +kernel
theorem dL_law_647 : decode cL_law 647 = .ok (.iadd, 1) := by decide +kernel
theorem dL_law_648 : decode cL_law 648 = .ok (.iaload, 1) := by decide +kernel
theorem dL_law_649 : decode cL_law 649 = .ok (.aload_n 0, 1) := by decide +kernel
theorem dL_law_650 : decode cL_law 650 = .ok (.iload_n 3, 1) := by decide +kernel
theorem dL_law_651 : decode cL_law 651 = .ok (.iconst 3, 1) := by decide +kernel
theorem dL_law_652 : decode cL_law 652 = .ok (.iadd, 1) := by decide +kernel
theorem dL_law_653 : decode cL_law 653 = .ok (.iaload, 1) := by decide +kernel
theorem dL_law_654 : decode cL_law 654 = .ok (.invokevirtual 75, 3) := by decide +kernel
theorem dL_law_657 : decode cL_law 657 = .ok (.aload_n 2, 1) := by decide +kernel
theorem dL_law_658 : decode cL_law 658 = .ok (.aload_n 0, 1) := by decide +kernel
theorem dL_law_659 : decode cL_law 659 = .ok (.iload_n 3, 1) := by decide +kernel
theorem dL_law_660 : decode cL_law 660 = .ok (.iconst 1, 1) := by decide +kernel
theorem dL_law_661 : decode cL_law 661 = .ok (.iadd, 1) := by decide +kernel
theorem dL_law_662 : decode cL_law 662 = .ok (.iaload, 1) := by decide +kernel
theorem dL_law_663 : decode cL_law 663 = .ok (.aload_n 0, 1) := by decide +kernel
theorem dL_law_664 : decode cL_law 664 = .ok (.iload_n 3, 1) := by decide +kernel
theorem dL_law_665 : decode cL_law 665 = .ok (.iconst 2, 1) := by decide +kernel
theorem dL_law_666 : decode cL_law 666 = .ok (.iadd, 1) := by decide +kernel
theorem dL_law_667 : decode cL_law 667 = .ok (.iaload, 1) := by decide +kernel
theorem dL_law_668 : decode cL_law 668 = .ok (.aload_n 0, 1) := by decide +kernel
theorem dL_law_669 : decode cL_law 669 = .ok (.iload_n 3, 1) := by decide +kernel
theorem dL_law_670 : decode cL_law 670 = .ok (.iconst 3, 1) := by decide +kernel
theorem dL_law_671 : decode cL_law 671 = .ok (.iadd, 1) := by decide +kernel
theorem dL_law_672 : decode cL_law 672 = .ok (.iaload, 1) := by decide +kernel
theorem dL_law_673 : decode cL_law 673 = .ok (.invokevirtual 78, 3) := by decide +kernel
theorem dL_law_676 : decode cL_law 676 = .ok (.if_icmp .eq 256, 3) := by decide +kernel
theorem dL_law_679 : decode cL_law 679 = .ok (.iconst 0, 1) := by decide +kernel
theorem dL_law_680 : decode cL_law 680 = .ok (.ireturn, 1) := by decide +kernel
theorem dL_law_681 : decode cL_law 681 = .ok (.aload_n 1, 1) := by decide +kernel
theorem dL_law_682 : decode cL_law 682 = .ok (.aload_n 0, 1) := by decide +kernel
theorem dL_law_683 : decode cL_law 683 = .ok (.iload_n 3, 1) := by decide +kernel
theorem dL_law_684 : decode cL_law 684 = .ok (.iconst 1, 1) := by decide +kernel
theorem dL_law_685 : decode cL_law 685 = .ok (.iadd, 1) := by decide +kernel
theorem dL_law_686 : decode cL_law 686 = .ok (.iaload, 1) := by decide +kernel
theorem dL_law_687 : decode cL_law 687 = .ok (.aload_n 0, 1) := by decide +kernel
theorem dL_law_688 : decode cL_law 688 = .ok (.iload_n 3, 1) := by decide +kernel
theorem dL_law_689 : decode cL_law 689 = .ok (.iconst 2, 1) := by decide +kernel
theorem dL_law_690 : decode cL_law 690 = .ok (.iadd, 1) := by decide +kernel
theorem dL_law_691 : decode cL_law 691 = .ok (.iaload, 1) := by decide +kernel
theorem dL_law_692 : decode cL_law 692 = .ok (.aload_n 0, 1) := by decide +kernel
theorem dL_law_693 : decode cL_law 693 = .ok (.iload_n 3, 1) := by decide +kernel
theorem dL_law_694 : decode cL_law 694 = .ok (.iconst 3, 1) := by decide +kernel
theorem dL_law_695 : decode cL_law 695 = .ok (.iadd, 1) := by decide +kernel
theorem dL_law_696 : decode cL_law 696 = .ok (.iaload, 1) := by decide +kernel
theorem dL_law_697 : decode cL_law 697 = .ok (.invokevirtual 79, 3) := by decide +kernel
theorem dL_law_700 : decode cL_law 700 = .ok (.aload_n 2, 1) := by decide +kernel
theorem dL_law_701 : decode cL_law 701 = .ok (.aload_n 0, 1) := by decide +kernel
theorem dL_law_702 : decode cL_law 702 = .ok (.iload_n 3, 1) := by decide +kernel
theorem dL_law_703 : decode cL_law 703 = .ok (.iconst 1, 1) := by decide +kernel
theorem dL_law_704 : decode cL_law 704 = .ok (.iadd, 1) := by decide +kernel
theorem dL_law_705 : decode cL_law 705 = .ok (.iaload, 1) := by decide +kernel
theorem dL_law_706 : decode cL_law 706 = .ok (.aload_n 0, 1) := by decide +kernel
theorem dL_law_707 : decode cL_law 707 = .ok (.iload_n 3, 1) := by decide +kernel
theorem dL_law_708 : decode cL_law 708 = .ok (.iconst 2, 1) := by decide +kernel
theorem dL_law_709 : decode cL_law 709 = .ok (.iadd, 1) := by decide +kernel
theorem dL_law_710 : decode cL_law 710 = .ok (.iaload, 1) := by decide +kernel
theorem dL_law_711 : decode cL_law 711 = .ok (.aload_n 0, 1) := by decide +kernel
theorem dL_law_712 : decode cL_law 712 = .ok (.iload_n 3, 1) := by decide +kernel
theorem dL_law_713 : decode cL_law 713 = .ok (.iconst 3, 1) := by decide +kernel
theorem dL_law_714 : decode cL_law 714 = .ok (.iadd, 1) := by decide +kernel
theorem dL_law_715 : decode cL_law 715 = .ok (.iaload, 1) := by decide +kernel
theorem dL_law_716 : decode cL_law 716 = .ok (.invokevirtual 82, 3) := by decide +kernel
theorem dL_law_719 : decode cL_law 719 = .ok (.if_icmp .eq 213, 3) := by decide +kernel
theorem dL_law_722 : decode cL_law 722 = .ok (.iconst 0, 1) := by decide +kernel
theorem dL_law_723 : decode cL_law 723 = .ok (.ireturn, 1) := by decide +kernel
theorem dL_law_724 : decode cL_law 724 = .ok (.aload_n 1, 1) := by decide +kernel
theorem dL_law_725 : decode cL_law 725 = .ok (.aload_n 0, 1) := by decide +kernel
theorem dL_law_726 : decode cL_law 726 = .ok (.iload_n 3, 1) := by decide +kernel
theorem dL_law_727 : decode cL_law 727 = .ok (.iconst 1, 1) := by decide +kernel
theorem dL_law_728 : decode cL_law 728 = .ok (.iadd, 1) := by decide +kernel
theorem dL_law_729 : decode cL_law 729 = .ok (.iaload, 1) := by decide +kernel
theorem dL_law_730 : decode cL_law 730 = .ok (.aload_n 0, 1) := by decide +kernel
theorem dL_law_731 : decode cL_law 731 = .ok (.iload_n 3, 1) := by decide +kernel
theorem dL_law_732 : decode cL_law 732 = .ok (.iconst 2, 1) := by decide +kernel
theorem dL_law_733 : decode cL_law 733 = .ok (.iadd, 1) := by decide +kernel
theorem dL_law_734 : decode cL_law 734 = .ok (.iaload, 1) := by decide +kernel
theorem dL_law_735 : decode cL_law 735 = .ok (.aload_n 0, 1) := by decide +kernel
theorem dL_law_736 : decode cL_law 736 = .ok (.iload_n 3, 1) := by decide +kernel
theorem dL_law_737 : decode cL_law 737 = .ok (.iconst 3, 1) := by decide +kernel
theorem dL_law_738 : decode cL_law 738 = .ok (.iadd, 1) := by decide +kernel
theorem dL_law_739 : decode cL_law 739 = .ok (.iaload, 1) := by decide +kernel
theorem dL_law_740 : decode cL_law 740 = .ok (.aload_n 0, 1) := by decide +kernel
theorem dL_law_741 : decode cL_law 741 = .ok (.iload_n 3, 1) := by decide +kernel
theorem dL_law_742 : decode cL_law 742 = .ok (.iconst 4, 1) := by decide +kernel
theorem dL_law_743 : decode cL_law 743 = .ok (.iadd, 1) := by decide +kernel
theorem dL_law_744 : decode cL_law 744 = .ok (.iaload, 1) := by decide +kernel
theorem dL_law_745 : decode cL_law 745 = .ok (.invokevirtual 83, 3) := by decide +kernel
theorem dL_law_748 : decode cL_law 748 = .ok (.aload_n 2, 1) := by decide +kernel
theorem dL_law_749 : decode cL_law 749 = .ok (.aload_n 0, 1) := by decide +kernel
theorem dL_law_750 : decode cL_law 750 = .ok (.iload_n 3, 1) := by decide +kernel
theorem dL_law_751 : decode cL_law 751 = .ok (.iconst 1, 1) := by decide +kernel
theorem dL_law_752 : decode cL_law 752 = .ok (.iadd, 1) := by decide +kernel
theorem dL_law_753 : decode cL_law 753 = .ok (.iaload, 1) := by decide +kernel
theorem dL_law_754 : decode cL_law 754 = .ok (.aload_n 0, 1) := by decide +kernel
theorem dL_law_755 : decode cL_law 755 = .ok (.iload_n 3, 1) := by decide +kernel
theorem dL_law_756 : decode cL_law 756 = .ok (.iconst 2, 1) := by decide +kernel
theorem dL_law_757 : decode cL_law 757 = .ok (.iadd, 1) := by decide +kernel
theorem dL_law_758 : decode cL_law 758 = .ok (.iaload, 1) := by decide +kernel
theorem dL_law_759 : decode cL_law 759 = .ok (.aload_n 0, 1) := by decide +kernel
theorem dL_law_760 : decode cL_law 760 = .ok (.iload_n 3, 1) := by decide +kernel
theorem dL_law_761 : decode cL_law 761 = .ok (.iconst 3, 1) := by decide +kernel
theorem dL_law_762 : decode cL_law 762 = .ok (.iadd, 1) := by decide +kernel
theorem dL_law_763 : decode cL_law 763 = .ok (.iaload, 1) := by decide +kernel
theorem dL_law_764 : decode cL_law 764 = .ok (.aload_n 0, 1) := by decide +kernel
theorem dL_law_765 : decode cL_law 765 = .ok (.iload_n 3, 1) := by decide +kernel
theorem dL_law_766 : decode cL_law 766 = .ok (.iconst 4, 1) := by decide +kernel
theorem dL_law_767 : decode cL_law 767 = .ok (.iadd, 1) := by decide +kernel
theorem dL_law_768 : decode cL_law 768 = .ok (.iaload, 1) := by decide +kernel
theorem dL_law_769 : decode cL_law 769 = .ok (.invokevirtual 87, 3) := by decide +kernel
theorem dL_law_772 : decode cL_law 772 = .ok (.if_icmp .eq 160, 3) := by decide +kernel
theorem dL_law_775 : decode cL_law 775 = .ok (.iconst 0, 1) := by decide +kernel
theorem dL_law_776 : decode cL_law 776 = .ok (.ireturn, 1) := by decide +kernel
theorem dL_law_777 : decode cL_law 777 = .ok (.aload_n 1, 1) := by decide +kernel
theorem dL_law_778 : decode cL_law 778 = .ok (.aload_n 0, 1) := by decide +kernel
theorem dL_law_779 : decode cL_law 779 = .ok (.iload_n 3, 1) := by decide +kernel
theorem dL_law_780 : decode cL_law 780 = .ok (.iconst 1, 1) := by decide +kernel
theorem dL_law_781 : decode cL_law 781 = .ok (.iadd, 1) := by decide +kernel
theorem dL_law_782 : decode cL_law 782 = .ok (.iaload, 1) := by decide +kernel
theorem dL_law_783 : decode cL_law 783 = .ok (.aload_n 0, 1) := by decide +kernel
theorem dL_law_784 : decode cL_law 784 = .ok (.iload_n 3, 1) := by decide +kernel
theorem dL_law_785 : decode cL_law 785 = .ok (.iconst 2, 1) := by decide +kernel
theorem dL_law_786 : decode cL_law 786 = .ok (.iadd, 1) := by decide +kernel
theorem dL_law_787 : decode cL_law 787 = .ok (.iaload, 1) := by decide +kernel
theorem dL_law_788 : decode cL_law 788 = .ok (.aload_n 0, 1) := by decide +kernel
theorem dL_law_789 : decode cL_law 789 = .ok (.iload_n 3, 1) := by decide +kernel
theorem dL_law_790 : decode cL_law 790 = .ok (.iconst 3, 1) := by decide +kernel
theorem dL_law_791 : decode cL_law 791 = .ok (.iadd, 1) := by decide +kernel
theorem dL_law_792 : decode cL_law 792 = .ok (.iaload, 1) := by decide +kernel
theorem dL_law_793 : decode cL_law 793 = .ok (.aload_n 0, 1) := by decide +kernel
theorem dL_law_794 : decode cL_law 794 = .ok (.iload_n 3, 1) := by decide +kernel
theorem dL_law_795 : decode cL_law 795 = .ok (.iconst 4, 1) := by decide +kernel
theorem dL_law_796 : decode cL_law 796 = .ok (.iadd, 1) := by decide +kernel
theorem dL_law_797 : decode cL_law 797 = .ok (.iaload, 1) := by decide +kernel
theorem dL_law_798 : decode cL_law 798 = .ok (.invokevirtual 88, 3) := by decide +kernel
theorem dL_law_801 : decode cL_law 801 = .ok (.aload_n 2, 1) := by decide +kernel
theorem dL_law_802 : decode cL_law 802 = .ok (.aload_n 0, 1) := by decide +kernel
theorem dL_law_803 : decode cL_law 803 = .ok (.iload_n 3, 1) := by decide +kernel
theorem dL_law_804 : decode cL_law 804 = .ok (.iconst 1, 1) := by decide +kernel
theorem dL_law_805 : decode cL_law 805 = .ok (.iadd, 1) := by decide +kernel
theorem dL_law_806 : decode cL_law 806 = .ok (.iaload, 1) := by decide +kernel
theorem dL_law_807 : decode cL_law 807 = .ok (.aload_n 0, 1) := by decide +kernel
theorem dL_law_808 : decode cL_law 808 = .ok (.iload_n 3, 1) := by decide +kernel
theorem dL_law_809 : decode cL_law 809 = .ok (.iconst 2, 1) := by decide +kernel
theorem dL_law_810 : decode cL_law 810 = .ok (.iadd, 1) := by decide +kernel
theorem dL_law_811 : decode cL_law 811 = .ok (.iaload, 1) := by decide +kernel
theorem dL_law_812 : decode cL_law 812 = .ok (.aload_n 0, 1) := by decide +kernel
theorem dL_law_813 : decode cL_law 813 = .ok (.iload_n 3, 1) := by decide +kernel
theorem dL_law_814 : decode cL_law 814 = .ok (.iconst 3, 1) := by decide +kernel
theorem dL_law_815 : decode cL_law 815 = .ok (.iadd, 1) := by decide +kernel
theorem dL_law_816 : decode cL_law 816 = .ok (.iaload, 1) := by decide +kernel
theorem dL_law_817 : decode cL_law 817 = .ok (.aload_n 0, 1) := by decide +kernel
theorem dL_law_818 : decode cL_law 818 = .ok (.iload_n 3, 1) := by decide +kernel
theorem dL_law_819 : decode cL_law 819 = .ok (.iconst 4, 1) := by decide +kernel
theorem dL_law_820 : decode cL_law 820 = .ok (.iadd, 1) := by decide +kernel
theorem dL_law_821 : decode cL_law 821 = .ok (.iaload, 1) := by decide +kernel
theorem dL_law_822 : decode cL_law 822 = .ok (.invokevirtual 91, 3) := by decide +kernel
theorem dL_law_825 : decode cL_law 825 = .ok (.if_icmp .eq 107, 3) := by decide +kernel
theorem dL_law_828 : decode cL_law 828 = .ok (.iconst 0, 1) := by decide +kernel
theorem dL_law_829 : decode cL_law 829 = .ok (.ireturn, 1) := by decide +kernel
theorem dL_law_830 : decode cL_law 830 = .ok (.aload_n 1, 1) := by decide +kernel
theorem dL_law_831 : decode cL_law 831 = .ok (.aload_n 0, 1) := by decide +kernel
theorem dL_law_832 : decode cL_law 832 = .ok (.iload_n 3, 1) := by decide +kernel
theorem dL_law_833 : decode cL_law 833 = .ok (.iconst 1, 1) := by decide +kernel
theorem dL_law_834 : decode cL_law 834 = .ok (.iadd, 1) := by decide +kernel
theorem dL_law_835 : decode cL_law 835 = .ok (.iaload, 1) := by decide +kernel
theorem dL_law_836 : decode cL_law 836 = .ok (.invokevirtual 92, 3) := by decide +kernel
theorem dL_law_839 : decode cL_law 839 = .ok (.aload_n 2, 1) := by decide +kernel
theorem dL_law_840 : decode cL_law 840 = .ok (.aload_n 0, 1) := by decide +kernel
theorem dL_law_841 : decode cL_law 841 = .ok (.iload_n 3, 1) := by decide +kernel
theorem dL_law_842 : decode cL_law 842 = .ok (.iconst 1, 1) := by decide +kernel
theorem dL_law_843 : decode cL_law 843 = .ok (.iadd, 1) := by decide +kernel
theorem dL_law_844 : decode cL_law 844 = .ok (.iaload, 1) := by decide +kernel
theorem dL_law_845 : decode cL_law 845 = .ok (.invokevirtual 95, 3) := by decide +kernel
theorem dL_law_848 : decode cL_law 848 = .ok (.if_icmp .eq 84, 3) := by decide +kernel
theorem dL_law_851 : decode cL_law 851 = .ok (.iconst 0, 1) := by decide +kernel
theorem dL_law_852 : decode cL_law 852 = .ok (.ireturn, 1) := by decide +kernel
theorem dL_law_853 : decode cL_law 853 = .ok (.aload_n 1, 1) := by decide +kernel
theorem dL_law_854 : decode cL_law 854 = .ok (.aload_n 0, 1) := by decide +kernel
theorem dL_law_855 : decode cL_law 855 = .ok (.iload_n 3, 1) := by decide +kernel
theorem dL_law_856 : decode cL_law 856 = .ok (.iconst 1, 1) := by decide +kernel
theorem dL_law_857 : decode cL_law 857 = .ok (.iadd, 1) := by decide +kernel
theorem dL_law_858 : decode cL_law 858 = .ok (.iaload, 1) := by decide +kernel
theorem dL_law_859 : decode cL_law 859 = .ok (.invokevirtual 96, 3) := by decide +kernel
theorem dL_law_862 : decode cL_law 862 = .ok (.aload_n 2, 1) := by decide +kernel
theorem dL_law_863 : decode cL_law 863 = .ok (.aload_n 0, 1) := by decide +kernel
theorem dL_law_864 : decode cL_law 864 = .ok (.iload_n 3, 1) := by decide +kernel
theorem dL_law_865 : decode cL_law 865 = .ok (.iconst 1, 1) := by decide +kernel
theorem dL_law_866 : decode cL_law 866 = .ok (.iadd, 1) := by decide +kernel
theorem dL_law_867 : decode cL_law 867 = .ok (.iaload, 1) := by decide +kernel
theorem dL_law_868 : decode cL_law 868 = .ok (.invokevirtual 99, 3) := by decide +kernel
theorem dL_law_871 : decode cL_law 871 = .ok (.if_icmp .eq 61, 3) := by decide +kernel
theorem dL_law_874 : decode cL_law 874 = .ok (.iconst 0, 1) := by decide +kernel
theorem dL_law_875 : decode cL_law 875 = .ok (.ireturn, 1) := by decide +kernel
theorem dL_law_876 : decode cL_law 876 = .ok (.aload_n 1, 1) := by decide +kernel
theorem dL_law_877 : decode cL_law 877 = .ok (.aload_n 0, 1) := by decide +kernel
theorem dL_law_878 : decode cL_law 878 = .ok (.iload_n 3, 1) := by decide +kernel
theorem dL_law_879 : decode cL_law 879 = .ok (.iconst 1, 1) := by decide +kernel
theorem dL_law_880 : decode cL_law 880 = .ok (.iadd, 1) := by decide +kernel
theorem dL_law_881 : decode cL_law 881 = .ok (.iaload, 1) := by decide +kernel
theorem dL_law_882 : decode cL_law 882 = .ok (.aload_n 0, 1) := by decide +kernel
theorem dL_law_883 : decode cL_law 883 = .ok (.iload_n 3, 1) := by decide +kernel
theorem dL_law_884 : decode cL_law 884 = .ok (.iconst 2, 1) := by decide +kernel
theorem dL_law_885 : decode cL_law 885 = .ok (.iadd, 1) := by decide +kernel
theorem dL_law_886 : decode cL_law 886 = .ok (.iaload, 1) := by decide +kernel
theorem dL_law_887 : decode cL_law 887 = .ok (.aload_n 0, 1) := by decide +kernel
theorem dL_law_888 : decode cL_law 888 = .ok (.iload_n 3, 1) := by decide +kernel
theorem dL_law_889 : decode cL_law 889 = .ok (.iconst 3, 1) := by decide +kernel
theorem dL_law_890 : decode cL_law 890 = .ok (.iadd, 1) := by decide +kernel
theorem dL_law_891 : decode cL_law 891 = .ok (.iaload, 1) := by decide +kernel
theorem dL_law_892 : decode cL_law 892 = .ok (.invokevirtual 100, 3) := by decide +kernel
theorem dL_law_895 : decode cL_law 895 = .ok (.aload_n 2, 1) := by decide +kernel
theorem dL_law_896 : decode cL_law 896 = .ok (.aload_n 0, 1) := by decide +kernel
theorem dL_law_897 : decode cL_law 897 = .ok (.iload_n 3, 1) := by decide +kernel
theorem dL_law_898 : decode cL_law 898 = .ok (.iconst 1, 1) := by decide +kernel
theorem dL_law_899 : decode cL_law 899 = .ok (.iadd, 1) := by decide +kernel
theorem dL_law_900 : decode cL_law 900 = .ok (.iaload, 1) := by decide +kernel
theorem dL_law_901 : decode cL_law 901 = .ok (.aload_n 0, 1) := by decide +kernel
theorem dL_law_902 : decode cL_law 902 = .ok (.iload_n 3, 1) := by decide +kernel
theorem dL_law_903 : decode cL_law 903 = .ok (.iconst 2, 1) := by decide +kernel
theorem dL_law_904 : decode cL_law 904 = .ok (.iadd, 1) := by decide +kernel
theorem dL_law_905 : decode cL_law 905 = .ok (.iaload, 1) := by decide +kernel
theorem dL_law_906 : decode cL_law 906 = .ok (.aload_n 0, 1) := by decide +kernel
theorem dL_law_907 : decode cL_law 907 = .ok (.iload_n 3, 1) := by decide +kernel
theorem dL_law_908 : decode cL_law 908 = .ok (.iconst 3, 1) := by decide +kernel
theorem dL_law_909 : decode cL_law 909 = .ok (.iadd, 1) := by decide +kernel
theorem dL_law_910 : decode cL_law 910 = .ok (.iaload, 1) := by decide +kernel
theorem dL_law_911 : decode cL_law 911 = .ok (.invokevirtual 104, 3) := by decide +kernel
theorem dL_law_914 : decode cL_law 914 = .ok (.if_icmp .eq 18, 3) := by decide +kernel
theorem dL_law_917 : decode cL_law 917 = .ok (.iconst 0, 1) := by decide +kernel
theorem dL_law_918 : decode cL_law 918 = .ok (.ireturn, 1) := by decide +kernel
theorem dL_law_919 : decode cL_law 919 = .ok (.aload_n 1, 1) := by decide +kernel
theorem dL_law_920 : decode cL_law 920 = .ok (.invokevirtual 105, 3) := by decide +kernel
theorem dL_law_923 : decode cL_law 923 = .ok (.aload_n 2, 1) := by decide +kernel
theorem dL_law_924 : decode cL_law 924 = .ok (.invokevirtual 108, 3) := by decide +kernel
theorem dL_law_927 : decode cL_law 927 = .ok (.if_icmp .eq 5, 3) := by decide +kernel
theorem dL_law_930 : decode cL_law 930 = .ok (.iconst 0, 1) := by decide +kernel
theorem dL_law_931 : decode cL_law 931 = .ok (.ireturn, 1) := by decide +kernel
theorem dL_law_932 : decode cL_law 932 = .ok (.iinc 3 6, 3) := by decide +kernel
theorem dL_law_935 : decode cL_law 935 = .ok (.goto (-917), 3) := by decide +kernel
theorem dL_law_938 : decode cL_law 938 = .ok (.iconst 1, 1) := by decide +kernel
theorem dL_law_939 : decode cL_law 939 = .ok (.ireturn, 1) := by decide +kernel
