theorem dX8_six_10 : decode cX8_six 10 = .ok (.lmul, 1) := by decide +kernel
theorem dX8_six_11 : decode cX8_six 11 = .ok (.iload 4, 2) := by decide +kernel
theorem dX8_six_13 : decode cX8_six 13 = .ok (.iload 5, 2) := by decide +kernel
theorem dX8_six_15 : decode cX8_six 15 = .ok (.invokestatic 54, 3) := by decide +kernel
theorem dX8_six_18 : decode cX8_six 18 = .ok (.ladd, 1) := by decide +kernel
theorem dX8_six_19 : decode cX8_six 19 = .ok (.lreturn, 1) := by decide +kernel
theorem dX8_isWord_0 : decode cX8_isWord 0 = .ok (.aload_n 0, 1) := by decide +kernel
theorem dX8_isWord_1 : decode cX8_isWord 1 = .ok (.getfield 27, 3) := by decide +kernel
theorem dX8_isWord_4 : decode cX8_isWord 4 = .ok (.iconst 2, 1) := by decide +kernel
theorem dX8_isWord_5 : decode cX8_isWord 5 = .ok (.if_icmp .ne 16, 3) := by decide +kernel
theorem dX8_isWord_8 : decode cX8_isWord 8 = .ok (.aload_n 0, 1) := by decide +kernel
theorem dX8_isWord_9 : decode cX8_isWord 9 = .ok (.getfield 37, 3) := by decide +kernel
theorem dX8_isWord_12 : decode cX8_isWord 12 = .ok (.lload_n 1, 1) := by decide +kernel
theorem dX8_isWord_13 : decode cX8_isWord 13 = .ok (.lcmp, 1) := by decide +kernel
theorem dX8_isWord_14 : decode cX8_isWord 14 = .ok (.ifCond .ne 7, 3) := by decide +kernel
theorem dX8_isWord_17 : decode cX8_isWord 17 = .ok (.iconst 1, 1) := by decide +kernel
theorem dX8_isWord_18 : decode cX8_isWord 18 = .ok (.goto 4, 3) := by decide +kernel
theorem dX8_isWord_21 : decode cX8_isWord 21 = .ok (.iconst 0, 1) := by decide +kernel
theorem dX8_isWord_22 : decode cX8_isWord 22 = .ok (.ireturn, 1) := by decide +kernel
theorem dX8_bad_0 : decode cX8_bad 0 = .ok (.aload_n 0, 1) := by decide +kernel
theorem dX8_bad_1 : decode cX8_bad 1 = .ok (.aload_n 0, 1) := by decide +kernel
theorem dX8_bad_2 : decode cX8_bad 2 = .ok (.getfield 27, 3) := by decide +kernel
theorem dX8_bad_5 : decode cX8_bad 5 = .ok (.iconst 1, 1) := by decide +kernel
theorem dX8_bad_6 : decode cX8_bad 6 = .ok (.if_icmp .ne 7, 3) := by decide +kernel
theorem dX8_bad_9 : decode cX8_bad 9 = .ok (.iconst 1, 1) := by decide +kernel
theorem dX8_bad_10 : decode cX8_bad 10 = .ok (.goto 4, 3) := by decide +kernel
theorem dX8_bad_13 : decode cX8_bad 13 = .ok (.iload_n 1, 1) := by decide +kernel
theorem dX8_bad_14 : decode cX8_bad 14 = .ok (.putfield 62, 3) := by decide +kernel
theorem dX8_bad_17 : decode cX8_bad 17 = .ok (.aload_n 0, 1) := by decide +kernel
theorem dX8_bad_18 : decode cX8_bad 18 = .ok (.aload_n 0, 1) := by decide +kernel
theorem dX8_bad_19 : decode cX8_bad 19 = .ok (.getfield 24, 3) := by decide +kernel
theorem dX8_bad_22 : decode cX8_bad 22 = .ok (.putfield 65, 3) := by decide +kernel
theorem dX8_bad_25 : decode cX8_bad 25 = .ok (.iconst 0, 1) := by decide +kernel
theorem dX8_bad_26 : decode cX8_bad 26 = .ok (.ireturn, 1) := by decide +kernel
theorem dX8_init_0 : decode cX8_init 0 = .ok (.aload_n 0, 1) := by decide +kernel
theorem dX8_init_1 : decode cX8_init 1 = .ok (.invokespecial 68, 3) := by decide +kernel
theorem dX8_init_4 : decode cX8_init 4 = .ok (.aload_n 0, 1) := by decide +kernel
theorem dX8_init_5 : decode cX8_init 5 = .ok (.sipush 640, 3) := by decide +kernel
theorem dX8_init_8 : decode cX8_init 8 = .ok (.newarray .int, 2) := by decide +kernel
theorem dX8_init_10 : decode cX8_init 10 = .ok (.putfield 7, 3) := by decide +kernel
theorem dX8_init_13 : decode cX8_init 13 = .ok (.aload_n 0, 1) := by decide +kernel
theorem dX8_init_14 : decode cX8_init 14 = .ok (.sipush 770, 3) := by decide +kernel
theorem dX8_init_17 : decode cX8_init 17 = .ok (.newarray .int, 2) := by decide +kernel
theorem dX8_init_19 : decode cX8_init 19 = .ok (.putfield 74, 3) := by decide +kernel
theorem dX8_init_22 : decode cX8_init 22 = .ok (.aload_n 0, 1) := by decide +kernel
theorem dX8_init_23 : decode cX8_init 23 = .ok (.sipush 770, 3) := by decide +kernel
theorem dX8_init_26 : decode cX8_init 26 = .ok (.newarray .int, 2) := by decide +kernel
theorem dX8_init_28 : decode cX8_init 28 = .ok (.putfield 77, 3) := by decide +kernel
theorem dX8_init_31 : decode cX8_init 31 = .ok (.aload_n 0, 1) := by decide +kernel
theorem dX8_init_32 : decode cX8_init 32 = .ok (.sipush 7700, 3) := by decide +kernel
theorem dX8_init_35 : decode cX8_init 35 = .ok (.newarray .int, 2) := by decide +kernel
theorem dX8_init_37 : decode cX8_init 37 = .ok (.putfield 80, 3) := by decide +kernel
theorem dX8_init_40 : decode cX8_init 40 = .ok (.aload_n 0, 1) := by decide +kernel
theorem dX8_init_41 : decode cX8_init 41 = .ok (.bipush 60, 2) := by decide +kernel
theorem dX8_init_43 : decode cX8_init 43 = .ok (.newarray .int, 2) := by decide +kernel
theorem dX8_init_45 : decode cX8_init 45 = .ok (.putfield 83, 3) := by decide +kernel
theorem dX8_init_48 : decode cX8_init 48 = .ok (.aload_n 0, 1) := by decide +kernel
theorem dX8_init_49 : decode cX8_init 49 = .ok (.getfield 74, 3) := by decide +kernel
theorem dX8_init_52 : decode cX8_init 52 = .ok (.iconst 1, 1) := by decide +kernel
theorem dX8_init_53 : decode cX8_init 53 = .ok (.iconst 1, 1) := by decide +kernel
theorem dX8_init_54 : decode cX8_init 54 = .ok (.iastore, 1) := by decide +kernel
theorem dX8_init_55 : decode cX8_init 55 = .ok (.aload_n 0, 1) := by decide +kernel
theorem dX8_init_56 : decode cX8_init 56 = .ok (.getfield 74, 3) := by decide +kernel
theorem dX8_init_59 : decode cX8_init 59 = .ok (.iconst 2, 1) := by decide +kernel
theorem dX8_init_60 : decode cX8_init 60 = .ok (.iconst 1, 1) := by decide +kernel
theorem dX8_init_61 : decode cX8_init 61 = .ok (.iastore, 1) := by decide +kernel
theorem dX8_init_62 : decode cX8_init 62 = .ok (.aload_n 0, 1) := by decide +kernel
theorem dX8_init_63 : decode cX8_init 63 = .ok (.getfield 74, 3) := by decide +kernel
theorem dX8_init_66 : decode cX8_init 66 = .ok (.iconst 3, 1) := by decide +kernel
theorem dX8_init_67 : decode cX8_init 67 = .ok (.bipush 50, 2) := by decide +kernel
theorem dX8_init_69 : decode cX8_init 69 = .ok (.iastore, 1) := by decide +kernel
theorem dX8_init_70 : decode cX8_init 70 = .ok (.iconst 0, 1) := by decide +kernel
theorem dX8_init_71 : decode cX8_init 71 = .ok (.istore_n 1, 1) := by decide +kernel
theorem dX8_init_72 : decode cX8_init 72 = .ok (.iload_n 1, 1) := by decide +kernel
theorem dX8_init_73 : decode cX8_init 73 = .ok (.iconst 3, 1) := by decide +kernel
theorem dX8_init_74 : decode cX8_init 74 = .ok (.if_icmp .ge 24, 3) := by decide +kernel
theorem dX8_init_77 : decode cX8_init 77 = .ok (.aload_n 0, 1) := by decide +kernel
theorem dX8_init_78 : decode cX8_init 78 = .ok (.getfield 74, 3) := by decide +kernel
theorem dX8_init_81 : decode cX8_init 81 = .ok (.iconst 4, 1) := by decide +kernel
theorem dX8_init_82 : decode cX8_init 82 = .ok (.iload_n 1, 1) := by decide +kernel
theorem dX8_init_83 : decode cX8_init 83 = .ok (.iadd, 1) := by decide +kernel
theorem dX8_init_84 : decode cX8_init 84 = .ok (.bipush 50, 2) := by decide +kernel
theorem dX8_init_86 : decode cX8_init 86 = .ok (.iload_n 1, 1) := by decide +kernel
theorem dX8_init_87 : decode cX8_init 87 = .ok (.imul, 1) := by decide +kernel
theorem dX8_init_88 : decode cX8_init 88 = .ok (.bipush 50, 2) := by decide +kernel
theorem dX8_init_90 : decode cX8_init 90 = .ok (.iadd, 1) := by decide +kernel
theorem dX8_init_91 : decode cX8_init 91 = .ok (.iastore, 1) := by decide +kernel
theorem dX8_init_92 : decode cX8_init 92 = .ok (.iinc 1 1, 3) := by decide +kernel
theorem dX8_init_95 : decode cX8_init 95 = .ok (.goto (-23), 3) := by decide +kernel
theorem dX8_init_98 : decode cX8_init 98 = .ok (.aload_n 0, 1) := by decide +kernel
theorem dX8_init_99 : decode cX8_init 99 = .ok (.getfield 74, 3) := by decide +kernel
theorem dX8_init_102 : decode cX8_init 102 = .ok (.bipush 7, 2) := by decide +kernel
theorem dX8_init_104 : decode cX8_init 104 = .ok (.iconst 1, 1) := by decide +kernel
theorem dX8_init_105 : decode cX8_init 105 = .ok (.iastore, 1) := by decide +kernel
theorem dX8_init_106 : decode cX8_init 106 = .ok (.aload_n 0, 1) := by decide +kernel
theorem dX8_init_107 : decode cX8_init 107 = .ok (.getfield 74, 3) := by decide +kernel
theorem dX8_init_110 : decode cX8_init 110 = .ok (.bipush 8, 2) := by decide +kernel
theorem dX8_init_112 : decode cX8_init 112 = .ok (.iconst 1, 1) := by decide +kernel
theorem dX8_init_113 : decode cX8_init 113 = .ok (.iastore, 1) := by decide +kernel
theorem dX8_init_114 : decode cX8_init 114 = .ok (.aload_n 0, 1) := by decide +kernel
theorem dX8_init_115 : decode cX8_init 115 = .ok (.getfield 74, 3) := by decide +kernel
theorem dX8_init_118 : decode cX8_init 118 = .ok (.bipush 9, 2) := by decide +kernel
theorem dX8_init_120 : decode cX8_init 120 = .ok (.iconst 2, 1) := by decide +kernel
theorem dX8_init_121 : decode cX8_init 121 = .ok (.iastore, 1) := by decide +kernel
theorem dX8_init_122 : decode cX8_init 122 = .ok (.aload_n 0, 1) := by decide +kernel
theorem dX8_init_123 : decode cX8_init 123 = .ok (.getfield 74, 3) := by decide +kernel
theorem dX8_init_126 : decode cX8_init 126 = .ok (.bipush 12, 2) := by decide +kernel
theorem dX8_init_128 : decode cX8_init 128 = .ok (.bipush 100, 2) := by decide +kernel
theorem dX8_init_130 : decode cX8_init 130 = .ok (.iastore, 1) := by decide +kernel
theorem dX8_init_131 : decode cX8_init 131 = .ok (.aload_n 0, 1) := by decide +kernel
theorem dX8_init_132 : decode cX8_init 132 = .ok (.getfield 74, 3) := by decide +kernel
theorem dX8_init_135 : decode cX8_init 135 = .ok (.bipush 13, 2) := by decide +kernel
theorem dX8_init_137 : decode cX8_init 137 = .ok (.bipush 100, 2) := by decide +kernel
theorem dX8_init_139 : decode cX8_init 139 = .ok (.iastore, 1) := by decide +kernel
theorem dX8_init_140 : decode cX8_init 140 = .ok (.return_, 1) := by decide +kernel
theorem dX8_told_0 : decode cX8_told 0 = .ok (.aload_n 0, 1) := by decide +kernel
theorem dX8_told_1 : decode cX8_told 1 = .ok (.getfield 27, 3) := by decide +kernel
theorem dX8_told_4 : decode cX8_told 4 = .ok (.iconst 3, 1) := by decide +kernel
theorem dX8_told_5 : decode cX8_told 5 = .ok (.if_icmp .eq 9, 3) := by decide +kernel
theorem dX8_told_8 : decode cX8_told 8 = .ok (.aload_n 0, 1) := by decide +kernel
theorem dX8_told_9 : decode cX8_told 9 = .ok (.iconst 1, 1) := by decide +kernel
theorem dX8_told_10 : decode cX8_told 10 = .ok (.invokevirtual 86, 3) := by decide +kernel
theorem dX8_told_13 : decode cX8_told 13 = .ok (.ireturn, 1) := by decide +kernel
theorem dX8_told_14 : decode cX8_told 14 = .ok (.aload_n 0, 1) := by decide +kernel
theorem dX8_told_15 : decode cX8_told 15 = .ok (.getfield 41, 3) := by decide +kernel
theorem dX8_told_18 : decode cX8_told 18 = .ok (.iload_n 2, 1) := by decide +kernel
theorem dX8_told_19 : decode cX8_told 19 = .ok (.iload_n 3, 1) := by decide +kernel
theorem dX8_told_20 : decode cX8_told 20 = .ok (.invokestatic 89, 3) := by decide +kernel
theorem dX8_told_23 : decode cX8_told 23 = .ok (.ifCond .ne 9, 3) := by decide +kernel
theorem dX8_told_26 : decode cX8_told 26 = .ok (.aload_n 0, 1) := by decide +kernel
theorem dX8_told_27 : decode cX8_told 27 = .ok (.iconst 2, 1) := by decide +kernel
theorem dX8_told_28 : decode cX8_told 28 = .ok (.invokevirtual 86, 3) := by decide +kernel
theorem dX8_told_31 : decode cX8_told 31 = .ok (.ireturn, 1) := by decide +kernel
theorem dX8_told_32 : decode cX8_told 32 = .ok (.aload_n 0, 1) := by decide +kernel
theorem dX8_told_33 : decode cX8_told 33 = .ok (.getfield 77, 3) := by decide +kernel
theorem dX8_told_36 : decode cX8_told 36 = .ok (.iload_n 1, 1) := by decide +kernel
theorem dX8_told_37 : decode cX8_told 37 = .ok (.aload_n 0, 1) := by decide +kernel
theorem dX8_told_38 : decode cX8_told 38 = .ok (.getfield 41, 3) := by decide +kernel
theorem dX8_told_41 : decode cX8_told 41 = .ok (.iastore, 1) := by decide +kernel
theorem dX8_told_42 : decode cX8_told 42 = .ok (.aload_n 0, 1) := by decide +kernel
theorem dX8_told_43 : decode cX8_told 43 = .ok (.invokevirtual 93, 3) := by decide +kernel
theorem dX8_told_46 : decode cX8_told 46 = .ok (.iconst 1, 1) := by decide +kernel
theorem dX8_told_47 : decode cX8_told 47 = .ok (.ireturn, 1) := by decide +kernel
theorem dX8_readEnd_0 : decode cX8_readEnd 0 = .ok (.aload_n 0, 1) := by decide +kernel
theorem dX8_readEnd_1 : decode cX8_readEnd 1 = .ok (.getfield 27, 3) := by decide +kernel
theorem dX8_readEnd_4 : decode cX8_readEnd 4 = .ok (.iconst 4, 1) := by decide +kernel
theorem dX8_readEnd_5 : decode cX8_readEnd 5 = .ok (.if_icmp .eq 9, 3) := by decide +kernel
theorem dX8_readEnd_8 : decode cX8_readEnd 8 = .ok (.aload_n 0, 1) := by decide +kernel
theorem dX8_readEnd_9 : decode cX8_readEnd 9 = .ok (.iconst 1, 1) := by decide +kernel
theorem dX8_readEnd_10 : decode cX8_readEnd 10 = .ok (.invokevirtual 86, 3) := by decide +kernel
theorem dX8_readEnd_13 : decode cX8_readEnd 13 = .ok (.ireturn, 1) := by decide +kernel
theorem dX8_readEnd_14 : decode cX8_readEnd 14 = .ok (.aload_n 0, 1) := by decide +kernel
theorem dX8_readEnd_15 : decode cX8_readEnd 15 = .ok (.invokevirtual 93, 3) := by decide +kernel
theorem dX8_readEnd_18 : decode cX8_readEnd 18 = .ok (.iconst 1, 1) := by decide +kernel
theorem dX8_readEnd_19 : decode cX8_readEnd 19 = .ok (.ireturn, 1) := by decide +kernel
theorem dX8_readBands_0 : decode cX8_readBands 0 = .ok (.aload_n 0, 1) := by decide +kernel
theorem dX8_readBands_1 : decode cX8_readBands 1 = .ok (.ldc2_w 48, 3) := by decide +kernel
theorem dX8_readBands_4 : decode cX8_readBands 4 = .ok (.bipush 98, 2) := by decide +kernel
theorem dX8_readBands_6 : decode cX8_readBands 6 = .ok (.bipush 97, 2) := by decide +kernel
theorem dX8_readBands_8 : decode cX8_readBands 8 = .ok (.bipush 110, 2) := by decide +kernel
theorem dX8_readBands_10 : decode cX8_readBands 10 = .ok (.bipush 100, 2) := by decide +kernel
theorem dX8_readBands_12 : decode cX8_readBands 12 = .ok (.invokestatic 58, 3) := by decide +kernel
theorem dX8_readBands_15 : decode cX8_readBands 15 = .ok (.lmul, 1) := by decide +kernel
theorem dX8_readBands_16 : decode cX8_readBands 16 = .ok (.ldc2_w 96, 3) := by decide +kernel
theorem dX8_readBands_19 : decode cX8_readBands 19 = .ok (.ladd, 1) := by decide +kernel
theorem dX8_readBands_20 : decode cX8_readBands 20 = .ok (.invokevirtual 98, 3) := by decide +kernel
theorem dX8_readBands_23 : decode cX8_readBands 23 = .ok (.ifCond .ne 9, 3) := by decide +kernel
theorem dX8_readBands_26 : decode cX8_readBands 26 = .ok (.aload_n 0, 1) := by decide +kernel
theorem dX8_readBands_27 : decode cX8_readBands 27 = .ok (.iconst 1, 1) := by decide +kernel
theorem dX8_readBands_28 : decode cX8_readBands 28 = .ok (.invokevirtual 86, 3) := by decide +kernel
theorem dX8_readBands_31 : decode cX8_readBands 31 = .ok (.ireturn, 1) := by decide +kernel
theorem dX8_readBands_32 : decode cX8_readBands 32 = .ok (.aload_n 0, 1) := by decide +kernel
theorem dX8_readBands_33 : decode cX8_readBands 33 = .ok (.invokevirtual 93, 3) := by decide +kernel
theorem dX8_readBands_36 : decode cX8_readBands 36 = .ok (.aload_n 0, 1) := by decide +kernel
theorem dX8_readBands_37 : decode cX8_readBands 37 = .ok (.iconst 4, 1) := by decide +kernel
theorem dX8_readBands_38 : decode cX8_readBands 38 = .ok (.iconst 1, 1) := by decide +kernel
theorem dX8_readBands_39 : decode cX8_readBands 39 = .ok (.sipush 500, 3) := by decide +kernel
theorem dX8_readBands_42 : decode cX8_readBands 42 = .ok (.invokevirtual 102, 3) := by decide +kernel
theorem dX8_readBands_45 : decode cX8_readBands 45 = .ok (.ifCond .eq 49, 3) := by decide +kernel
theorem dX8_readBands_48 : decode cX8_readBands 48 = .ok (.aload_n 0, 1) := by decide +kernel
theorem dX8_readBands_49 : decode cX8_readBands 49 = .ok (.iconst 5, 1) := by decide +kernel
theorem dX8_readBands_50 : decode cX8_readBands 50 = .ok (.aload_n 0, 1) := by decide +kernel
theorem dX8_readBands_51 : decode cX8_readBands 51 = .ok (.getfield 77, 3) := by decide +kernel
theorem dX8_readBands_54 : decode cX8_readBands 54 = .ok (.iconst 4, 1) := by decide +kernel
theorem dX8_readBands_55 : decode cX8_readBands 55 = .ok (.iaload, 1) := by decide +kernel
theorem dX8_readBands_56 : decode cX8_readBands 56 = .ok (.iconst 1, 1) := by decide +kernel
theorem dX8_readBands_57 : decode cX8_readBands 57 = .ok (.iadd, 1) := by decide +kernel
theorem dX8_readBands_58 : decode cX8_readBands 58 = .ok (.sipush 500, 3) := by decide +kernel
theorem dX8_readBands_61 : decode cX8_readBands 61 = .ok (.invokevirtual 102, 3) := by decide +kernel
theorem dX8_readBands_64 : decode cX8_readBands 64 = .ok (.ifCond .eq 30, 3) := by decide +kernel
theorem dX8_readBands_67 : decode cX8_readBands 67 = .ok (.aload_n 0, 1) := by decide +kernel
theorem dX8_readBands_68 : decode cX8_readBands 68 = .ok (.bipush 6, 2) := by decide +kernel
theorem dX8_readBands_70 : decode cX8_readBands 70 = .ok (.aload_n 0, 1) := by decide +kernel
theorem dX8_readBands_71 : decode cX8_readBands 71 = .ok (.getfield 77, 3) := by decide +kernel
theorem dX8_readBands_74 : decode cX8_readBands 74 = .ok (.iconst 5, 1) := by decide +kernel
theorem dX8_readBands_75 : decode cX8_readBands 75 = .ok (.iaload, 1) := by decide +kernel
theorem dX8_readBands_76 : decode cX8_readBands 76 = .ok (.iconst 1, 1) := by decide +kernel
theorem dX8_readBands_77 : decode cX8_readBands 77 = .ok (.iadd, 1) := by decide +kernel
theorem dX8_readBands_78 : decode cX8_readBands 78 = .ok (.sipush 500, 3) := by decide +kernel
theorem dX8_readBands_81 : decode cX8_readBands 81 = .ok (.invokevirtual 102, 3) := by decide +kernel
theorem dX8_readBands_84 : decode cX8_readBands 84 = .ok (.ifCond .eq 10, 3) := by decide +kernel
theorem dX8_readBands_87 : decode cX8_readBands 87 = .ok (.aload_n 0, 1) := by decide +kernel
theorem dX8_readBands_88 : decode cX8_readBands 88 = .ok (.invokevirtual 105, 3) := by decide +kernel
theorem dX8_readBands_91 : decode cX8_readBands 91 = .ok (.ifCond .ne 5, 3) := by decide +kernel
theorem dX8_readBands_94 : decode cX8_readBands 94 = .ok (.iconst 0, 1) := by decide +kernel
theorem dX8_readBands_95 : decode cX8_readBands 95 = .ok (.ireturn, 1) := by decide +kernel
theorem dX8_readBands_96 : decode cX8_readBands 96 = .ok (.aload_n 0, 1) := by decide +kernel
theorem dX8_readBands_97 : decode cX8_readBands 97 = .ok (.bipush 115, 2) := by decide +kernel
theorem dX8_readBands_99 : decode cX8_readBands 99 = .ok (.bipush 109, 2) := by decide +kernel
theorem dX8_readBands_101 : decode cX8_readBands 101 = .ok (.bipush 111, 2) := by decide +kernel
theorem dX8_readBands_103 : decode cX8_readBands 103 = .ok (.bipush 111, 2) := by decide +kernel
theorem dX8_readBands_105 : decode cX8_readBands 105 = .ok (.bipush 116, 2) := by decide +kernel
theorem dX8_readBands_107 : decode cX8_readBands 107 = .ok (.bipush 104, 2) := by decide +kernel
theorem dX8_readBands_109 : decode cX8_readBands 109 = .ok (.invokestatic 109, 3) := by decide +kernel
theorem dX8_readBands_112 : decode cX8_readBands 112 = .ok (.invokevirtual 98, 3) := by decide +kernel
theorem dX8_readBands_115 : decode cX8_readBands 115 = .ok (.ifCond .ne 9, 3) := by decide +kernel
theorem dX8_readBands_118 : decode cX8_readBands 118 = .ok (.aload_n 0, 1) := by decide +kernel
theorem dX8_readBands_119 : decode cX8_readBands 119 = .ok (.iconst 1, 1) := by decide +kernel
theorem dX8_readBands_120 : decode cX8_readBands 120 = .ok (.invokevirtual 86, 3) := by decide +kernel
theorem dX8_readBands_123 : decode cX8_readBands 123 = .ok (.ireturn, 1) := by decide +kernel
theorem dX8_readBands_124 : decode cX8_readBands 124 = .ok (.aload_n 0, 1) := by decide +kernel
theorem dX8_readBands_125 : decode cX8_readBands 125 = .ok (.invokevirtual 93, 3) := by decide +kernel
theorem dX8_readBands_128 : decode cX8_readBands 128 = .ok (.aload_n 0, 1) := by decide +kernel
theorem dX8_readBands_129 : decode cX8_readBands 129 = .ok (.iconst 3, 1) := by decide +kernel
theorem dX8_readBands_130 : decode cX8_readBands 130 = .ok (.iconst 0, 1) := by decide +kernel
theorem dX8_readBands_131 : decode cX8_readBands 131 = .ok (.bipush 100, 2) := by decide +kernel
theorem dX8_readBands_133 : decode cX8_readBands 133 = .ok (.invokevirtual 102, 3) := by decide +kernel
theorem dX8_readBands_136 : decode cX8_readBands 136 = .ok (.ifCond .eq 14, 3) := by decide +kernel
theorem dX8_readBands_139 : decode cX8_readBands 139 = .ok (.aload_n 0, 1) := by decide +kernel
theorem dX8_readBands_140 : decode cX8_readBands 140 = .ok (.invokevirtual 105, 3) := by decide +kernel
theorem dX8_readBands_143 : decode cX8_readBands 143 = .ok (.ifCond .eq 7, 3) := by decide +kernel
theorem dX8_readBands_146 : decode cX8_readBands 146 = .ok (.iconst 1, 1) := by decide +kernel
theorem dX8_readBands_147 : decode cX8_readBands 147 = .ok (.goto 4, 3) := by decide +kernel
theorem dX8_readBands_150 : decode cX8_readBands 150 = .ok (.iconst 0, 1) := by decide +kernel
theorem dX8_readBands_151 : decode cX8_readBands 151 = .ok (.ireturn, 1) := by decide +kernel
theorem dX8_isSubstance_0 : decode cX8_isSubstance 0 = .ok (.aload_n 0, 1) := by decide +kernel
theorem dX8_isSubstance_1 : decode cX8_isSubstance 1 = .ok (.ldc2_w 113, 3) := by decide +kernel
theorem dX8_isSubstance_4 : decode cX8_isSubstance 4 = .ok (.bipush 115, 2) := by decide +kernel
theorem dX8_isSubstance_6 : decode cX8_isSubstance 6 = .ok (.bipush 117, 2) := by decide +kernel
theorem dX8_isSubstance_8 : decode cX8_isSubstance 8 = .ok (.bipush 98, 2) := by decide +kernel
theorem dX8_isSubstance_10 : decode cX8_isSubstance 10 = .ok (.bipush 115, 2) := by decide +kernel
theorem dX8_isSubstance_12 : decode cX8_isSubstance 12 = .ok (.bipush 116, 2) := by decide +kernel
theorem dX8_isSubstance_14 : decode cX8_isSubstance 14 = .ok (.bipush 97, 2) := by decide +kernel
theorem dX8_isSubstance_16 : decode cX8_isSubstance 16 = .ok (.invokestatic 109, 3) := by decide +kernel
theorem dX8_isSubstance_19 : decode cX8_isSubstance 19 = .ok (.lmul, 1) := by decide +kernel
theorem dX8_isSubstance_20 : decode cX8_isSubstance 20 = .ok (.ldc2_w 48, 3) := by decide +kernel
theorem dX8_isSubstance_23 : decode cX8_isSubstance 23 = .ok (.bipush 110, 2) := by decide +kernel
theorem dX8_isSubstance_25 : decode cX8_isSubstance 25 = .ok (.bipush 99, 2) := by decide +kernel
theorem dX8_isSubstance_27 : decode cX8_isSubstance 27 = .ok (.invokestatic 54, 3) := by decide +kernel
theorem dX8_isSubstance_30 : decode cX8_isSubstance 30 = .ok (.lmul, 1) := by decide +kernel
theorem dX8_isSubstance_31 : decode cX8_isSubstance 31 = .ok (.ladd, 1) := by decide +kernel
theorem dX8_isSubstance_32 : decode cX8_isSubstance 32 = .ok (.ldc2_w 115, 3) := by decide +kernel
theorem dX8_isSubstance_35 : decode cX8_isSubstance 35 = .ok (.ladd, 1) := by decide +kernel
theorem dX8_isSubstance_36 : decode cX8_isSubstance 36 = .ok (.invokevirtual 98, 3) := by decide +kernel
theorem dX8_isSubstance_39 : decode cX8_isSubstance 39 = .ok (.ireturn, 1) := by decide +kernel
theorem dX8_isStationWord_0 : decode cX8_isStationWord 0 = .ok (.aload_n 0, 1) := by decide +kernel
theorem dX8_isStationWord_1 : decode cX8_isStationWord 1 = .ok (.ldc2_w 48, 3) := by decide +kernel
theorem dX8_isStationWord_4 : decode cX8_isStationWord 4 = .ok (.bipush 115, 2) := by decide +kernel
theorem dX8_isStationWord_6 : decode cX8_isStationWord 6 = .ok (.bipush 116, 2) := by decide +kernel
theorem dX8_isStationWord_8 : decode cX8_isStationWord 8 = .ok (.bipush 97, 2) := by decide +kernel
theorem dX8_isStationWord_10 : decode cX8_isStationWord 10 = .ok (.bipush 116, 2) := by decide +kernel
theorem dX8_isStationWord_12 : decode cX8_isStationWord 12 = .ok (.bipush 105, 2) := by decide +kernel
theorem dX8_isStationWord_14 : decode cX8_isStationWord 14 = .ok (.bipush 111, 2) := by decide +kernel
theorem dX8_isStationWord_16 : decode cX8_isStationWord 16 = .ok (.invokestatic 109, 3) := by decide +kernel
theorem dX8_isStationWord_19 : decode cX8_isStationWord 19 = .ok (.lmul, 1) := by decide +kernel
theorem dX8_isStationWord_20 : decode cX8_isStationWord 20 = .ok (.ldc2_w 117, 3) := by decide +kernel
theorem dX8_isStationWord_23 : decode cX8_isStationWord 23 = .ok (.ladd, 1) := by decide +kernel
theorem dX8_isStationWord_24 : decode cX8_isStationWord 24 = .ok (.invokevirtual 98, 3) := by decide +kernel
theorem dX8_isStationWord_27 : decode cX8_isStationWord 27 = .ok (.ireturn, 1) := by decide +kernel
theorem dX8_readPoint_0 : decode cX8_readPoint 0 = .ok (.aload_n 0, 1) := by decide +kernel
theorem dX8_readPoint_1 : decode cX8_readPoint 1 = .ok (.getfield 77, 3) := by decide +kernel
theorem dX8_readPoint_4 : decode cX8_readPoint 4 = .ok (.iload_n 1, 1) := by decide +kernel
theorem dX8_readPoint_5 : decode cX8_readPoint 5 = .ok (.iconst 2, 1) := by decide +kernel
theorem dX8_readPoint_6 : decode cX8_readPoint 6 = .ok (.iadd, 1) := by decide +kernel
theorem dX8_readPoint_7 : decode cX8_readPoint 7 = .ok (.iaload, 1) := by decide +kernel
theorem dX8_readPoint_8 : decode cX8_readPoint 8 = .ok (.istore_n 2, 1) := by decide +kernel
theorem dX8_readPoint_9 : decode cX8_readPoint 9 = .ok (.iload_n 1, 1) := by decide +kernel
theorem dX8_readPoint_10 : decode cX8_readPoint 10 = .ok (.iconst 3, 1) := by decide +kernel
theorem dX8_readPoint_11 : decode cX8_readPoint 11 = .ok (.iadd, 1) := by decide +kernel
theorem dX8_readPoint_12 : decode cX8_readPoint 12 = .ok (.iconst 2, 1) := by decide +kernel
theorem dX8_readPoint_13 : decode cX8_readPoint 13 = .ok (.iload_n 2, 1) := by decide +kernel
theorem dX8_readPoint_14 : decode cX8_readPoint 14 = .ok (.imul, 1) := by decide +kernel
theorem dX8_readPoint_15 : decode cX8_readPoint 15 = .ok (.iadd, 1) := by decide +kernel
theorem dX8_readPoint_16 : decode cX8_readPoint 16 = .ok (.istore_n 3, 1) := by decide +kernel
theorem dX8_readPoint_17 : decode cX8_readPoint 17 = .ok (.aload_n 0, 1) := by decide +kernel
theorem dX8_readPoint_18 : decode cX8_readPoint 18 = .ok (.getfield 27, 3) := by decide +kernel
theorem dX8_readPoint_21 : decode cX8_readPoint 21 = .ok (.iconst 3, 1) := by decide +kernel
theorem dX8_readPoint_22 : decode cX8_readPoint 22 = .ok (.if_icmp .eq 9, 3) := by decide +kernel
theorem dX8_readPoint_25 : decode cX8_readPoint 25 = .ok (.aload_n 0, 1) := by decide +kernel
theorem dX8_readPoint_26 : decode cX8_readPoint 26 = .ok (.iconst 1, 1) := by decide +kernel
theorem dX8_readPoint_27 : decode cX8_readPoint 27 = .ok (.invokevirtual 86, 3) := by decide +kernel
theorem dX8_readPoint_30 : decode cX8_readPoint 30 = .ok (.ireturn, 1) := by decide +kernel
theorem dX8_readPoint_31 : decode cX8_readPoint 31 = .ok (.aload_n 0, 1) := by decide +kernel
theorem dX8_readPoint_32 : decode cX8_readPoint 32 = .ok (.getfield 41, 3) := by decide +kernel
theorem dX8_readPoint_35 : decode cX8_readPoint 35 = .ok (.iload_n 2, 1) := by decide +kernel
theorem dX8_readPoint_36 : decode cX8_readPoint 36 = .ok (.ifCond .ne 7, 3) := by decide +kernel
theorem dX8_readPoint_39 : decode cX8_readPoint 39 = .ok (.iconst 0, 1) := by decide +kernel
theorem dX8_readPoint_40 : decode cX8_readPoint 40 = .ok (.goto 13, 3) := by decide +kernel
theorem dX8_readPoint_43 : decode cX8_readPoint 43 = .ok (.aload_n 0, 1) := by decide +kernel
theorem dX8_readPoint_44 : decode cX8_readPoint 44 = .ok (.getfield 77, 3) := by decide +kernel
theorem dX8_readPoint_47 : decode cX8_readPoint 47 = .ok (.iload_n 3, 1) := by decide +kernel
theorem dX8_readPoint_48 : decode cX8_readPoint 48 = .ok (.iconst 2, 1) := by decide +kernel
theorem dX8_readPoint_49 : decode cX8_readPoint 49 = .ok (.isub, 1) := by decide +kernel
theorem dX8_readPoint_50 : decode cX8_readPoint 50 = .ok (.iaload, 1) := by decide +kernel
theorem dX8_readPoint_51 : decode cX8_readPoint 51 = .ok (.iconst 1, 1) := by decide +kernel
theorem dX8_readPoint_52 : decode cX8_readPoint 52 = .ok (.iadd, 1) := by decide +kernel
theorem dX8_readPoint_53 : decode cX8_readPoint 53 = .ok (.sipush 999, 3) := by decide +kernel
theorem dX8_readPoint_56 : decode cX8_readPoint 56 = .ok (.invokestatic 89, 3) := by decide +kernel
theorem dX8_readPoint_59 : decode cX8_readPoint 59 = .ok (.ifCond .ne 9, 3) := by decide +kernel
theorem dX8_readPoint_62 : decode cX8_readPoint 62 = .ok (.aload_n 0, 1) := by decide +kernel
theorem dX8_readPoint_63 : decode cX8_readPoint 63 = .ok (.iconst 2, 1) := by decide +kernel
theorem dX8_readPoint_64 : decode cX8_readPoint 64 = .ok (.invokevirtual 86, 3) := by decide +kernel
theorem dX8_readPoint_67 : decode cX8_readPoint 67 = .ok (.ireturn, 1) := by decide +kernel
theorem dX8_readPoint_68 : decode cX8_readPoint 68 = .ok (.iload_n 2, 1) := by decide +kernel
theorem dX8_readPoint_69 : decode cX8_readPoint 69 = .ok (.iconst 5, 1) := by decide +kernel
theorem dX8_readPoint_70 : decode cX8_readPoint 70 = .ok (.if_icmp .ne 9, 3) := by decide +kernel
theorem dX8_readPoint_73 : decode cX8_readPoint 73 = .ok (.aload_n 0, 1) := by decide +kernel
theorem dX8_readPoint_74 : decode cX8_readPoint 74 = .ok (.iconst 3, 1) := by decide +kernel
theorem dX8_readPoint_75 : decode cX8_readPoint 75 = .ok (.invokevirtual 86, 3) := by decide +kernel
theorem dX8_readPoint_78 : decode cX8_readPoint 78 = .ok (.ireturn, 1) := by decide +kernel
theorem dX8_readPoint_79 : decode cX8_readPoint 79 = .ok (.aload_n 0, 1) := by decide +kernel
theorem dX8_readPoint_80 : decode cX8_readPoint 80 = .ok (.getfield 77, 3) := by decide +kernel
theorem dX8_readPoint_83 : decode cX8_readPoint 83 = .ok (.iload_n 3, 1) := by decide +kernel
theorem dX8_readPoint_84 : decode cX8_readPoint 84 = .ok (.aload_n 0, 1) := by decide +kernel
theorem dX8_readPoint_85 : decode cX8_readPoint 85 = .ok (.getfield 41, 3) := by decide +kernel
theorem dX8_readPoint_88 : decode cX8_readPoint 88 = .ok (.iastore, 1) := by decide +kernel
theorem dX8_readPoint_89 : decode cX8_readPoint 89 = .ok (.aload_n 0, 1) := by decide +kernel
theorem dX8_readPoint_90 : decode cX8_readPoint 90 = .ok (.invokevirtual 93, 3) := by decide +kernel
theorem dX8_readPoint_93 : decode cX8_readPoint 93 = .ok (.aload_n 0, 1) := by decide +kernel
theorem dX8_readPoint_94 : decode cX8_readPoint 94 = .ok (.iload_n 3, 1) := by decide +kernel
theorem dX8_readPoint_95 : decode cX8_readPoint 95 = .ok (.iconst 1, 1) := by decide +kernel
theorem dX8_readPoint_96 : decode cX8_readPoint 96 = .ok (.iadd, 1) := by decide +kernel
theorem dX8_readPoint_97 : decode cX8_readPoint 97 = .ok (.iload_n 2, 1) := by decide +kernel
theorem dX8_readPoint_98 : decode cX8_readPoint 98 = .ok (.ifCond .ne 7, 3) := by decide +kernel
theorem dX8_readPoint_101 : decode cX8_readPoint 101 = .ok (.iconst 0, 1) := by decide +kernel
theorem dX8_readPoint_102 : decode cX8_readPoint 102 = .ok (.goto 11, 3) := by decide +kernel
theorem dX8_readPoint_105 : decode cX8_readPoint 105 = .ok (.aload_n 0, 1) := by decide +kernel
theorem dX8_readPoint_106 : decode cX8_readPoint 106 = .ok (.getfield 77, 3) := by decide +kernel
theorem dX8_readPoint_109 : decode cX8_readPoint 109 = .ok (.iload_n 3, 1) := by decide +kernel
theorem dX8_readPoint_110 : decode cX8_readPoint 110 = .ok (.iconst 1, 1) := by decide +kernel
theorem dX8_readPoint_111 : decode cX8_readPoint 111 = .ok (.isub, 1) := by decide +kernel
theorem dX8_readPoint_112 : decode cX8_readPoint 112 = .ok (.iaload, 1) := by decide +kernel
theorem dX8_readPoint_113 : decode cX8_readPoint 113 = .ok (.sipush 500, 3) := by decide +kernel
theorem dX8_readPoint_116 : decode cX8_readPoint 116 = .ok (.invokevirtual 102, 3) := by decide +kernel
theorem dX8_readPoint_119 : decode cX8_readPoint 119 = .ok (.ifCond .ne 5, 3) := by decide +kernel
theorem dX8_readPoint_122 : decode cX8_readPoint 122 = .ok (.iconst 0, 1) := by decide +kernel
theorem dX8_readPoint_123 : decode cX8_readPoint 123 = .ok (.ireturn, 1) := by decide +kernel
theorem dX8_readPoint_124 : decode cX8_readPoint 124 = .ok (.aload_n 0, 1) := by decide +kernel
theorem dX8_readPoint_125 : decode cX8_readPoint 125 = .ok (.getfield 77, 3) := by decide +kernel
theorem dX8_readPoint_128 : decode cX8_readPoint 128 = .ok (.iload_n 1, 1) := by decide +kernel
theorem dX8_readPoint_129 : decode cX8_readPoint 129 = .ok (.iconst 2, 1) := by decide +kernel
theorem dX8_readPoint_130 : decode cX8_readPoint 130 = .ok (.iadd, 1) := by decide +kernel
theorem dX8_readPoint_131 : decode cX8_readPoint 131 = .ok (.dup2, 1) := by decide +kernel
theorem dX8_readPoint_132 : decode cX8_readPoint 132 = .ok (.iaload, 1) := by decide +kernel
theorem dX8_readPoint_133 : decode cX8_readPoint 133 = .ok (.iconst 1, 1) := by decide +kernel
theorem dX8_readPoint_134 : decode cX8_readPoint 134 = .ok (.iadd, 1) := by decide +kernel
theorem dX8_readPoint_135 : decode cX8_readPoint 135 = .ok (.iastore, 1) := by decide +kernel
theorem dX8_readPoint_136 : decode cX8_readPoint 136 = .ok (.iconst 1, 1) := by decide +kernel
theorem dX8_readPoint_137 : decode cX8_readPoint 137 = .ok (.ireturn, 1) := by decide +kernel
theorem dX8_readSubstance_0 : decode cX8_readSubstance 0 = .ok (.aload_n 0, 1) := by decide +kernel
theorem dX8_readSubstance_1 : decode cX8_readSubstance 1 = .ok (.invokevirtual 119, 3) := by decide +kernel
theorem dX8_readSubstance_4 : decode cX8_readSubstance 4 = .ok (.ifCond .ne 9, 3) := by decide +kernel
theorem dX8_readSubstance_7 : decode cX8_readSubstance 7 = .ok (.aload_n 0, 1) := by decide +kernel
theorem dX8_readSubstance_8 : decode cX8_readSubstance 8 = .ok (.iconst 1, 1) := by decide +kernel
theorem dX8_readSubstance_9 : decode cX8_readSubstance 9 = .ok (.invokevirtual 86, 3) := by decide +kernel
theorem dX8_readSubstance_12 : decode cX8_readSubstance 12 = .ok (.ireturn, 1) := by decide +kernel
theorem dX8_readSubstance_13 : decode cX8_readSubstance 13 = .ok (.aload_n 0, 1) := by decide +kernel
theorem dX8_readSubstance_14 : decode cX8_readSubstance 14 = .ok (.getfield 77, 3) := by decide +kernel
theorem dX8_readSubstance_17 : decode cX8_readSubstance 17 = .ok (.iconst 1, 1) := by decide +kernel
theorem dX8_readSubstance_18 : decode cX8_readSubstance 18 = .ok (.iaload, 1) := by decide +kernel
theorem dX8_readSubstance_19 : decode cX8_readSubstance 19 = .ok (.iconst 3, 1) := by decide +kernel
theorem dX8_readSubstance_20 : decode cX8_readSubstance 20 = .ok (.if_icmp .ne 9, 3) := by decide +kernel
theorem dX8_readSubstance_23 : decode cX8_readSubstance 23 = .ok (.aload_n 0, 1) := by decide +kernel
theorem dX8_readSubstance_24 : decode cX8_readSubstance 24 = .ok (.iconst 3, 1) := by decide +kernel
theorem dX8_readSubstance_25 : decode cX8_readSubstance 25 = .ok (.invokevirtual 86, 3) := by decide +kernel
theorem dX8_readSubstance_28 : decode cX8_readSubstance 28 = .ok (.ireturn, 1) := by decide +kernel
theorem dX8_readSubstance_29 : decode cX8_readSubstance 29 = .ok (.aload_n 0, 1) := by decide +kernel
theorem dX8_readSubstance_30 : decode cX8_readSubstance 30 = .ok (.invokevirtual 93, 3) := by decide +kernel
theorem dX8_readSubstance_33 : decode cX8_readSubstance 33 = .ok (.bipush 7, 2) := by decide +kernel
theorem dX8_readSubstance_35 : decode cX8_readSubstance 35 = .ok (.bipush 13, 2) := by decide +kernel
theorem dX8_readSubstance_37 : decode cX8_readSubstance 37 = .ok (.aload_n 0, 1) := by decide +kernel
theorem dX8_readSubstance_38 : decode cX8_readSubstance 38 = .ok (.getfield 77, 3) := by decide +kernel
theorem dX8_readSubstance_41 : decode cX8_readSubstance 41 = .ok (.iconst 1, 1) := by decide +kernel
theorem dX8_readSubstance_42 : decode cX8_readSubstance 42 = .ok (.iaload, 1) := by decide +kernel
theorem dX8_readSubstance_43 : decode cX8_readSubstance 43 = .ok (.imul, 1) := by decide +kernel
theorem dX8_readSubstance_44 : decode cX8_readSubstance 44 = .ok (.iadd, 1) := by decide +kernel
theorem dX8_readSubstance_45 : decode cX8_readSubstance 45 = .ok (.istore_n 1, 1) := by decide +kernel
theorem dX8_readSubstance_46 : decode cX8_readSubstance 46 = .ok (.aload_n 0, 1) := by decide +kernel
theorem dX8_readSubstance_47 : decode cX8_readSubstance 47 = .ok (.iload_n 1, 1) := by decide +kernel
theorem dX8_readSubstance_48 : decode cX8_readSubstance 48 = .ok (.iconst 0, 1) := by decide +kernel
theorem dX8_readSubstance_49 : decode cX8_readSubstance 49 = .ok (.iadd, 1) := by decide +kernel
theorem dX8_readSubstance_50 : decode cX8_readSubstance 50 = .ok (.iconst 1, 1) := by decide +kernel
theorem dX8_readSubstance_51 : decode cX8_readSubstance 51 = .ok (.bipush 12, 2) := by decide +kernel
theorem dX8_readSubstance_53 : decode cX8_readSubstance 53 = .ok (.invokevirtual 102, 3) := by decide +kernel
theorem dX8_readSubstance_56 : decode cX8_readSubstance 56 = .ok (.ifCond .eq 22, 3) := by decide +kernel
theorem dX8_readSubstance_59 : decode cX8_readSubstance 59 = .ok (.aload_n 0, 1) := by decide +kernel
theorem dX8_readSubstance_60 : decode cX8_readSubstance 60 = .ok (.iload_n 1, 1) := by decide +kernel
theorem dX8_readSubstance_61 : decode cX8_readSubstance 61 = .ok (.iconst 1, 1) := by decide +kernel
theorem dX8_readSubstance_62 : decode cX8_readSubstance 62 = .ok (.iadd, 1) := by decide +kernel
theorem dX8_readSubstance_63 : decode cX8_readSubstance 63 = .ok (.iconst 1, 1) := by decide +kernel
theorem dX8_readSubstance_64 : decode cX8_readSubstance 64 = .ok (.aload_n 0, 1) := by decide +kernel
theorem dX8_readSubstance_65 : decode cX8_readSubstance 65 = .ok (.getfield 77, 3) := by decide +kernel
theorem dX8_readSubstance_68 : decode cX8_readSubstance 68 = .ok (.iload_n 1, 1) := by decide +kernel
theorem dX8_readSubstance_69 : decode cX8_readSubstance 69 = .ok (.iconst 0, 1) := by decide +kernel
theorem dX8_readSubstance_70 : decode cX8_readSubstance 70 = .ok (.iadd, 1) := by decide +kernel
theorem dX8_readSubstance_71 : decode cX8_readSubstance 71 = .ok (.iaload, 1) := by decide +kernel
theorem dX8_readSubstance_72 : decode cX8_readSubstance 72 = .ok (.invokevirtual 102, 3) := by decide +kernel
theorem dX8_readSubstance_75 : decode cX8_readSubstance 75 = .ok (.ifCond .ne 5, 3) := by decide +kernel
theorem dX8_readSubstance_78 : decode cX8_readSubstance 78 = .ok (.iconst 0, 1) := by decide +kernel
theorem dX8_readSubstance_79 : decode cX8_readSubstance 79 = .ok (.ireturn, 1) := by decide +kernel
theorem dX8_readSubstance_80 : decode cX8_readSubstance 80 = .ok (.aload_n 0, 1) := by decide +kernel
theorem dX8_readSubstance_81 : decode cX8_readSubstance 81 = .ok (.getfield 77, 3) := by decide +kernel
theorem dX8_readSubstance_84 : decode cX8_readSubstance 84 = .ok (.iload_n 1, 1) := by decide +kernel
theorem dX8_readSubstance_85 : decode cX8_readSubstance 85 = .ok (.iconst 2, 1) := by decide +kernel
theorem dX8_readSubstance_86 : decode cX8_readSubstance 86 = .ok (.iadd, 1) := by decide +kernel
theorem dX8_readSubstance_87 : decode cX8_readSubstance 87 = .ok (.iaload, 1) := by decide +kernel
theorem dX8_readSubstance_88 : decode cX8_readSubstance 88 = .ok (.iconst 2, 1) := by decide +kernel
theorem dX8_readSubstance_89 : decode cX8_readSubstance 89 = .ok (.if_icmp .lt 11, 3) := by decide +kernel
theorem dX8_readSubstance_92 : decode cX8_readSubstance 92 = .ok (.aload_n 0, 1) := by decide +kernel
theorem dX8_readSubstance_93 : decode cX8_readSubstance 93 = .ok (.getfield 27, 3) := by decide +kernel
theorem dX8_readSubstance_96 : decode cX8_readSubstance 96 = .ok (.iconst 3, 1) := by decide +kernel
theorem dX8_readSubstance_97 : decode cX8_readSubstance 97 = .ok (.if_icmp .ne 13, 3) := by decide +kernel
theorem dX8_readSubstance_100 : decode cX8_readSubstance 100 = .ok (.aload_n 0, 1) := by decide +kernel
theorem dX8_readSubstance_101 : decode cX8_readSubstance 101 = .ok (.iload_n 1, 1) := by decide +kernel
theorem dX8_readSubstance_102 : decode cX8_readSubstance 102 = .ok (.invokevirtual 122, 3) := by decide +kernel
theorem dX8_readSubstance_105 : decode cX8_readSubstance 105 = .ok (.ifCond .ne (-25), 3) := by decide +kernel
theorem dX8_readSubstance_108 : decode cX8_readSubstance 108 = .ok (.iconst 0, 1) := by decide +kernel
theorem dX8_readSubstance_109 : decode cX8_readSubstance 109 = .ok (.ireturn, 1) := by decide +kernel
theorem dX8_readSubstance_110 : decode cX8_readSubstance 110 = .ok (.aload_n 0, 1) := by decide +kernel
theorem dX8_readSubstance_111 : decode cX8_readSubstance 111 = .ok (.getfield 77, 3) := by decide +kernel
theorem dX8_readSubstance_114 : decode cX8_readSubstance 114 = .ok (.iconst 1, 1) := by decide +kernel
theorem dX8_readSubstance_115 : decode cX8_readSubstance 115 = .ok (.dup2, 1) := by decide +kernel
theorem dX8_readSubstance_116 : decode cX8_readSubstance 116 = .ok (.iaload, 1) := by decide +kernel
theorem dX8_readSubstance_117 : decode cX8_readSubstance 117 = .ok (.iconst 1, 1) := by decide +kernel
theorem dX8_readSubstance_118 : decode cX8_readSubstance 118 = .ok (.iadd, 1) := by decide +kernel
theorem dX8_readSubstance_119 : decode cX8_readSubstance 119 = .ok (.iastore, 1) := by decide +kernel
theorem dX8_readSubstance_120 : decode cX8_readSubstance 120 = .ok (.aload_n 0, 1) := by decide +kernel
theorem dX8_readSubstance_121 : decode cX8_readSubstance 121 = .ok (.invokevirtual 105, 3) := by decide +kernel
theorem dX8_readSubstance_124 : decode cX8_readSubstance 124 = .ok (.ireturn, 1) := by decide +kernel
theorem dX8_readStation_0 : decode cX8_readStation 0 = .ok (.aload_n 0, 1) := by decide +kernel
theorem dX8_readStation_1 : decode cX8_readStation 1 = .ok (.invokevirtual 125, 3) := by decide +kernel
theorem dX8_readStation_4 : decode cX8_readStation 4 = .ok (.ifCond .ne 9, 3) := by decide +kernel
theorem dX8_readStation_7 : decode cX8_readStation 7 = .ok (.aload_n 0, 1) := by decide +kernel
theorem dX8_readStation_8 : decode cX8_readStation 8 = .ok (.iconst 1, 1) := by decide +kernel
theorem dX8_readStation_9 : decode cX8_readStation 9 = .ok (.invokevirtual 86, 3) := by decide +kernel
theorem dX8_readStation_12 : decode cX8_readStation 12 = .ok (.ireturn, 1) := by decide +kernel
theorem dX8_readStation_13 : decode cX8_readStation 13 = .ok (.aload_n 0, 1) := by decide +kernel
theorem dX8_readStation_14 : decode cX8_readStation 14 = .ok (.getfield 77, 3) := by decide +kernel
theorem dX8_readStation_17 : decode cX8_readStation 17 = .ok (.iconst 2, 1) := by decide +kernel
theorem dX8_readStation_18 : decode cX8_readStation 18 = .ok (.iaload, 1) := by decide +kernel
theorem dX8_readStation_19 : decode cX8_readStation 19 = .ok (.iconst 4, 1) := by decide +kernel
theorem dX8_readStation_20 : decode cX8_readStation 20 = .ok (.if_icmp .ne 9, 3) := by decide +kernel
theorem dX8_readStation_23 : decode cX8_readStation 23 = .ok (.aload_n 0, 1) := by decide +kernel
theorem dX8_readStation_24 : decode cX8_readStation 24 = .ok (.iconst 3, 1) := by decide +kernel
theorem dX8_readStation_25 : decode cX8_readStation 25 = .ok (.invokevirtual 86, 3) := by decide +kernel
theorem dX8_readStation_28 : decode cX8_readStation 28 = .ok (.ireturn, 1) := by decide +kernel
theorem dX8_readStation_29 : decode cX8_readStation 29 = .ok (.aload_n 0, 1) := by decide +kernel
theorem dX8_readStation_30 : decode cX8_readStation 30 = .ok (.invokevirtual 93, 3) := by decide +kernel
theorem dX8_readStation_33 : decode cX8_readStation 33 = .ok (.aload_n 0, 1) := by decide +kernel
theorem dX8_readStation_34 : decode cX8_readStation 34 = .ok (.bipush 46, 2) := by decide +kernel
theorem dX8_readStation_36 : decode cX8_readStation 36 = .ok (.aload_n 0, 1) := by decide +kernel
theorem dX8_readStation_37 : decode cX8_readStation 37 = .ok (.getfield 77, 3) := by decide +kernel
theorem dX8_readStation_40 : decode cX8_readStation 40 = .ok (.iconst 2, 1) := by decide +kernel
theorem dX8_readStation_41 : decode cX8_readStation 41 = .ok (.iaload, 1) := by decide +kernel
theorem dX8_readStation_42 : decode cX8_readStation 42 = .ok (.iadd, 1) := by decide +kernel
theorem dX8_readStation_43 : decode cX8_readStation 43 = .ok (.iconst 0, 1) := by decide +kernel
theorem dX8_readStation_44 : decode cX8_readStation 44 = .ok (.iconst 2, 1) := by decide +kernel
theorem dX8_readStation_45 : decode cX8_readStation 45 = .ok (.invokevirtual 102, 3) := by decide +kernel
theorem dX8_readStation_48 : decode cX8_readStation 48 = .ok (.ifCond .ne 5, 3) := by decide +kernel
theorem dX8_readStation_51 : decode cX8_readStation 51 = .ok (.iconst 0, 1) := by decide +kernel
theorem dX8_readStation_52 : decode cX8_readStation 52 = .ok (.ireturn, 1) := by decide +kernel
theorem dX8_readStation_53 : decode cX8_readStation 53 = .ok (.aload_n 0, 1) := by decide +kernel
theorem dX8_readStation_54 : decode cX8_readStation 54 = .ok (.getfield 77, 3) := by decide +kernel
theorem dX8_readStation_57 : decode cX8_readStation 57 = .ok (.iconst 2, 1) := by decide +kernel
theorem dX8_readStation_58 : decode cX8_readStation 58 = .ok (.dup2, 1) := by decide +kernel
theorem dX8_readStation_59 : decode cX8_readStation 59 = .ok (.iaload, 1) := by decide +kernel
theorem dX8_readStation_60 : decode cX8_readStation 60 = .ok (.iconst 1, 1) := by decide +kernel
theorem dX8_readStation_61 : decode cX8_readStation 61 = .ok (.iadd, 1) := by decide +kernel
theorem dX8_readStation_62 : decode cX8_readStation 62 = .ok (.iastore, 1) := by decide +kernel
theorem dX8_readStation_63 : decode cX8_readStation 63 = .ok (.aload_n 0, 1) := by decide +kernel
theorem dX8_readStation_64 : decode cX8_readStation 64 = .ok (.invokevirtual 105, 3) := by decide +kernel
theorem dX8_readStation_67 : decode cX8_readStation 67 = .ok (.ireturn, 1) := by decide +kernel
theorem dX8_at_0 : decode cX8_at 0 = .ok (.bipush 50, 2) := by decide +kernel
theorem dX8_at_2 : decode cX8_at 2 = .ok (.bipush 60, 2) := by decide +kernel
theorem dX8_at_4 : decode cX8_at 4 = .ok (.iconst 3, 1) := by decide +kernel
theorem dX8_at_5 : decode cX8_at 5 = .ok (.iload_n 0, 1) := by decide +kernel
theorem dX8_at_6 : decode cX8_at 6 = .ok (.imul, 1) := by decide +kernel
theorem dX8_at_7 : decode cX8_at 7 = .ok (.iload_n 1, 1) := by decide +kernel
theorem dX8_at_8 : decode cX8_at 8 = .ok (.iadd, 1) := by decide +kernel
theorem dX8_at_9 : decode cX8_at 9 = .ok (.imul, 1) := by decide +kernel
theorem dX8_at_10 : decode cX8_at 10 = .ok (.iadd, 1) := by decide +kernel
theorem dX8_at_11 : decode cX8_at 11 = .ok (.iload_n 2, 1) := by decide +kernel
theorem dX8_at_12 : decode cX8_at 12 = .ok (.iadd, 1) := by decide +kernel
theorem dX8_at_13 : decode cX8_at 13 = .ok (.ireturn, 1) := by decide +kernel
theorem dX8_readSeries_0 : decode cX8_readSeries 0 = .ok (.aload_n 0, 1) := by decide +kernel
theorem dX8_readSeries_1 : decode cX8_readSeries 1 = .ok (.invokevirtual 93, 3) := by decide +kernel
theorem dX8_readSeries_4 : decode cX8_readSeries 4 = .ok (.aload_n 0, 1) := by decide +kernel
theorem dX8_readSeries_5 : decode cX8_readSeries 5 = .ok (.getfield 27, 3) := by decide +kernel
theorem dX8_readSeries_8 : decode cX8_readSeries 8 = .ok (.iconst 3, 1) := by decide +kernel
theorem dX8_readSeries_9 : decode cX8_readSeries 9 = .ok (.if_icmp .eq 9, 3) := by decide +kernel
theorem dX8_readSeries_12 : decode cX8_readSeries 12 = .ok (.aload_n 0, 1) := by decide +kernel
theorem dX8_readSeries_13 : decode cX8_readSeries 13 = .ok (.iconst 1, 1) := by decide +kernel
theorem dX8_readSeries_14 : decode cX8_readSeries 14 = .ok (.invokevirtual 86, 3) := by decide +kernel
theorem dX8_readSeries_17 : decode cX8_readSeries 17 = .ok (.ireturn, 1) := by decide +kernel
theorem dX8_readSeries_18 : decode cX8_readSeries 18 = .ok (.aload_n 0, 1) := by decide +kernel
theorem dX8_readSeries_19 : decode cX8_readSeries 19 = .ok (.getfield 41, 3) := by decide +kernel
theorem dX8_readSeries_22 : decode cX8_readSeries 22 = .ok (.aload_n 0, 1) := by decide +kernel
theorem dX8_readSeries_23 : decode cX8_readSeries 23 = .ok (.getfield 77, 3) := by decide +kernel
theorem dX8_readSeries_26 : decode cX8_readSeries 26 = .ok (.iconst 2, 1) := by decide +kernel
theorem dX8_readSeries_27 : decode cX8_readSeries 27 = .ok (.iaload, 1) := by decide +kernel
theorem dX8_readSeries_28 : decode cX8_readSeries 28 = .ok (.if_icmp .lt 9, 3) := by decide +kernel
theorem dX8_readSeries_31 : decode cX8_readSeries 31 = .ok (.aload_n 0, 1) := by decide +kernel
theorem dX8_readSeries_32 : decode cX8_readSeries 32 = .ok (.iconst 2, 1) := by decide +kernel
theorem dX8_readSeries_33 : decode cX8_readSeries 33 = .ok (.invokevirtual 86, 3) := by decide +kernel
theorem dX8_readSeries_36 : decode cX8_readSeries 36 = .ok (.ireturn, 1) := by decide +kernel
theorem dX8_readSeries_37 : decode cX8_readSeries 37 = .ok (.aload_n 0, 1) := by decide +kernel
theorem dX8_readSeries_38 : decode cX8_readSeries 38 = .ok (.getfield 41, 3) := by decide +kernel
theorem dX8_readSeries_41 : decode cX8_readSeries 41 = .ok (.istore_n 1, 1) := by decide +kernel
theorem dX8_readSeries_42 : decode cX8_readSeries 42 = .ok (.aload_n 0, 1) := by decide +kernel
theorem dX8_readSeries_43 : decode cX8_readSeries 43 = .ok (.invokevirtual 93, 3) := by decide +kernel
theorem dX8_readSeries_46 : decode cX8_readSeries 46 = .ok (.aload_n 0, 1) := by decide +kernel
theorem dX8_readSeries_47 : decode cX8_readSeries 47 = .ok (.getfield 27, 3) := by decide +kernel
theorem dX8_readSeries_50 : decode cX8_readSeries 50 = .ok (.iconst 3, 1) := by decide +kernel
theorem dX8_readSeries_51 : decode cX8_readSeries 51 = .ok (.if_icmp .eq 9, 3) := by decide +kernel
theorem dX8_readSeries_54 : decode cX8_readSeries 54 = .ok (.aload_n 0, 1) := by decide +kernel
theorem dX8_readSeries_55 : decode cX8_readSeries 55 = .ok (.iconst 1, 1) := by decide +kernel
theorem dX8_readSeries_56 : decode cX8_readSeries 56 = .ok (.invokevirtual 86, 3) := by decide +kernel
theorem dX8_readSeries_59 : decode cX8_readSeries 59 = .ok (.ireturn, 1) := by decide +kernel
theorem dX8_readSeries_60 : decode cX8_readSeries 60 = .ok (.iconst 3, 1) := by decide +kernel
theorem dX8_readSeries_61 : decode cX8_readSeries 61 = .ok (.iload_n 1, 1) := by decide +kernel
theorem dX8_readSeries_62 : decode cX8_readSeries 62 = .ok (.imul, 1) := by decide +kernel
theorem dX8_readSeries_63 : decode cX8_readSeries 63 = .ok (.aload_n 0, 1) := by decide +kernel
theorem dX8_readSeries_64 : decode cX8_readSeries 64 = .ok (.getfield 41, 3) := by decide +kernel
theorem dX8_readSeries_67 : decode cX8_readSeries 67 = .ok (.iadd, 1) := by decide +kernel
theorem dX8_readSeries_68 : decode cX8_readSeries 68 = .ok (.istore_n 2, 1) := by decide +kernel
theorem dX8_readSeries_69 : decode cX8_readSeries 69 = .ok (.aload_n 0, 1) := by decide +kernel
theorem dX8_readSeries_70 : decode cX8_readSeries 70 = .ok (.getfield 41, 3) := by decide +kernel
theorem dX8_readSeries_73 : decode cX8_readSeries 73 = .ok (.aload_n 0, 1) := by decide +kernel
theorem dX8_readSeries_74 : decode cX8_readSeries 74 = .ok (.getfield 77, 3) := by decide +kernel
theorem dX8_readSeries_77 : decode cX8_readSeries 77 = .ok (.iconst 1, 1) := by decide +kernel
theorem dX8_readSeries_78 : decode cX8_readSeries 78 = .ok (.iaload, 1) := by decide +kernel
theorem dX8_readSeries_79 : decode cX8_readSeries 79 = .ok (.if_icmp .ge 15, 3) := by decide +kernel
theorem dX8_readSeries_82 : decode cX8_readSeries 82 = .ok (.aload_n 0, 1) := by decide +kernel
theorem dX8_readSeries_83 : decode cX8_readSeries 83 = .ok (.getfield 128, 3) := by decide +kernel
theorem dX8_readSeries_86 : decode cX8_readSeries 86 = .ok (.iload_n 2, 1) := by decide +kernel
theorem dX8_readSeries_87 : decode cX8_readSeries 87 = .ok (.ishr, 1) := by decide +kernel
theorem dX8_readSeries_88 : decode cX8_readSeries 88 = .ok (.iconst 1, 1) := by decide +kernel
theorem dX8_readSeries_89 : decode cX8_readSeries 89 = .ok (.iand, 1) := by decide +kernel
theorem dX8_readSeries_90 : decode cX8_readSeries 90 = .ok (.iconst 1, 1) := by decide +kernel
theorem dX8_readSeries_91 : decode cX8_readSeries 91 = .ok (.if_icmp .ne 9, 3) := by decide +kernel
theorem dX8_readSeries_94 : decode cX8_readSeries 94 = .ok (.aload_n 0, 1) := by decide +kernel
theorem dX8_readSeries_95 : decode cX8_readSeries 95 = .ok (.iconst 2, 1) := by decide +kernel
theorem dX8_readSeries_96 : decode cX8_readSeries 96 = .ok (.invokevirtual 86, 3) := by decide +kernel
theorem dX8_readSeries_99 : decode cX8_readSeries 99 = .ok (.ireturn, 1) := by decide +kernel
theorem dX8_readSeries_100 : decode cX8_readSeries 100 = .ok (.aload_n 0, 1) := by decide +kernel
theorem dX8_readSeries_101 : decode cX8_readSeries 101 = .ok (.getfield 41, 3) := by decide +kernel
theorem dX8_readSeries_104 : decode cX8_readSeries 104 = .ok (.istore_n 3, 1) := by decide +kernel
theorem dX8_readSeries_105 : decode cX8_readSeries 105 = .ok (.aload_n 0, 1) := by decide +kernel
theorem dX8_readSeries_106 : decode cX8_readSeries 106 = .ok (.dup, 1) := by decide +kernel
theorem dX8_readSeries_107 : decode cX8_readSeries 107 = .ok (.getfield 128, 3) := by decide +kernel
theorem dX8_readSeries_110 : decode cX8_readSeries 110 = .ok (.iconst 1, 1) := by decide +kernel
theorem dX8_readSeries_111 : decode cX8_readSeries 111 = .ok (.iload_n 2, 1) := by decide +kernel
theorem dX8_readSeries_112 : decode cX8_readSeries 112 = .ok (.ishl, 1) := by decide +kernel
theorem dX8_readSeries_113 : decode cX8_readSeries 113 = .ok (.ior, 1) := by decide +kernel
theorem dX8_readSeries_114 : decode cX8_readSeries 114 = .ok (.putfield 128, 3) := by decide +kernel
theorem dX8_readSeries_117 : decode cX8_readSeries 117 = .ok (.aload_n 0, 1) := by decide +kernel
theorem dX8_readSeries_118 : decode cX8_readSeries 118 = .ok (.invokevirtual 93, 3) := by decide +kernel
theorem dX8_readSeries_121 : decode cX8_readSeries 121 = .ok (.iconst 0, 1) := by decide +kernel
theorem dX8_readSeries_122 : decode cX8_readSeries 122 = .ok (.istore 4, 2) := by decide +kernel
theorem dX8_readSeries_124 : decode cX8_readSeries 124 = .ok (.iload 4, 2) := by decide +kernel
theorem dX8_readSeries_126 : decode cX8_readSeries 126 = .ok (.ifCond .eq 11, 3) := by decide +kernel
theorem dX8_readSeries_129 : decode cX8_readSeries 129 = .ok (.aload_n 0, 1) := by decide +kernel
theorem dX8_readSeries_130 : decode cX8_readSeries 130 = .ok (.getfield 27, 3) := by decide +kernel
theorem dX8_readSeries_133 : decode cX8_readSeries 133 = .ok (.iconst 4, 1) := by decide +kernel
theorem dX8_readSeries_134 : decode cX8_readSeries 134 = .ok (.if_icmp .eq 81, 3) := by decide +kernel
theorem dX8_readSeries_137 : decode cX8_readSeries 137 = .ok (.aload_n 0, 1) := by decide +kernel
theorem dX8_readSeries_138 : decode cX8_readSeries 138 = .ok (.ldc2_w 130, 3) := by decide +kernel
theorem dX8_readSeries_141 : decode cX8_readSeries 141 = .ok (.invokevirtual 98, 3) := by decide +kernel
theorem dX8_readSeries_144 : decode cX8_readSeries 144 = .ok (.istore 5, 2) := by decide +kernel
theorem dX8_readSeries_146 : decode cX8_readSeries 146 = .ok (.iload 5, 2) := by decide +kernel
theorem dX8_readSeries_148 : decode cX8_readSeries 148 = .ok (.ifCond .ne 17, 3) := by decide +kernel
theorem dX8_readSeries_151 : decode cX8_readSeries 151 = .ok (.aload_n 0, 1) := by decide +kernel
theorem dX8_readSeries_152 : decode cX8_readSeries 152 = .ok (.getfield 27, 3) := by decide +kernel
theorem dX8_readSeries_155 : decode cX8_readSeries 155 = .ok (.iconst 3, 1) := by decide +kernel
theorem dX8_readSeries_156 : decode cX8_readSeries 156 = .ok (.if_icmp .eq 9, 3) := by decide +kernel
theorem dX8_readSeries_159 : decode cX8_readSeries 159 = .ok (.aload_n 0, 1) := by decide +kernel
theorem dX8_readSeries_160 : decode cX8_readSeries 160 = .ok (.iconst 1, 1) := by decide +kernel
theorem dX8_readSeries_161 : decode cX8_readSeries 161 = .ok (.invokevirtual 86, 3) := by decide +kernel
theorem dX8_readSeries_164 : decode cX8_readSeries 164 = .ok (.ireturn, 1) := by decide +kernel
theorem dX8_readSeries_165 : decode cX8_readSeries 165 = .ok (.iload 4, 2) := by decide +kernel
theorem dX8_readSeries_167 : decode cX8_readSeries 167 = .ok (.bipush 24, 2) := by decide +kernel
theorem dX8_readSeries_169 : decode cX8_readSeries 169 = .ok (.if_icmp .ne 9, 3) := by decide +kernel
theorem dX8_readSeries_172 : decode cX8_readSeries 172 = .ok (.aload_n 0, 1) := by decide +kernel
theorem dX8_readSeries_173 : decode cX8_readSeries 173 = .ok (.iconst 3, 1) := by decide +kernel
theorem dX8_readSeries_174 : decode cX8_readSeries 174 = .ok (.invokevirtual 86, 3) := by decide +kernel
theorem dX8_readSeries_177 : decode cX8_readSeries 177 = .ok (.ireturn, 1) := by decide +kernel
theorem dX8_readSeries_178 : decode cX8_readSeries 178 = .ok (.aload_n 0, 1) := by decide +kernel
theorem dX8_readSeries_179 : decode cX8_readSeries 179 = .ok (.getfield 77, 3) := by decide +kernel
theorem dX8_readSeries_182 : decode cX8_readSeries 182 = .ok (.iload_n 1, 1) := by decide +kernel
theorem dX8_readSeries_183 : decode cX8_readSeries 183 = .ok (.iload_n 3, 1) := by decide +kernel
theorem dX8_readSeries_184 : decode cX8_readSeries 184 = .ok (.iload 4, 2) := by decide +kernel
theorem dX8_readSeries_186 : decode cX8_readSeries 186 = .ok (.invokestatic 132, 3) := by decide +kernel
theorem dX8_readSeries_189 : decode cX8_readSeries 189 = .ok (.iload 5, 2) := by decide +kernel
theorem dX8_readSeries_191 : decode cX8_readSeries 191 = .ok (.ifCond .eq 7, 3) := by decide +kernel
theorem dX8_readSeries_194 : decode cX8_readSeries 194 = .ok (.iconst 0, 1) := by decide +kernel
theorem dX8_readSeries_195 : decode cX8_readSeries 195 = .ok (.goto 9, 3) := by decide +kernel
theorem dX8_readSeries_198 : decode cX8_readSeries 198 = .ok (.aload_n 0, 1) := by decide +kernel
theorem dX8_readSeries_199 : decode cX8_readSeries 199 = .ok (.getfield 41, 3) := by decide +kernel
theorem dX8_readSeries_202 : decode cX8_readSeries 202 = .ok (.iconst 1, 1) := by decide +kernel
theorem dX8_readSeries_203 : decode cX8_readSeries 203 = .ok (.iadd, 1) := by decide +kernel
theorem dX8_readSeries_204 : decode cX8_readSeries 204 = .ok (.iastore, 1) := by decide +kernel
theorem dX8_readSeries_205 : decode cX8_readSeries 205 = .ok (.iinc 4 1, 3) := by decide +kernel
theorem dX8_readSeries_208 : decode cX8_readSeries 208 = .ok (.aload_n 0, 1) := by decide +kernel
theorem dX8_readSeries_209 : decode cX8_readSeries 209 = .ok (.invokevirtual 93, 3) := by decide +kernel
theorem dX8_readSeries_212 : decode cX8_readSeries 212 = .ok (.goto (-88), 3) := by decide +kernel
theorem dX8_readSeries_215 : decode cX8_readSeries 215 = .ok (.iload 4, 2) := by decide +kernel
theorem dX8_readSeries_217 : decode cX8_readSeries 217 = .ok (.aload_n 0, 1) := by decide +kernel
theorem dX8_readSeries_218 : decode cX8_readSeries 218 = .ok (.getfield 77, 3) := by decide +kernel
theorem dX8_readSeries_221 : decode cX8_readSeries 221 = .ok (.iconst 0, 1) := by decide +kernel
theorem dX8_readSeries_222 : decode cX8_readSeries 222 = .ok (.iaload, 1) := by decide +kernel
theorem dX8_readSeries_223 : decode cX8_readSeries 223 = .ok (.if_icmp .le 11, 3) := by decide +kernel
theorem dX8_readSeries_226 : decode cX8_readSeries 226 = .ok (.aload_n 0, 1) := by decide +kernel
theorem dX8_readSeries_227 : decode cX8_readSeries 227 = .ok (.getfield 77, 3) := by decide +kernel
theorem dX8_readSeries_230 : decode cX8_readSeries 230 = .ok (.iconst 0, 1) := by decide +kernel
theorem dX8_readSeries_231 : decode cX8_readSeries 231 = .ok (.iload 4, 2) := by decide +kernel
theorem dX8_readSeries_233 : decode cX8_readSeries 233 = .ok (.iastore, 1) := by decide +kernel
theorem dX8_readSeries_234 : decode cX8_readSeries 234 = .ok (.aload_n 0, 1) := by decide +kernel
theorem dX8_readSeries_235 : decode cX8_readSeries 235 = .ok (.invokevirtual 93, 3) := by decide +kernel
theorem dX8_readSeries_238 : decode cX8_readSeries 238 = .ok (.iconst 1, 1) := by decide +kernel
theorem dX8_readSeries_239 : decode cX8_readSeries 239 = .ok (.ireturn, 1) := by decide +kernel
theorem dX8_readWhole_0 : decode cX8_readWhole 0 = .ok (.aload_n 0, 1) := by decide +kernel
theorem dX8_readWhole_1 : decode cX8_readWhole 1 = .ok (.invokevirtual 136, 3) := by decide +kernel
theorem dX8_readWhole_4 : decode cX8_readWhole 4 = .ok (.ifCond .ne 5, 3) := by decide +kernel
theorem dX8_readWhole_7 : decode cX8_readWhole 7 = .ok (.iconst 0, 1) := by decide +kernel
theorem dX8_readWhole_8 : decode cX8_readWhole 8 = .ok (.ireturn, 1) := by decide +kernel
theorem dX8_readWhole_9 : decode cX8_readWhole 9 = .ok (.aload_n 0, 1) := by decide +kernel
theorem dX8_readWhole_10 : decode cX8_readWhole 10 = .ok (.iconst 2, 1) := by decide +kernel
theorem dX8_readWhole_11 : decode cX8_readWhole 11 = .ok (.putfield 139, 3) := by decide +kernel
theorem dX8_readWhole_14 : decode cX8_readWhole 14 = .ok (.aload_n 0, 1) := by decide +kernel
theorem dX8_readWhole_15 : decode cX8_readWhole 15 = .ok (.invokevirtual 142, 3) := by decide +kernel
theorem dX8_readWhole_18 : decode cX8_readWhole 18 = .ok (.ifCond .ne 5, 3) := by decide +kernel
theorem dX8_readWhole_21 : decode cX8_readWhole 21 = .ok (.iconst 0, 1) := by decide +kernel
theorem dX8_readWhole_22 : decode cX8_readWhole 22 = .ok (.ireturn, 1) := by decide +kernel
theorem dX8_readWhole_23 : decode cX8_readWhole 23 = .ok (.aload_n 0, 1) := by decide +kernel
theorem dX8_readWhole_24 : decode cX8_readWhole 24 = .ok (.dup, 1) := by decide +kernel
theorem dX8_readWhole_25 : decode cX8_readWhole 25 = .ok (.getfield 139, 3) := by decide +kernel
theorem dX8_readWhole_28 : decode cX8_readWhole 28 = .ok (.iconst 1, 1) := by decide +kernel
theorem dX8_readWhole_29 : decode cX8_readWhole 29 = .ok (.iadd, 1) := by decide +kernel
theorem dX8_readWhole_30 : decode cX8_readWhole 30 = .ok (.putfield 139, 3) := by decide +kernel
theorem dX8_readWhole_33 : decode cX8_readWhole 33 = .ok (.aload_n 0, 1) := by decide +kernel
theorem dX8_readWhole_34 : decode cX8_readWhole 34 = .ok (.invokevirtual 119, 3) := by decide +kernel
theorem dX8_readWhole_37 : decode cX8_readWhole 37 = .ok (.ifCond .ne (-23), 3) := by decide +kernel
theorem dX8_readWhole_40 : decode cX8_readWhole 40 = .ok (.aload_n 0, 1) := by decide +kernel
theorem dX8_readWhole_41 : decode cX8_readWhole 41 = .ok (.invokevirtual 145, 3) := by decide +kernel
theorem dX8_readWhole_44 : decode cX8_readWhole 44 = .ok (.ifCond .ne 5, 3) := by decide +kernel
theorem dX8_readWhole_47 : decode cX8_readWhole 47 = .ok (.iconst 0, 1) := by decide +kernel
theorem dX8_readWhole_48 : decode cX8_readWhole 48 = .ok (.ireturn, 1) := by decide +kernel
theorem dX8_readWhole_49 : decode cX8_readWhole 49 = .ok (.aload_n 0, 1) := by decide +kernel
theorem dX8_readWhole_50 : decode cX8_readWhole 50 = .ok (.dup, 1) := by decide +kernel
theorem dX8_readWhole_51 : decode cX8_readWhole 51 = .ok (.getfield 139, 3) := by decide +kernel
theorem dX8_readWhole_54 : decode cX8_readWhole 54 = .ok (.iconst 1, 1) := by decide +kernel
theorem dX8_readWhole_55 : decode cX8_readWhole 55 = .ok (.iadd, 1) := by decide +kernel
theorem dX8_readWhole_56 : decode cX8_readWhole 56 = .ok (.putfield 139, 3) := by decide +kernel
theorem dX8_readWhole_59 : decode cX8_readWhole 59 = .ok (.aload_n 0, 1) := by decide +kernel
theorem dX8_readWhole_60 : decode cX8_readWhole 60 = .ok (.invokevirtual 125, 3) := by decide +kernel
theorem dX8_readWhole_63 : decode cX8_readWhole 63 = .ok (.ifCond .ne (-23), 3) := by decide +kernel
theorem dX8_readWhole_66 : decode cX8_readWhole 66 = .ok (.aload_n 0, 1) := by decide +kernel
theorem dX8_readWhole_67 : decode cX8_readWhole 67 = .ok (.bipush 115, 2) := by decide +kernel
theorem dX8_readWhole_69 : decode cX8_readWhole 69 = .ok (.bipush 101, 2) := by decide +kernel
theorem dX8_readWhole_71 : decode cX8_readWhole 71 = .ok (.bipush 114, 2) := by decide +kernel
theorem dX8_readWhole_73 : decode cX8_readWhole 73 = .ok (.bipush 105, 2) := by decide +kernel
theorem dX8_readWhole_75 : decode cX8_readWhole 75 = .ok (.bipush 101, 2) := by decide +kernel
theorem dX8_readWhole_77 : decode cX8_readWhole 77 = .ok (.bipush 115, 2) := by decide +kernel
theorem dX8_readWhole_79 : decode cX8_readWhole 79 = .ok (.invokestatic 109, 3) := by decide +kernel
theorem dX8_readWhole_82 : decode cX8_readWhole 82 = .ok (.invokevirtual 98, 3) := by decide +kernel
theorem dX8_readWhole_85 : decode cX8_readWhole 85 = .ok (.ifCond .eq 25, 3) := by decide +kernel
theorem dX8_readWhole_88 : decode cX8_readWhole 88 = .ok (.aload_n 0, 1) := by decide +kernel
theorem dX8_readWhole_89 : decode cX8_readWhole 89 = .ok (.invokevirtual 148, 3) := by decide +kernel
theorem dX8_readWhole_92 : decode cX8_readWhole 92 = .ok (.ifCond .ne 5, 3) := by decide +kernel
theorem dX8_readWhole_95 : decode cX8_readWhole 95 = .ok (.iconst 0, 1) := by decide +kernel
theorem dX8_readWhole_96 : decode cX8_readWhole 96 = .ok (.ireturn, 1) := by decide +kernel
theorem dX8_readWhole_97 : decode cX8_readWhole 97 = .ok (.aload_n 0, 1) := by decide +kernel
theorem dX8_readWhole_98 : decode cX8_readWhole 98 = .ok (.dup, 1) := by decide +kernel
theorem dX8_readWhole_99 : decode cX8_readWhole 99 = .ok (.getfield 139, 3) := by decide +kernel
theorem dX8_readWhole_102 : decode cX8_readWhole 102 = .ok (.iconst 1, 1) := by decide +kernel
theorem dX8_readWhole_103 : decode cX8_readWhole 103 = .ok (.iadd, 1) := by decide +kernel
theorem dX8_readWhole_104 : decode cX8_readWhole 104 = .ok (.putfield 139, 3) := by decide +kernel
theorem dX8_readWhole_107 : decode cX8_readWhole 107 = .ok (.goto (-41), 3) := by decide +kernel
theorem dX8_readWhole_110 : decode cX8_readWhole 110 = .ok (.aload_n 0, 1) := by decide +kernel
theorem dX8_readWhole_111 : decode cX8_readWhole 111 = .ok (.getfield 27, 3) := by decide +kernel
theorem dX8_readWhole_114 : decode cX8_readWhole 114 = .ok (.ifCond .eq 11, 3) := by decide +kernel
theorem dX8_readWhole_117 : decode cX8_readWhole 117 = .ok (.aload_n 0, 1) := by decide +kernel
theorem dX8_readWhole_118 : decode cX8_readWhole 118 = .ok (.iconst 1, 1) := by decide +kernel
theorem dX8_readWhole_119 : decode cX8_readWhole 119 = .ok (.invokevirtual 86, 3) := by decide +kernel
theorem dX8_readWhole_122 : decode cX8_readWhole 122 = .ok (.ifCond .eq 7, 3) := by decide +kernel
theorem dX8_readWhole_125 : decode cX8_readWhole 125 = .ok (.iconst 1, 1) := by decide +kernel
theorem dX8_readWhole_126 : decode cX8_readWhole 126 = .ok (.goto 4, 3) := by decide +kernel
theorem dX8_readWhole_129 : decode cX8_readWhole 129 = .ok (.iconst 0, 1) := by decide +kernel
theorem dX8_readWhole_130 : decode cX8_readWhole 130 = .ok (.ireturn, 1) := by decide +kernel
theorem dX8_text_0 : decode cX8_text 0 = .ok (.aload_n 0, 1) := by decide +kernel
theorem dX8_text_1 : decode cX8_text 1 = .ok (.aload_n 0, 1) := by decide +kernel
theorem dX8_text_2 : decode cX8_text 2 = .ok (.getfield 11, 3) := by decide +kernel
theorem dX8_text_5 : decode cX8_text 5 = .ok (.putfield 18, 3) := by decide +kernel
theorem dX8_text_8 : decode cX8_text 8 = .ok (.aload_n 0, 1) := by decide +kernel
theorem dX8_text_9 : decode cX8_text 9 = .ok (.iconst 0, 1) := by decide +kernel
theorem dX8_text_10 : decode cX8_text 10 = .ok (.putfield 11, 3) := by decide +kernel
theorem dX8_text_13 : decode cX8_text 13 = .ok (.aload_n 0, 1) := by decide +kernel
theorem dX8_text_14 : decode cX8_text 14 = .ok (.iconst 0, 1) := by decide +kernel
theorem dX8_text_15 : decode cX8_text 15 = .ok (.putfield 62, 3) := by decide +kernel
theorem dX8_text_18 : decode cX8_text 18 = .ok (.aload_n 0, 1) := by decide +kernel
theorem dX8_text_19 : decode cX8_text 19 = .ok (.iconst 0, 1) := by decide +kernel
theorem dX8_text_20 : decode cX8_text 20 = .ok (.putfield 21, 3) := by decide +kernel
theorem dX8_text_23 : decode cX8_text 23 = .ok (.aload_n 0, 1) := by decide +kernel
theorem dX8_text_24 : decode cX8_text 24 = .ok (.iconst 0, 1) := by decide +kernel
theorem dX8_text_25 : decode cX8_text 25 = .ok (.putfield 128, 3) := by decide +kernel
theorem dX8_text_28 : decode cX8_text 28 = .ok (.iconst 0, 1) := by decide +kernel
theorem dX8_text_29 : decode cX8_text 29 = .ok (.istore_n 1, 1) := by decide +kernel
theorem dX8_text_30 : decode cX8_text 30 = .ok (.iload_n 1, 1) := by decide +kernel
theorem dX8_text_31 : decode cX8_text 31 = .ok (.sipush 770, 3) := by decide +kernel
theorem dX8_text_34 : decode cX8_text 34 = .ok (.if_icmp .ge 16, 3) := by decide +kernel
theorem dX8_text_37 : decode cX8_text 37 = .ok (.aload_n 0, 1) := by decide +kernel
theorem dX8_text_38 : decode cX8_text 38 = .ok (.getfield 77, 3) := by decide +kernel
theorem dX8_text_41 : decode cX8_text 41 = .ok (.iload_n 1, 1) := by decide +kernel
theorem dX8_text_42 : decode cX8_text 42 = .ok (.iconst 0, 1) := by decide +kernel
theorem dX8_text_43 : decode cX8_text 43 = .ok (.iastore, 1) := by decide +kernel
theorem dX8_text_44 : decode cX8_text 44 = .ok (.iinc 1 1, 3) := by decide +kernel
theorem dX8_text_47 : decode cX8_text 47 = .ok (.goto (-17), 3) := by decide +kernel
theorem dX8_text_50 : decode cX8_text 50 = .ok (.aload_n 0, 1) := by decide +kernel
theorem dX8_text_51 : decode cX8_text 51 = .ok (.invokevirtual 93, 3) := by decide +kernel
theorem dX8_text_54 : decode cX8_text 54 = .ok (.aload_n 0, 1) := by decide +kernel
theorem dX8_text_55 : decode cX8_text 55 = .ok (.invokevirtual 151, 3) := by decide +kernel
theorem dX8_text_58 : decode cX8_text 58 = .ok (.ifCond .ne 10, 3) := by decide +kernel
theorem dX8_text_61 : decode cX8_text 61 = .ok (.iconst (-1), 1) := by decide +kernel
theorem dX8_text_62 : decode cX8_text 62 = .ok (.aload_n 0, 1) := by decide +kernel
theorem dX8_text_63 : decode cX8_text 63 = .ok (.getfield 65, 3) := by decide +kernel
theorem dX8_text_66 : decode cX8_text 66 = .ok (.isub, 1) := by decide +kernel
theorem dX8_text_67 : decode cX8_text 67 = .ok (.ireturn, 1) := by decide +kernel
theorem dX8_text_68 : decode cX8_text 68 = .ok (.iconst 0, 1) := by decide +kernel
theorem dX8_text_69 : decode cX8_text 69 = .ok (.istore_n 1, 1) := by decide +kernel
theorem dX8_text_70 : decode cX8_text 70 = .ok (.iload_n 1, 1) := by decide +kernel
theorem dX8_text_71 : decode cX8_text 71 = .ok (.sipush 770, 3) := by decide +kernel
theorem dX8_text_74 : decode cX8_text 74 = .ok (.if_icmp .ge 21, 3) := by decide +kernel
theorem dX8_text_77 : decode cX8_text 77 = .ok (.aload_n 0, 1) := by decide +kernel
theorem dX8_text_78 : decode cX8_text 78 = .ok (.getfield 74, 3) := by decide +kernel
theorem dX8_text_81 : decode cX8_text 81 = .ok (.iload_n 1, 1) := by decide +kernel
theorem dX8_text_82 : decode cX8_text 82 = .ok (.aload_n 0, 1) := by decide +kernel
theorem dX8_text_83 : decode cX8_text 83 = .ok (.getfield 77, 3) := by decide +kernel
theorem dX8_text_86 : decode cX8_text 86 = .ok (.iload_n 1, 1) := by decide +kernel
theorem dX8_text_87 : decode cX8_text 87 = .ok (.iaload, 1) := by decide +kernel
theorem dX8_text_88 : decode cX8_text 88 = .ok (.iastore, 1) := by decide +kernel
theorem dX8_text_89 : decode cX8_text 89 = .ok (.iinc 1 1, 3) := by decide +kernel
theorem dX8_text_92 : decode cX8_text 92 = .ok (.goto (-22), 3) := by decide +kernel
theorem dX8_text_95 : decode cX8_text 95 = .ok (.aload_n 0, 1) := by decide +kernel
theorem dX8_text_96 : decode cX8_text 96 = .ok (.iconst 0, 1) := by decide +kernel
theorem dX8_text_97 : decode cX8_text 97 = .ok (.putfield 154, 3) := by decide +kernel
theorem dX8_text_100 : decode cX8_text 100 = .ok (.aload_n 0, 1) := by decide +kernel
theorem dX8_text_101 : decode cX8_text 101 = .ok (.getfield 139, 3) := by decide +kernel
theorem dX8_text_104 : decode cX8_text 104 = .ok (.ireturn, 1) := by decide +kernel
theorem dX8_fault_0 : decode cX8_fault 0 = .ok (.aload_n 0, 1) := by decide +kernel
theorem dX8_fault_1 : decode cX8_fault 1 = .ok (.getfield 62, 3) := by decide +kernel
theorem dX8_fault_4 : decode cX8_fault 4 = .ok (.ireturn, 1) := by decide +kernel
theorem dX8_isStation_0 : decode cX8_isStation 0 = .ok (.iload_n 1, 1) := by decide +kernel
theorem dX8_isStation_1 : decode cX8_isStation 1 = .ok (.iconst 0, 1) := by decide +kernel
theorem dX8_isStation_2 : decode cX8_isStation 2 = .ok (.aload_n 0, 1) := by decide +kernel
theorem dX8_isStation_3 : decode cX8_isStation 3 = .ok (.getfield 74, 3) := by decide +kernel
theorem dX8_isStation_6 : decode cX8_isStation 6 = .ok (.iconst 2, 1) := by decide +kernel
theorem dX8_isStation_7 : decode cX8_isStation 7 = .ok (.iaload, 1) := by decide +kernel
theorem dX8_isStation_8 : decode cX8_isStation 8 = .ok (.iconst 1, 1) := by decide +kernel
theorem dX8_isStation_9 : decode cX8_isStation 9 = .ok (.isub, 1) := by decide +kernel
theorem dX8_isStation_10 : decode cX8_isStation 10 = .ok (.invokestatic 89, 3) := by decide +kernel
theorem dX8_isStation_13 : decode cX8_isStation 13 = .ok (.ireturn, 1) := by decide +kernel
theorem dX8_isSubstance__0 : decode cX8_isSubstance_ 0 = .ok (.iload_n 1, 1) := by decide +kernel
theorem dX8_isSubstance__1 : decode cX8_isSubstance_ 1 = .ok (.iconst 0, 1) := by decide +kernel
theorem dX8_isSubstance__2 : decode cX8_isSubstance_ 2 = .ok (.aload_n 0, 1) := by decide +kernel
theorem dX8_isSubstance__3 : decode cX8_isSubstance_ 3 = .ok (.getfield 74, 3) := by decide +kernel
theorem dX8_isSubstance__6 : decode cX8_isSubstance_ 6 = .ok (.iconst 1, 1) := by decide +kernel
theorem dX8_isSubstance__7 : decode cX8_isSubstance_ 7 = .ok (.iaload, 1) := by decide +kernel
theorem dX8_isSubstance__8 : decode cX8_isSubstance_ 8 = .ok (.iconst 1, 1) := by decide +kernel
theorem dX8_isSubstance__9 : decode cX8_isSubstance_ 9 = .ok (.isub, 1) := by decide +kernel
theorem dX8_isSubstance__10 : decode cX8_isSubstance_ 10 = .ok (.invokestatic 89, 3) := by decide +kernel
theorem dX8_isSubstance__13 : decode cX8_isSubstance_ 13 = .ok (.ireturn, 1) := by decide +kernel
theorem dX8_isHour_0 : decode cX8_isHour 0 = .ok (.iload_n 1, 1) := by decide +kernel
theorem dX8_isHour_1 : decode cX8_isHour 1 = .ok (.iconst 0, 1) := by decide +kernel
theorem dX8_isHour_2 : decode cX8_isHour 2 = .ok (.aload_n 0, 1) := by decide +kernel
theorem dX8_isHour_3 : decode cX8_isHour 3 = .ok (.getfield 74, 3) := by decide +kernel
theorem dX8_isHour_6 : decode cX8_isHour 6 = .ok (.iconst 0, 1) := by decide +kernel
theorem dX8_isHour_7 : decode cX8_isHour 7 = .ok (.iaload, 1) := by decide +kernel
theorem dX8_isHour_8 : decode cX8_isHour 8 = .ok (.iconst 1, 1) := by decide +kernel
theorem dX8_isHour_9 : decode cX8_isHour 9 = .ok (.isub, 1) := by decide +kernel
theorem dX8_isHour_10 : decode cX8_isHour 10 = .ok (.invokestatic 89, 3) := by decide +kernel
theorem dX8_isHour_13 : decode cX8_isHour 13 = .ok (.ireturn, 1) := by decide +kernel
theorem dX8_are_0 : decode cX8_are 0 = .ok (.aload_n 0, 1) := by decide +kernel
theorem dX8_are_1 : decode cX8_are 1 = .ok (.iload_n 1, 1) := by decide +kernel
theorem dX8_are_2 : decode cX8_are 2 = .ok (.invokevirtual 157, 3) := by decide +kernel
theorem dX8_are_5 : decode cX8_are 5 = .ok (.ifCond .eq 23, 3) := by decide +kernel
theorem dX8_are_8 : decode cX8_are 8 = .ok (.aload_n 0, 1) := by decide +kernel
theorem dX8_are_9 : decode cX8_are 9 = .ok (.iload_n 2, 1) := by decide +kernel
theorem dX8_are_10 : decode cX8_are 10 = .ok (.invokevirtual 160, 3) := by decide +kernel
theorem dX8_are_13 : decode cX8_are 13 = .ok (.ifCond .eq 15, 3) := by decide +kernel
theorem dX8_are_16 : decode cX8_are 16 = .ok (.aload_n 0, 1) := by decide +kernel
theorem dX8_are_17 : decode cX8_are 17 = .ok (.iload_n 3, 1) := by decide +kernel
theorem dX8_are_18 : decode cX8_are 18 = .ok (.invokevirtual 162, 3) := by decide +kernel
theorem dX8_are_21 : decode cX8_are 21 = .ok (.ifCond .eq 7, 3) := by decide +kernel
theorem dX8_are_24 : decode cX8_are 24 = .ok (.iconst 1, 1) := by decide +kernel
theorem dX8_are_25 : decode cX8_are 25 = .ok (.goto 4, 3) := by decide +kernel
theorem dX8_are_28 : decode cX8_are 28 = .ok (.iconst 0, 1) := by decide +kernel
theorem dX8_are_29 : decode cX8_are 29 = .ok (.ireturn, 1) := by decide +kernel
theorem dX8_its_0 : decode cX8_its 0 = .ok (.aload_n 0, 1) := by decide +kernel
theorem dX8_its_1 : decode cX8_its 1 = .ok (.getfield 74, 3) := by decide +kernel
theorem dX8_its_4 : decode cX8_its 4 = .ok (.bipush 7, 2) := by decide +kernel
theorem dX8_its_6 : decode cX8_its 6 = .ok (.bipush 13, 2) := by decide +kernel
theorem dX8_its_8 : decode cX8_its 8 = .ok (.iload_n 1, 1) := by decide +kernel
theorem dX8_its_9 : decode cX8_its 9 = .ok (.imul, 1) := by decide +kernel
theorem dX8_its_10 : decode cX8_its 10 = .ok (.iadd, 1) := by decide +kernel
theorem dX8_its_11 : decode cX8_its 11 = .ok (.iload_n 2, 1) := by decide +kernel
theorem dX8_its_12 : decode cX8_its 12 = .ok (.iadd, 1) := by decide +kernel
theorem dX8_its_13 : decode cX8_its 13 = .ok (.iaload, 1) := by decide +kernel
theorem dX8_its_14 : decode cX8_its 14 = .ok (.ireturn, 1) := by decide +kernel
theorem dX8_readOf_0 : decode cX8_readOf 0 = .ok (.aload_n 0, 1) := by decide +kernel
theorem dX8_readOf_1 : decode cX8_readOf 1 = .ok (.getfield 74, 3) := by decide +kernel
theorem dX8_readOf_4 : decode cX8_readOf 4 = .ok (.iload_n 1, 1) := by decide +kernel
theorem dX8_readOf_5 : decode cX8_readOf 5 = .ok (.iload_n 2, 1) := by decide +kernel
theorem dX8_readOf_6 : decode cX8_readOf 6 = .ok (.iload_n 3, 1) := by decide +kernel
theorem dX8_readOf_7 : decode cX8_readOf 7 = .ok (.invokestatic 132, 3) := by decide +kernel
theorem dX8_readOf_10 : decode cX8_readOf 10 = .ok (.iaload, 1) := by decide +kernel
theorem dX8_readOf_11 : decode cX8_readOf 11 = .ok (.iconst 1, 1) := by decide +kernel
theorem dX8_readOf_12 : decode cX8_readOf 12 = .ok (.isub, 1) := by decide +kernel
theorem dX8_readOf_13 : decode cX8_readOf 13 = .ok (.ireturn, 1) := by decide +kernel
theorem dX8_meanOf_0 : decode cX8_meanOf 0 = .ok (.iconst 0, 1) := by decide +kernel
theorem dX8_meanOf_1 : decode cX8_meanOf 1 = .ok (.istore 4, 2) := by decide +kernel
theorem dX8_meanOf_3 : decode cX8_meanOf 3 = .ok (.iconst 0, 1) := by decide +kernel
theorem dX8_meanOf_4 : decode cX8_meanOf 4 = .ok (.istore 5, 2) := by decide +kernel
theorem dX8_meanOf_6 : decode cX8_meanOf 6 = .ok (.iconst 0, 1) := by decide +kernel
theorem dX8_meanOf_7 : decode cX8_meanOf 7 = .ok (.istore 6, 2) := by decide +kernel
theorem dX8_meanOf_9 : decode cX8_meanOf 9 = .ok (.iconst 0, 1) := by decide +kernel
theorem dX8_meanOf_10 : decode cX8_meanOf 10 = .ok (.istore 7, 2) := by decide +kernel
theorem dX8_meanOf_12 : decode cX8_meanOf 12 = .ok (.iload_n 3, 1) := by decide +kernel
theorem dX8_meanOf_13 : decode cX8_meanOf 13 = .ok (.istore 8, 2) := by decide +kernel
theorem dX8_meanOf_15 : decode cX8_meanOf 15 = .ok (.iload 8, 2) := by decide +kernel
theorem dX8_meanOf_17 : decode cX8_meanOf 17 = .ok (.ifCond .lt 65, 3) := by decide +kernel
theorem dX8_meanOf_20 : decode cX8_meanOf 20 = .ok (.iload 8, 2) := by decide +kernel
theorem dX8_meanOf_22 : decode cX8_meanOf 22 = .ok (.iload_n 3, 1) := by decide +kernel
theorem dX8_meanOf_23 : decode cX8_meanOf 23 = .ok (.aload_n 0, 1) := by decide +kernel
theorem dX8_meanOf_24 : decode cX8_meanOf 24 = .ok (.iload_n 2, 1) := by decide +kernel
theorem dX8_meanOf_25 : decode cX8_meanOf 25 = .ok (.iconst 0, 1) := by decide +kernel
theorem dX8_meanOf_26 : decode cX8_meanOf 26 = .ok (.invokevirtual 165, 3) := by decide +kernel
theorem dX8_meanOf_29 : decode cX8_meanOf 29 = .ok (.isub, 1) := by decide +kernel
theorem dX8_meanOf_30 : decode cX8_meanOf 30 = .ok (.if_icmp .le 52, 3) := by decide +kernel
theorem dX8_meanOf_33 : decode cX8_meanOf 33 = .ok (.iinc 7 1, 3) := by decide +kernel
theorem dX8_meanOf_36 : decode cX8_meanOf 36 = .ok (.aload_n 0, 1) := by decide +kernel
theorem dX8_meanOf_37 : decode cX8_meanOf 37 = .ok (.iload_n 1, 1) := by decide +kernel
theorem dX8_meanOf_38 : decode cX8_meanOf 38 = .ok (.iload_n 2, 1) := by decide +kernel
theorem dX8_meanOf_39 : decode cX8_meanOf 39 = .ok (.iload 8, 2) := by decide +kernel
theorem dX8_meanOf_41 : decode cX8_meanOf 41 = .ok (.invokevirtual 169, 3) := by decide +kernel
theorem dX8_meanOf_44 : decode cX8_meanOf 44 = .ok (.istore 9, 2) := by decide +kernel
theorem dX8_meanOf_46 : decode cX8_meanOf 46 = .ok (.iload 9, 2) := by decide +kernel
theorem dX8_meanOf_48 : decode cX8_meanOf 48 = .ok (.iconst (-1), 1) := by decide +kernel
theorem dX8_meanOf_49 : decode cX8_meanOf 49 = .ok (.if_icmp .ne 6, 3) := by decide +kernel
theorem dX8_meanOf_52 : decode cX8_meanOf 52 = .ok (.goto 24, 3) := by decide +kernel
theorem dX8_meanOf_55 : decode cX8_meanOf 55 = .ok (.iinc 4 1, 3) := by decide +kernel
theorem dX8_meanOf_58 : decode cX8_meanOf 58 = .ok (.iload 5, 2) := by decide +kernel
theorem dX8_meanOf_60 : decode cX8_meanOf 60 = .ok (.iload 9, 2) := by decide +kernel
theorem dX8_meanOf_62 : decode cX8_meanOf 62 = .ok (.iadd, 1) := by decide +kernel
theorem dX8_meanOf_63 : decode cX8_meanOf 63 = .ok (.istore 5, 2) := by decide +kernel
theorem dX8_meanOf_65 : decode cX8_meanOf 65 = .ok (.iload 9, 2) := by decide +kernel
theorem dX8_meanOf_67 : decode cX8_meanOf 67 = .ok (.iload 6, 2) := by decide +kernel
theorem dX8_meanOf_69 : decode cX8_meanOf 69 = .ok (.if_icmp .le 7, 3) := by decide +kernel
theorem dX8_meanOf_72 : decode cX8_meanOf 72 = .ok (.iload 9, 2) := by decide +kernel
theorem dX8_meanOf_74 : decode cX8_meanOf 74 = .ok (.istore 6, 2) := by decide +kernel
theorem dX8_meanOf_76 : decode cX8_meanOf 76 = .ok (.iinc 8 (-1), 3) := by decide +kernel
theorem dX8_meanOf_79 : decode cX8_meanOf 79 = .ok (.goto (-64), 3) := by decide +kernel
theorem dX8_meanOf_82 : decode cX8_meanOf 82 = .ok (.iload 4, 2) := by decide +kernel
theorem dX8_meanOf_84 : decode cX8_meanOf 84 = .ok (.aload_n 0, 1) := by decide +kernel
theorem dX8_meanOf_85 : decode cX8_meanOf 85 = .ok (.iload_n 2, 1) := by decide +kernel
theorem dX8_meanOf_86 : decode cX8_meanOf 86 = .ok (.iconst 1, 1) := by decide +kernel
theorem dX8_meanOf_87 : decode cX8_meanOf 87 = .ok (.invokevirtual 165, 3) := by decide +kernel
theorem dX8_meanOf_90 : decode cX8_meanOf 90 = .ok (.if_icmp .ge 7, 3) := by decide +kernel
theorem dX8_meanOf_93 : decode cX8_meanOf 93 = .ok (.iconst (-1), 1) := by decide +kernel
theorem dX8_meanOf_94 : decode cX8_meanOf 94 = .ok (.goto 17, 3) := by decide +kernel
theorem dX8_meanOf_97 : decode cX8_meanOf 97 = .ok (.iload 5, 2) := by decide +kernel
theorem dX8_meanOf_99 : decode cX8_meanOf 99 = .ok (.iload 7, 2) := by decide +kernel
theorem dX8_meanOf_101 : decode cX8_meanOf 101 = .ok (.iload 4, 2) := by decide +kernel
theorem dX8_meanOf_103 : decode cX8_meanOf 103 = .ok (.isub, 1) := by decide +kernel
theorem dX8_meanOf_104 : decode cX8_meanOf 104 = .ok (.iload 6, 2) := by decide +kernel
theorem dX8_meanOf_106 : decode cX8_meanOf 106 = .ok (.imul, 1) := by decide +kernel
theorem dX8_meanOf_107 : decode cX8_meanOf 107 = .ok (.iadd, 1) := by decide +kernel
theorem dX8_meanOf_108 : decode cX8_meanOf 108 = .ok (.iload 7, 2) := by decide +kernel
theorem dX8_meanOf_110 : decode cX8_meanOf 110 = .ok (.idiv, 1) := by decide +kernel
theorem dX8_meanOf_111 : decode cX8_meanOf 111 = .ok (.ireturn, 1) := by decide +kernel
theorem dX8_scaleOf_0 : decode cX8_scaleOf 0 = .ok (.aload_n 0, 1) := by decide +kernel
theorem dX8_scaleOf_1 : decode cX8_scaleOf 1 = .ok (.iload_n 1, 1) := by decide +kernel
theorem dX8_scaleOf_2 : decode cX8_scaleOf 2 = .ok (.iconst 2, 1) := by decide +kernel
theorem dX8_scaleOf_3 : decode cX8_scaleOf 3 = .ok (.invokevirtual 165, 3) := by decide +kernel
theorem dX8_scaleOf_6 : decode cX8_scaleOf 6 = .ok (.iconst 1, 1) := by decide +kernel
theorem dX8_scaleOf_7 : decode cX8_scaleOf 7 = .ok (.isub, 1) := by decide +kernel
theorem dX8_scaleOf_8 : decode cX8_scaleOf 8 = .ok (.istore_n 3, 1) := by decide +kernel
theorem dX8_scaleOf_9 : decode cX8_scaleOf 9 = .ok (.iload_n 2, 1) := by decide +kernel
theorem dX8_scaleOf_10 : decode cX8_scaleOf 10 = .ok (.aload_n 0, 1) := by decide +kernel
theorem dX8_scaleOf_11 : decode cX8_scaleOf 11 = .ok (.iload_n 1, 1) := by decide +kernel
theorem dX8_scaleOf_12 : decode cX8_scaleOf 12 = .ok (.iconst 3, 1) := by decide +kernel
theorem dX8_scaleOf_13 : decode cX8_scaleOf 13 = .ok (.invokevirtual 165, 3) := by decide +kernel
theorem dX8_scaleOf_16 : decode cX8_scaleOf 16 = .ok (.if_icmp .gt 10, 3) := by decide +kernel
theorem dX8_scaleOf_19 : decode cX8_scaleOf 19 = .ok (.aload_n 0, 1) := by decide +kernel
theorem dX8_scaleOf_20 : decode cX8_scaleOf 20 = .ok (.iload_n 1, 1) := by decide +kernel
theorem dX8_scaleOf_21 : decode cX8_scaleOf 21 = .ok (.iconst 4, 1) := by decide +kernel
theorem dX8_scaleOf_22 : decode cX8_scaleOf 22 = .ok (.invokevirtual 165, 3) := by decide +kernel
theorem dX8_scaleOf_25 : decode cX8_scaleOf 25 = .ok (.ireturn, 1) := by decide +kernel
theorem dX8_scaleOf_26 : decode cX8_scaleOf 26 = .ok (.iconst 0, 1) := by decide +kernel
theorem dX8_scaleOf_27 : decode cX8_scaleOf 27 = .ok (.istore 4, 2) := by decide +kernel
theorem dX8_scaleOf_29 : decode cX8_scaleOf 29 = .ok (.iload 4, 2) := by decide +kernel
theorem dX8_scaleOf_31 : decode cX8_scaleOf 31 = .ok (.iload_n 3, 1) := by decide +kernel
theorem dX8_scaleOf_32 : decode cX8_scaleOf 32 = .ok (.if_icmp .ge 93, 3) := by decide +kernel
theorem dX8_scaleOf_35 : decode cX8_scaleOf 35 = .ok (.aload_n 0, 1) := by decide +kernel
theorem dX8_scaleOf_36 : decode cX8_scaleOf 36 = .ok (.iload_n 1, 1) := by decide +kernel
theorem dX8_scaleOf_37 : decode cX8_scaleOf 37 = .ok (.iconst 3, 1) := by decide +kernel
theorem dX8_scaleOf_38 : decode cX8_scaleOf 38 = .ok (.iconst 2, 1) := by decide +kernel
theorem dX8_scaleOf_39 : decode cX8_scaleOf 39 = .ok (.iload 4, 2) := by decide +kernel
theorem dX8_scaleOf_41 : decode cX8_scaleOf 41 = .ok (.imul, 1) := by decide +kernel
theorem dX8_scaleOf_42 : decode cX8_scaleOf 42 = .ok (.iadd, 1) := by decide +kernel
theorem dX8_scaleOf_43 : decode cX8_scaleOf 43 = .ok (.invokevirtual 165, 3) := by decide +kernel
theorem dX8_scaleOf_46 : decode cX8_scaleOf 46 = .ok (.istore 5, 2) := by decide +kernel
theorem dX8_scaleOf_48 : decode cX8_scaleOf 48 = .ok (.aload_n 0, 1) := by decide +kernel
theorem dX8_scaleOf_49 : decode cX8_scaleOf 49 = .ok (.iload_n 1, 1) := by decide +kernel
theorem dX8_scaleOf_50 : decode cX8_scaleOf 50 = .ok (.iconst 3, 1) := by decide +kernel
theorem dX8_scaleOf_51 : decode cX8_scaleOf 51 = .ok (.iconst 2, 1) := by decide +kernel
theorem dX8_scaleOf_52 : decode cX8_scaleOf 52 = .ok (.iload 4, 2) := by decide +kernel
theorem dX8_scaleOf_54 : decode cX8_scaleOf 54 = .ok (.imul, 1) := by decide +kernel
theorem dX8_scaleOf_55 : decode cX8_scaleOf 55 = .ok (.iadd, 1) := by decide +kernel
theorem dX8_scaleOf_56 : decode cX8_scaleOf 56 = .ok (.iconst 2, 1) := by decide +kernel
theorem dX8_scaleOf_57 : decode cX8_scaleOf 57 = .ok (.iadd, 1) := by decide +kernel
theorem dX8_scaleOf_58 : decode cX8_scaleOf 58 = .ok (.invokevirtual 165, 3) := by decide +kernel
theorem dX8_scaleOf_61 : decode cX8_scaleOf 61 = .ok (.istore 6, 2) := by decide +kernel
theorem dX8_scaleOf_63 : decode cX8_scaleOf 63 = .ok (.aload_n 0, 1) := by decide +kernel
theorem dX8_scaleOf_64 : decode cX8_scaleOf 64 = .ok (.iload_n 1, 1) := by decide +kernel
theorem dX8_scaleOf_65 : decode cX8_scaleOf 65 = .ok (.iconst 3, 1) := by decide +kernel
theorem dX8_scaleOf_66 : decode cX8_scaleOf 66 = .ok (.iconst 2, 1) := by decide +kernel
theorem dX8_scaleOf_67 : decode cX8_scaleOf 67 = .ok (.iload 4, 2) := by decide +kernel
theorem dX8_scaleOf_69 : decode cX8_scaleOf 69 = .ok (.imul, 1) := by decide +kernel
theorem dX8_scaleOf_70 : decode cX8_scaleOf 70 = .ok (.iadd, 1) := by decide +kernel
theorem dX8_scaleOf_71 : decode cX8_scaleOf 71 = .ok (.iconst 1, 1) := by decide +kernel
theorem dX8_scaleOf_72 : decode cX8_scaleOf 72 = .ok (.iadd, 1) := by decide +kernel
theorem dX8_scaleOf_73 : decode cX8_scaleOf 73 = .ok (.invokevirtual 165, 3) := by decide +kernel
theorem dX8_scaleOf_76 : decode cX8_scaleOf 76 = .ok (.istore 7, 2) := by decide +kernel
theorem dX8_scaleOf_78 : decode cX8_scaleOf 78 = .ok (.aload_n 0, 1) := by decide +kernel
theorem dX8_scaleOf_79 : decode cX8_scaleOf 79 = .ok (.iload_n 1, 1) := by decide +kernel
theorem dX8_scaleOf_80 : decode cX8_scaleOf 80 = .ok (.iconst 3, 1) := by decide +kernel
theorem dX8_scaleOf_81 : decode cX8_scaleOf 81 = .ok (.iconst 2, 1) := by decide +kernel
theorem dX8_scaleOf_82 : decode cX8_scaleOf 82 = .ok (.iload 4, 2) := by decide +kernel
theorem dX8_scaleOf_84 : decode cX8_scaleOf 84 = .ok (.imul, 1) := by decide +kernel
theorem dX8_scaleOf_85 : decode cX8_scaleOf 85 = .ok (.iadd, 1) := by decide +kernel
theorem dX8_scaleOf_86 : decode cX8_scaleOf 86 = .ok (.iconst 3, 1) := by decide +kernel
theorem dX8_scaleOf_87 : decode cX8_scaleOf 87 = .ok (.iadd, 1) := by decide +kernel
theorem dX8_scaleOf_88 : decode cX8_scaleOf 88 = .ok (.invokevirtual 165, 3) := by decide +kernel
theorem dX8_scaleOf_91 : decode cX8_scaleOf 91 = .ok (.istore 8, 2) := by decide +kernel
theorem dX8_scaleOf_93 : decode cX8_scaleOf 93 = .ok (.iload_n 2, 1) := by decide +kernel
theorem dX8_scaleOf_94 : decode cX8_scaleOf 94 = .ok (.iload 6, 2) := by decide +kernel
theorem dX8_scaleOf_96 : decode cX8_scaleOf 96 = .ok (.if_icmp .gt 23, 3) := by decide +kernel
theorem dX8_scaleOf_99 : decode cX8_scaleOf 99 = .ok (.iload 7, 2) := by decide +kernel
theorem dX8_scaleOf_101 : decode cX8_scaleOf 101 = .ok (.iload_n 2, 1) := by decide +kernel
theorem dX8_scaleOf_102 : decode cX8_scaleOf 102 = .ok (.iload 5, 2) := by decide +kernel
theorem dX8_scaleOf_104 : decode cX8_scaleOf 104 = .ok (.isub, 1) := by decide +kernel
theorem dX8_scaleOf_105 : decode cX8_scaleOf 105 = .ok (.iload 8, 2) := by decide +kernel
theorem dX8_scaleOf_107 : decode cX8_scaleOf 107 = .ok (.iload 7, 2) := by decide +kernel
theorem dX8_scaleOf_109 : decode cX8_scaleOf 109 = .ok (.isub, 1) := by decide +kernel
theorem dX8_scaleOf_110 : decode cX8_scaleOf 110 = .ok (.imul, 1) := by decide +kernel
theorem dX8_scaleOf_111 : decode cX8_scaleOf 111 = .ok (.iload 6, 2) := by decide +kernel
theorem dX8_scaleOf_113 : decode cX8_scaleOf 113 = .ok (.iload 5, 2) := by decide +kernel
theorem dX8_scaleOf_115 : decode cX8_scaleOf 115 = .ok (.isub, 1) := by decide +kernel
theorem dX8_scaleOf_116 : decode cX8_scaleOf 116 = .ok (.idiv, 1) := by decide +kernel
theorem dX8_scaleOf_117 : decode cX8_scaleOf 117 = .ok (.iadd, 1) := by decide +kernel
theorem dX8_scaleOf_118 : decode cX8_scaleOf 118 = .ok (.ireturn, 1) := by decide +kernel
theorem dX8_scaleOf_119 : decode cX8_scaleOf 119 = .ok (.iinc 4 1, 3) := by decide +kernel
theorem dX8_scaleOf_122 : decode cX8_scaleOf 122 = .ok (.goto (-93), 3) := by decide +kernel
theorem dX8_scaleOf_125 : decode cX8_scaleOf 125 = .ok (.aload_n 0, 1) := by decide +kernel
theorem dX8_scaleOf_126 : decode cX8_scaleOf 126 = .ok (.iload_n 1, 1) := by decide +kernel
theorem dX8_scaleOf_127 : decode cX8_scaleOf 127 = .ok (.iconst 3, 1) := by decide +kernel
theorem dX8_scaleOf_128 : decode cX8_scaleOf 128 = .ok (.iconst 2, 1) := by decide +kernel
theorem dX8_scaleOf_129 : decode cX8_scaleOf 129 = .ok (.iload_n 3, 1) := by decide +kernel
theorem dX8_scaleOf_130 : decode cX8_scaleOf 130 = .ok (.imul, 1) := by decide +kernel
theorem dX8_scaleOf_131 : decode cX8_scaleOf 131 = .ok (.iadd, 1) := by decide +kernel
theorem dX8_scaleOf_132 : decode cX8_scaleOf 132 = .ok (.iconst 1, 1) := by decide +kernel
theorem dX8_scaleOf_133 : decode cX8_scaleOf 133 = .ok (.iadd, 1) := by decide +kernel
theorem dX8_scaleOf_134 : decode cX8_scaleOf 134 = .ok (.invokevirtual 165, 3) := by decide +kernel
theorem dX8_scaleOf_137 : decode cX8_scaleOf 137 = .ok (.ireturn, 1) := by decide +kernel
theorem dX8_subOf_0 : decode cX8_subOf 0 = .ok (.aload_n 0, 1) := by decide +kernel
theorem dX8_subOf_1 : decode cX8_subOf 1 = .ok (.iload_n 1, 1) := by decide +kernel
theorem dX8_subOf_2 : decode cX8_subOf 2 = .ok (.iload_n 2, 1) := by decide +kernel
theorem dX8_subOf_3 : decode cX8_subOf 3 = .ok (.iload_n 3, 1) := by decide +kernel
theorem dX8_subOf_4 : decode cX8_subOf 4 = .ok (.invokevirtual 172, 3) := by decide +kernel
theorem dX8_subOf_7 : decode cX8_subOf 7 = .ok (.istore 4, 2) := by decide +kernel
theorem dX8_subOf_9 : decode cX8_subOf 9 = .ok (.iload 4, 2) := by decide +kernel
theorem dX8_subOf_11 : decode cX8_subOf 11 = .ok (.iconst (-1), 1) := by decide +kernel
theorem dX8_subOf_12 : decode cX8_subOf 12 = .ok (.if_icmp .ne 7, 3) := by decide +kernel
theorem dX8_subOf_15 : decode cX8_subOf 15 = .ok (.iconst (-1), 1) := by decide +kernel
theorem dX8_subOf_16 : decode cX8_subOf 16 = .ok (.goto 10, 3) := by decide +kernel
theorem dX8_subOf_19 : decode cX8_subOf 19 = .ok (.aload_n 0, 1) := by decide +kernel
theorem dX8_subOf_20 : decode cX8_subOf 20 = .ok (.iload_n 2, 1) := by decide +kernel
theorem dX8_subOf_21 : decode cX8_subOf 21 = .ok (.iload 4, 2) := by decide +kernel
theorem dX8_subOf_23 : decode cX8_subOf 23 = .ok (.invokevirtual 175, 3) := by decide +kernel
theorem dX8_subOf_26 : decode cX8_subOf 26 = .ok (.ireturn, 1) := by decide +kernel
theorem dX8_rulingOf_0 : decode cX8_rulingOf 0 = .ok (.iconst (-1), 1) := by decide +kernel
theorem dX8_rulingOf_1 : decode cX8_rulingOf 1 = .ok (.istore_n 3, 1) := by decide +kernel
theorem dX8_rulingOf_2 : decode cX8_rulingOf 2 = .ok (.iconst 0, 1) := by decide +kernel
theorem dX8_rulingOf_3 : decode cX8_rulingOf 3 = .ok (.istore 4, 2) := by decide +kernel
theorem dX8_rulingOf_5 : decode cX8_rulingOf 5 = .ok (.iload 4, 2) := by decide +kernel
theorem dX8_rulingOf_7 : decode cX8_rulingOf 7 = .ok (.aload_n 0, 1) := by decide +kernel
theorem dX8_rulingOf_8 : decode cX8_rulingOf 8 = .ok (.getfield 74, 3) := by decide +kernel
theorem dX8_rulingOf_11 : decode cX8_rulingOf 11 = .ok (.iconst 1, 1) := by decide +kernel
theorem dX8_rulingOf_12 : decode cX8_rulingOf 12 = .ok (.iaload, 1) := by decide +kernel
theorem dX8_rulingOf_13 : decode cX8_rulingOf 13 = .ok (.if_icmp .ge 47, 3) := by decide +kernel
theorem dX8_rulingOf_16 : decode cX8_rulingOf 16 = .ok (.aload_n 0, 1) := by decide +kernel
theorem dX8_rulingOf_17 : decode cX8_rulingOf 17 = .ok (.iload_n 1, 1) := by decide +kernel
theorem dX8_rulingOf_18 : decode cX8_rulingOf 18 = .ok (.iload 4, 2) := by decide +kernel
theorem dX8_rulingOf_20 : decode cX8_rulingOf 20 = .ok (.iload_n 2, 1) := by decide +kernel
theorem dX8_rulingOf_21 : decode cX8_rulingOf 21 = .ok (.invokevirtual 178, 3) := by decide +kernel
theorem dX8_rulingOf_24 : decode cX8_rulingOf 24 = .ok (.iconst (-1), 1) := by decide +kernel
theorem dX8_rulingOf_25 : decode cX8_rulingOf 25 = .ok (.if_icmp .eq 29, 3) := by decide +kernel
theorem dX8_rulingOf_28 : decode cX8_rulingOf 28 = .ok (.iload_n 3, 1) := by decide +kernel
theorem dX8_rulingOf_29 : decode cX8_rulingOf 29 = .ok (.iconst (-1), 1) := by decide +kernel
theorem dX8_rulingOf_30 : decode cX8_rulingOf 30 = .ok (.if_icmp .eq 21, 3) := by decide +kernel
theorem dX8_rulingOf_33 : decode cX8_rulingOf 33 = .ok (.aload_n 0, 1) := by decide +kernel
theorem dX8_rulingOf_34 : decode cX8_rulingOf 34 = .ok (.iload_n 1, 1) := by decide +kernel
theorem dX8_rulingOf_35 : decode cX8_rulingOf 35 = .ok (.iload 4, 2) := by decide +kernel
theorem dX8_rulingOf_37 : decode cX8_rulingOf 37 = .ok (.iload_n 2, 1) := by decide +kernel
theorem dX8_rulingOf_38 : decode cX8_rulingOf 38 = .ok (.invokevirtual 178, 3) := by decide +kernel
theorem dX8_rulingOf_41 : decode cX8_rulingOf 41 = .ok (.aload_n 0, 1) := by decide +kernel
theorem dX8_rulingOf_42 : decode cX8_rulingOf 42 = .ok (.iload_n 1, 1) := by decide +kernel
theorem dX8_rulingOf_43 : decode cX8_rulingOf 43 = .ok (.iload_n 3, 1) := by decide +kernel
theorem dX8_rulingOf_44 : decode cX8_rulingOf 44 = .ok (.iload_n 2, 1) := by decide +kernel
theorem dX8_rulingOf_45 : decode cX8_rulingOf 45 = .ok (.invokevirtual 178, 3) := by decide +kernel
theorem dX8_rulingOf_48 : decode cX8_rulingOf 48 = .ok (.if_icmp .le 6, 3) := by decide +kernel
theorem dX8_rulingOf_51 : decode cX8_rulingOf 51 = .ok (.iload 4, 2) := by decide +kernel
theorem dX8_rulingOf_53 : decode cX8_rulingOf 53 = .ok (.istore_n 3, 1) := by decide +kernel
theorem dX8_rulingOf_54 : decode cX8_rulingOf 54 = .ok (.iinc 4 1, 3) := by decide +kernel
theorem dX8_rulingOf_57 : decode cX8_rulingOf 57 = .ok (.goto (-52), 3) := by decide +kernel
theorem dX8_rulingOf_60 : decode cX8_rulingOf 60 = .ok (.iload_n 3, 1) := by decide +kernel
theorem dX8_rulingOf_61 : decode cX8_rulingOf 61 = .ok (.ireturn, 1) := by decide +kernel
theorem dX8_indexOf_0 : decode cX8_indexOf 0 = .ok (.aload_n 0, 1) := by decide +kernel
theorem dX8_indexOf_1 : decode cX8_indexOf 1 = .ok (.iload_n 1, 1) := by decide +kernel
theorem dX8_indexOf_2 : decode cX8_indexOf 2 = .ok (.iload_n 2, 1) := by decide +kernel
theorem dX8_indexOf_3 : decode cX8_indexOf 3 = .ok (.invokevirtual 181, 3) := by decide +kernel
theorem dX8_indexOf_6 : decode cX8_indexOf 6 = .ok (.istore_n 3, 1) := by decide +kernel
theorem dX8_indexOf_7 : decode cX8_indexOf 7 = .ok (.iload_n 3, 1) := by decide +kernel
theorem dX8_indexOf_8 : decode cX8_indexOf 8 = .ok (.iconst (-1), 1) := by decide +kernel
theorem dX8_indexOf_9 : decode cX8_indexOf 9 = .ok (.if_icmp .ne 7, 3) := by decide +kernel
theorem dX8_indexOf_12 : decode cX8_indexOf 12 = .ok (.iconst (-1), 1) := by decide +kernel
theorem dX8_indexOf_13 : decode cX8_indexOf 13 = .ok (.goto 10, 3) := by decide +kernel
theorem dX8_indexOf_16 : decode cX8_indexOf 16 = .ok (.aload_n 0, 1) := by decide +kernel
theorem dX8_indexOf_17 : decode cX8_indexOf 17 = .ok (.iload_n 1, 1) := by decide +kernel
theorem dX8_indexOf_18 : decode cX8_indexOf 18 = .ok (.iload_n 3, 1) := by decide +kernel
theorem dX8_indexOf_19 : decode cX8_indexOf 19 = .ok (.iload_n 2, 1) := by decide +kernel
theorem dX8_indexOf_20 : decode cX8_indexOf 20 = .ok (.invokevirtual 178, 3) := by decide +kernel
theorem dX8_indexOf_23 : decode cX8_indexOf 23 = .ok (.ireturn, 1) := by decide +kernel
theorem dX8_bandOf_0 : decode cX8_bandOf 0 = .ok (.iconst 0, 1) := by decide +kernel
theorem dX8_bandOf_1 : decode cX8_bandOf 1 = .ok (.istore_n 2, 1) := by decide +kernel
theorem dX8_bandOf_2 : decode cX8_bandOf 2 = .ok (.iconst 0, 1) := by decide +kernel
theorem dX8_bandOf_3 : decode cX8_bandOf 3 = .ok (.istore_n 3, 1) := by decide +kernel
theorem dX8_bandOf_4 : decode cX8_bandOf 4 = .ok (.iload_n 3, 1) := by decide +kernel
theorem dX8_bandOf_5 : decode cX8_bandOf 5 = .ok (.iconst 3, 1) := by decide +kernel
theorem dX8_bandOf_6 : decode cX8_bandOf 6 = .ok (.if_icmp .ge 24, 3) := by decide +kernel
theorem dX8_bandOf_9 : decode cX8_bandOf 9 = .ok (.aload_n 0, 1) := by decide +kernel
theorem dX8_bandOf_10 : decode cX8_bandOf 10 = .ok (.getfield 74, 3) := by decide +kernel
theorem dX8_bandOf_13 : decode cX8_bandOf 13 = .ok (.iconst 4, 1) := by decide +kernel
theorem dX8_bandOf_14 : decode cX8_bandOf 14 = .ok (.iload_n 3, 1) := by decide +kernel
theorem dX8_bandOf_15 : decode cX8_bandOf 15 = .ok (.iadd, 1) := by decide +kernel
theorem dX8_bandOf_16 : decode cX8_bandOf 16 = .ok (.iaload, 1) := by decide +kernel
theorem dX8_bandOf_17 : decode cX8_bandOf 17 = .ok (.iload_n 1, 1) := by decide +kernel
theorem dX8_bandOf_18 : decode cX8_bandOf 18 = .ok (.if_icmp .gt 6, 3) := by decide +kernel
theorem dX8_bandOf_21 : decode cX8_bandOf 21 = .ok (.iinc 2 1, 3) := by decide +kernel
theorem dX8_bandOf_24 : decode cX8_bandOf 24 = .ok (.iinc 3 1, 3) := by decide +kernel
theorem dX8_bandOf_27 : decode cX8_bandOf 27 = .ok (.goto (-23), 3) := by decide +kernel
theorem dX8_bandOf_30 : decode cX8_bandOf 30 = .ok (.iload_n 1, 1) := by decide +kernel
theorem dX8_bandOf_31 : decode cX8_bandOf 31 = .ok (.iconst (-1), 1) := by decide +kernel
theorem dX8_bandOf_32 : decode cX8_bandOf 32 = .ok (.if_icmp .ne 7, 3) := by decide +kernel
theorem dX8_bandOf_35 : decode cX8_bandOf 35 = .ok (.iconst (-1), 1) := by decide +kernel
theorem dX8_bandOf_36 : decode cX8_bandOf 36 = .ok (.goto 4, 3) := by decide +kernel
theorem dX8_bandOf_39 : decode cX8_bandOf 39 = .ok (.iload_n 2, 1) := by decide +kernel
theorem dX8_bandOf_40 : decode cX8_bandOf 40 = .ok (.ireturn, 1) := by decide +kernel
theorem dX8_readMany_0 : decode cX8_readMany 0 = .ok (.iconst 0, 1) := by decide +kernel
theorem dX8_readMany_1 : decode cX8_readMany 1 = .ok (.istore_n 1, 1) := by decide +kernel
theorem dX8_readMany_2 : decode cX8_readMany 2 = .ok (.bipush 50, 2) := by decide +kernel
theorem dX8_readMany_4 : decode cX8_readMany 4 = .ok (.istore_n 2, 1) := by decide +kernel
theorem dX8_readMany_5 : decode cX8_readMany 5 = .ok (.iload_n 2, 1) := by decide +kernel
theorem dX8_readMany_6 : decode cX8_readMany 6 = .ok (.sipush 770, 3) := by decide +kernel
theorem dX8_readMany_9 : decode cX8_readMany 9 = .ok (.if_icmp .ge 21, 3) := by decide +kernel
theorem dX8_readMany_12 : decode cX8_readMany 12 = .ok (.aload_n 0, 1) := by decide +kernel
theorem dX8_readMany_13 : decode cX8_readMany 13 = .ok (.getfield 74, 3) := by decide +kernel
theorem dX8_readMany_16 : decode cX8_readMany 16 = .ok (.iload_n 2, 1) := by decide +kernel
theorem dX8_readMany_17 : decode cX8_readMany 17 = .ok (.iaload, 1) := by decide +kernel
theorem dX8_readMany_18 : decode cX8_readMany 18 = .ok (.ifCond .le 6, 3) := by decide +kernel
theorem dX8_readMany_21 : decode cX8_readMany 21 = .ok (.iinc 1 1, 3) := by decide +kernel
theorem dX8_readMany_24 : decode cX8_readMany 24 = .ok (.iinc 2 1, 3) := by decide +kernel
theorem dX8_readMany_27 : decode cX8_readMany 27 = .ok (.goto (-22), 3) := by decide +kernel
theorem dX8_readMany_30 : decode cX8_readMany 30 = .ok (.iload_n 1, 1) := by decide +kernel
theorem dX8_readMany_31 : decode cX8_readMany 31 = .ok (.ireturn, 1) := by decide +kernel
theorem dX8_now_0 : decode cX8_now 0 = .ok (.iload_n 1, 1) := by decide +kernel
theorem dX8_now_1 : decode cX8_now 1 = .ok (.tableswitch 86 0 6 #[43, 50, 57, 64, 69, 76, 81], 43) := by decide +kernel
theorem dX8_now_44 : decode cX8_now 44 = .ok (.aload_n 0, 1) := by decide +kernel
theorem dX8_now_45 : decode cX8_now 45 = .ok (.getfield 74, 3) := by decide +kernel
theorem dX8_now_48 : decode cX8_now 48 = .ok (.iconst 0, 1) := by decide +kernel
theorem dX8_now_49 : decode cX8_now 49 = .ok (.iaload, 1) := by decide +kernel
theorem dX8_now_50 : decode cX8_now 50 = .ok (.ireturn, 1) := by decide +kernel
theorem dX8_now_51 : decode cX8_now 51 = .ok (.aload_n 0, 1) := by decide +kernel
theorem dX8_now_52 : decode cX8_now 52 = .ok (.getfield 74, 3) := by decide +kernel
theorem dX8_now_55 : decode cX8_now 55 = .ok (.iconst 1, 1) := by decide +kernel
theorem dX8_now_56 : decode cX8_now 56 = .ok (.iaload, 1) := by decide +kernel
theorem dX8_now_57 : decode cX8_now 57 = .ok (.ireturn, 1) := by decide +kernel
theorem dX8_now_58 : decode cX8_now 58 = .ok (.aload_n 0, 1) := by decide +kernel
theorem dX8_now_59 : decode cX8_now 59 = .ok (.getfield 74, 3) := by decide +kernel
theorem dX8_now_62 : decode cX8_now 62 = .ok (.iconst 2, 1) := by decide +kernel
theorem dX8_now_63 : decode cX8_now 63 = .ok (.iaload, 1) := by decide +kernel
theorem dX8_now_64 : decode cX8_now 64 = .ok (.ireturn, 1) := by decide +kernel
theorem dX8_now_65 : decode cX8_now 65 = .ok (.aload_n 0, 1) := by decide +kernel
theorem dX8_now_66 : decode cX8_now 66 = .ok (.invokevirtual 184, 3) := by decide +kernel
theorem dX8_now_69 : decode cX8_now 69 = .ok (.ireturn, 1) := by decide +kernel
theorem dX8_now_70 : decode cX8_now 70 = .ok (.aload_n 0, 1) := by decide +kernel
theorem dX8_now_71 : decode cX8_now 71 = .ok (.getfield 74, 3) := by decide +kernel
theorem dX8_now_74 : decode cX8_now 74 = .ok (.iconst 3, 1) := by decide +kernel
theorem dX8_now_75 : decode cX8_now 75 = .ok (.iaload, 1) := by decide +kernel
theorem dX8_now_76 : decode cX8_now 76 = .ok (.ireturn, 1) := by decide +kernel
theorem dX8_now_77 : decode cX8_now 77 = .ok (.aload_n 0, 1) := by decide +kernel
theorem dX8_now_78 : decode cX8_now 78 = .ok (.getfield 154, 3) := by decide +kernel
theorem dX8_now_81 : decode cX8_now 81 = .ok (.ireturn, 1) := by decide +kernel
theorem dX8_now_82 : decode cX8_now 82 = .ok (.aload_n 0, 1) := by decide +kernel
theorem dX8_now_83 : decode cX8_now 83 = .ok (.getfield 11, 3) := by decide +kernel
theorem dX8_now_86 : decode cX8_now 86 = .ok (.ireturn, 1) := by decide +kernel
theorem dX8_now_87 : decode cX8_now 87 = .ok (.iconst (-1), 1) := by decide +kernel
theorem dX8_now_88 : decode cX8_now 88 = .ok (.ireturn, 1) := by decide +kernel
theorem dX8_read_0 : decode cX8_read 0 = .ok (.aload_n 0, 1) := by decide +kernel
theorem dX8_read_1 : decode cX8_read 1 = .ok (.iload_n 1, 1) := by decide +kernel
theorem dX8_read_2 : decode cX8_read 2 = .ok (.iload_n 2, 1) := by decide +kernel
theorem dX8_read_3 : decode cX8_read 3 = .ok (.iload_n 3, 1) := by decide +kernel
theorem dX8_read_4 : decode cX8_read 4 = .ok (.invokevirtual 188, 3) := by decide +kernel
theorem dX8_read_7 : decode cX8_read 7 = .ok (.ifCond .eq 13, 3) := by decide +kernel
theorem dX8_read_10 : decode cX8_read 10 = .ok (.aload_n 0, 1) := by decide +kernel
theorem dX8_read_11 : decode cX8_read 11 = .ok (.iload_n 1, 1) := by decide +kernel
theorem dX8_read_12 : decode cX8_read 12 = .ok (.iload_n 2, 1) := by decide +kernel
theorem dX8_read_13 : decode cX8_read 13 = .ok (.iload_n 3, 1) := by decide +kernel
theorem dX8_read_14 : decode cX8_read 14 = .ok (.invokevirtual 169, 3) := by decide +kernel
theorem dX8_read_17 : decode cX8_read 17 = .ok (.goto 4, 3) := by decide +kernel
theorem dX8_read_20 : decode cX8_read 20 = .ok (.iconst (-1), 1) := by decide +kernel
theorem dX8_read_21 : decode cX8_read 21 = .ok (.ireturn, 1) := by decide +kernel
theorem dX8_mean_0 : decode cX8_mean 0 = .ok (.aload_n 0, 1) := by decide +kernel
theorem dX8_mean_1 : decode cX8_mean 1 = .ok (.iload_n 1, 1) := by decide +kernel
theorem dX8_mean_2 : decode cX8_mean 2 = .ok (.iload_n 2, 1) := by decide +kernel
theorem dX8_mean_3 : decode cX8_mean 3 = .ok (.iload_n 3, 1) := by decide +kernel
theorem dX8_mean_4 : decode cX8_mean 4 = .ok (.invokevirtual 188, 3) := by decide +kernel
theorem dX8_mean_7 : decode cX8_mean 7 = .ok (.ifCond .eq 13, 3) := by decide +kernel
theorem dX8_mean_10 : decode cX8_mean 10 = .ok (.aload_n 0, 1) := by decide +kernel
theorem dX8_mean_11 : decode cX8_mean 11 = .ok (.iload_n 1, 1) := by decide +kernel
theorem dX8_mean_12 : decode cX8_mean 12 = .ok (.iload_n 2, 1) := by decide +kernel
theorem dX8_mean_13 : decode cX8_mean 13 = .ok (.iload_n 3, 1) := by decide +kernel
theorem dX8_mean_14 : decode cX8_mean 14 = .ok (.invokevirtual 172, 3) := by decide +kernel
theorem dX8_mean_17 : decode cX8_mean 17 = .ok (.goto 4, 3) := by decide +kernel
theorem dX8_mean_20 : decode cX8_mean 20 = .ok (.iconst (-1), 1) := by decide +kernel
theorem dX8_mean_21 : decode cX8_mean 21 = .ok (.ireturn, 1) := by decide +kernel
theorem dX8_scale_0 : decode cX8_scale 0 = .ok (.aload_n 0, 1) := by decide +kernel
theorem dX8_scale_1 : decode cX8_scale 1 = .ok (.iload_n 1, 1) := by decide +kernel
theorem dX8_scale_2 : decode cX8_scale 2 = .ok (.invokevirtual 160, 3) := by decide +kernel
theorem dX8_scale_5 : decode cX8_scale 5 = .ok (.ifCond .eq 23, 3) := by decide +kernel
theorem dX8_scale_8 : decode cX8_scale 8 = .ok (.iload_n 2, 1) := by decide +kernel
theorem dX8_scale_9 : decode cX8_scale 9 = .ok (.iconst 0, 1) := by decide +kernel
theorem dX8_scale_10 : decode cX8_scale 10 = .ok (.sipush 999, 3) := by decide +kernel
theorem dX8_scale_13 : decode cX8_scale 13 = .ok (.invokestatic 89, 3) := by decide +kernel
theorem dX8_scale_16 : decode cX8_scale 16 = .ok (.ifCond .eq 12, 3) := by decide +kernel
theorem dX8_scale_19 : decode cX8_scale 19 = .ok (.aload_n 0, 1) := by decide +kernel
theorem dX8_scale_20 : decode cX8_scale 20 = .ok (.iload_n 1, 1) := by decide +kernel
theorem dX8_scale_21 : decode cX8_scale 21 = .ok (.iload_n 2, 1) := by decide +kernel
theorem dX8_scale_22 : decode cX8_scale 22 = .ok (.invokevirtual 175, 3) := by decide +kernel
theorem dX8_scale_25 : decode cX8_scale 25 = .ok (.goto 4, 3) := by decide +kernel
theorem dX8_scale_28 : decode cX8_scale 28 = .ok (.iconst (-1), 1) := by decide +kernel
theorem dX8_scale_29 : decode cX8_scale 29 = .ok (.ireturn, 1) := by decide +kernel
theorem dX8_back_0 : decode cX8_back 0 = .ok (.aload_n 0, 1) := by decide +kernel
theorem dX8_back_1 : decode cX8_back 1 = .ok (.iload_n 1, 1) := by decide +kernel
theorem dX8_back_2 : decode cX8_back 2 = .ok (.invokevirtual 160, 3) := by decide +kernel
theorem dX8_back_5 : decode cX8_back 5 = .ok (.ifCond .eq 14, 3) := by decide +kernel
theorem dX8_back_8 : decode cX8_back 8 = .ok (.iload_n 2, 1) := by decide +kernel
theorem dX8_back_9 : decode cX8_back 9 = .ok (.iconst 0, 1) := by decide +kernel
theorem dX8_back_10 : decode cX8_back 10 = .ok (.sipush 500, 3) := by decide +kernel
theorem dX8_back_13 : decode cX8_back 13 = .ok (.invokestatic 89, 3) := by decide +kernel
theorem dX8_back_16 : decode cX8_back 16 = .ok (.ifCond .ne 5, 3) := by decide +kernel
theorem dX8_back_19 : decode cX8_back 19 = .ok (.iconst (-1), 1) := by decide +kernel
theorem dX8_back_20 : decode cX8_back 20 = .ok (.ireturn, 1) := by decide +kernel
theorem dX8_back_21 : decode cX8_back 21 = .ok (.iconst 0, 1) := by decide +kernel
theorem dX8_back_22 : decode cX8_back 22 = .ok (.istore_n 3, 1) := by decide +kernel
theorem dX8_back_23 : decode cX8_back 23 = .ok (.iload_n 3, 1) := by decide +kernel
theorem dX8_back_24 : decode cX8_back 24 = .ok (.sipush 999, 3) := by decide +kernel
theorem dX8_back_27 : decode cX8_back 27 = .ok (.if_icmp .gt 21, 3) := by decide +kernel
theorem dX8_back_30 : decode cX8_back 30 = .ok (.aload_n 0, 1) := by decide +kernel
theorem dX8_back_31 : decode cX8_back 31 = .ok (.iload_n 1, 1) := by decide +kernel
theorem dX8_back_32 : decode cX8_back 32 = .ok (.iload_n 3, 1) := by decide +kernel
theorem dX8_back_33 : decode cX8_back 33 = .ok (.invokevirtual 175, 3) := by decide +kernel
theorem dX8_back_36 : decode cX8_back 36 = .ok (.iload_n 2, 1) := by decide +kernel
theorem dX8_back_37 : decode cX8_back 37 = .ok (.if_icmp .lt 5, 3) := by decide +kernel
theorem dX8_back_40 : decode cX8_back 40 = .ok (.iload_n 3, 1) := by decide +kernel
theorem dX8_back_41 : decode cX8_back 41 = .ok (.ireturn, 1) := by decide +kernel
theorem dX8_back_42 : decode cX8_back 42 = .ok (.iinc 3 1, 3) := by decide +kernel
theorem dX8_back_45 : decode cX8_back 45 = .ok (.goto (-22), 3) := by decide +kernel
theorem dX8_back_48 : decode cX8_back 48 = .ok (.bipush (-2), 2) := by decide +kernel
theorem dX8_back_50 : decode cX8_back 50 = .ok (.ireturn, 1) := by decide +kernel
theorem dX8_sub_0 : decode cX8_sub 0 = .ok (.aload_n 0, 1) := by decide +kernel
theorem dX8_sub_1 : decode cX8_sub 1 = .ok (.iload_n 1, 1) := by decide +kernel
theorem dX8_sub_2 : decode cX8_sub 2 = .ok (.iload_n 2, 1) := by decide +kernel
theorem dX8_sub_3 : decode cX8_sub 3 = .ok (.iload_n 3, 1) := by decide +kernel
theorem dX8_sub_4 : decode cX8_sub 4 = .ok (.invokevirtual 188, 3) := by decide +kernel
theorem dX8_sub_7 : decode cX8_sub 7 = .ok (.ifCond .eq 13, 3) := by decide +kernel
theorem dX8_sub_10 : decode cX8_sub 10 = .ok (.aload_n 0, 1) := by decide +kernel
theorem dX8_sub_11 : decode cX8_sub 11 = .ok (.iload_n 1, 1) := by decide +kernel
theorem dX8_sub_12 : decode cX8_sub 12 = .ok (.iload_n 2, 1) := by decide +kernel
theorem dX8_sub_13 : decode cX8_sub 13 = .ok (.iload_n 3, 1) := by decide +kernel
theorem dX8_sub_14 : decode cX8_sub 14 = .ok (.invokevirtual 178, 3) := by decide +kernel
theorem dX8_sub_17 : decode cX8_sub 17 = .ok (.goto 4, 3) := by decide +kernel
theorem dX8_sub_20 : decode cX8_sub 20 = .ok (.iconst (-1), 1) := by decide +kernel
theorem dX8_sub_21 : decode cX8_sub 21 = .ok (.ireturn, 1) := by decide +kernel
theorem dX8_index_0 : decode cX8_index 0 = .ok (.aload_n 0, 1) := by decide +kernel
theorem dX8_index_1 : decode cX8_index 1 = .ok (.iload_n 1, 1) := by decide +kernel
theorem dX8_index_2 : decode cX8_index 2 = .ok (.invokevirtual 157, 3) := by decide +kernel
theorem dX8_index_5 : decode cX8_index 5 = .ok (.ifCond .eq 11, 3) := by decide +kernel
theorem dX8_index_8 : decode cX8_index 8 = .ok (.aload_n 0, 1) := by decide +kernel
theorem dX8_index_9 : decode cX8_index 9 = .ok (.iload_n 2, 1) := by decide +kernel
theorem dX8_index_10 : decode cX8_index 10 = .ok (.invokevirtual 162, 3) := by decide +kernel
theorem dX8_index_13 : decode cX8_index 13 = .ok (.ifCond .ne 5, 3) := by decide +kernel
theorem dX8_index_16 : decode cX8_index 16 = .ok (.iconst (-1), 1) := by decide +kernel
theorem dX8_index_17 : decode cX8_index 17 = .ok (.ireturn, 1) := by decide +kernel
theorem dX8_index_18 : decode cX8_index 18 = .ok (.iload_n 3, 1) := by decide +kernel
theorem dX8_index_19 : decode cX8_index 19 = .ok (.ifCond .ne 12, 3) := by decide +kernel
theorem dX8_index_22 : decode cX8_index 22 = .ok (.aload_n 0, 1) := by decide +kernel
theorem dX8_index_23 : decode cX8_index 23 = .ok (.iload_n 1, 1) := by decide +kernel
theorem dX8_index_24 : decode cX8_index 24 = .ok (.iload_n 2, 1) := by decide +kernel
theorem dX8_index_25 : decode cX8_index 25 = .ok (.invokevirtual 191, 3) := by decide +kernel
theorem dX8_index_28 : decode cX8_index 28 = .ok (.goto 36, 3) := by decide +kernel
theorem dX8_index_31 : decode cX8_index 31 = .ok (.iload_n 3, 1) := by decide +kernel
theorem dX8_index_32 : decode cX8_index 32 = .ok (.iconst 1, 1) := by decide +kernel
theorem dX8_index_33 : decode cX8_index 33 = .ok (.if_icmp .ne 12, 3) := by decide +kernel
theorem dX8_index_36 : decode cX8_index 36 = .ok (.aload_n 0, 1) := by decide +kernel
theorem dX8_index_37 : decode cX8_index 37 = .ok (.iload_n 1, 1) := by decide +kernel
theorem dX8_index_38 : decode cX8_index 38 = .ok (.iload_n 2, 1) := by decide +kernel
theorem dX8_index_39 : decode cX8_index 39 = .ok (.invokevirtual 181, 3) := by decide +kernel
theorem dX8_index_42 : decode cX8_index 42 = .ok (.goto 22, 3) := by decide +kernel
theorem dX8_index_45 : decode cX8_index 45 = .ok (.iload_n 3, 1) := by decide +kernel
theorem dX8_index_46 : decode cX8_index 46 = .ok (.iconst 2, 1) := by decide +kernel
theorem dX8_index_47 : decode cX8_index 47 = .ok (.if_icmp .ne 16, 3) := by decide +kernel
theorem dX8_index_50 : decode cX8_index 50 = .ok (.aload_n 0, 1) := by decide +kernel
theorem dX8_index_51 : decode cX8_index 51 = .ok (.aload_n 0, 1) := by decide +kernel
theorem dX8_index_52 : decode cX8_index 52 = .ok (.iload_n 1, 1) := by decide +kernel
theorem dX8_index_53 : decode cX8_index 53 = .ok (.iload_n 2, 1) := by decide +kernel
theorem dX8_index_54 : decode cX8_index 54 = .ok (.invokevirtual 191, 3) := by decide +kernel
theorem dX8_index_57 : decode cX8_index 57 = .ok (.invokevirtual 194, 3) := by decide +kernel
theorem dX8_index_60 : decode cX8_index 60 = .ok (.goto 4, 3) := by decide +kernel
theorem dX8_index_63 : decode cX8_index 63 = .ok (.iconst (-1), 1) := by decide +kernel
theorem dX8_index_64 : decode cX8_index 64 = .ok (.ireturn, 1) := by decide +kernel
theorem dX8_district_0 : decode cX8_district 0 = .ok (.iload_n 1, 1) := by decide +kernel
theorem dX8_district_1 : decode cX8_district 1 = .ok (.iconst 0, 1) := by decide +kernel
theorem dX8_district_2 : decode cX8_district 2 = .ok (.iconst 2, 1) := by decide +kernel
theorem dX8_district_3 : decode cX8_district 3 = .ok (.invokestatic 89, 3) := by decide +kernel
theorem dX8_district_6 : decode cX8_district 6 = .ok (.ifCond .eq 11, 3) := by decide +kernel
theorem dX8_district_9 : decode cX8_district 9 = .ok (.aload_n 0, 1) := by decide +kernel
theorem dX8_district_10 : decode cX8_district 10 = .ok (.iload_n 2, 1) := by decide +kernel
theorem dX8_district_11 : decode cX8_district 11 = .ok (.invokevirtual 162, 3) := by decide +kernel
theorem dX8_district_14 : decode cX8_district 14 = .ok (.ifCond .ne 5, 3) := by decide +kernel
theorem dX8_district_17 : decode cX8_district 17 = .ok (.iconst (-1), 1) := by decide +kernel
theorem dX8_district_18 : decode cX8_district 18 = .ok (.ireturn, 1) := by decide +kernel
theorem dX8_district_19 : decode cX8_district 19 = .ok (.iconst (-1), 1) := by decide +kernel
theorem dX8_district_20 : decode cX8_district 20 = .ok (.istore 4, 2) := by decide +kernel
theorem dX8_district_22 : decode cX8_district 22 = .ok (.iconst 0, 1) := by decide +kernel
theorem dX8_district_23 : decode cX8_district 23 = .ok (.istore 5, 2) := by decide +kernel
theorem dX8_district_25 : decode cX8_district 25 = .ok (.iconst 0, 1) := by decide +kernel
theorem dX8_district_26 : decode cX8_district 26 = .ok (.istore 6, 2) := by decide +kernel
theorem dX8_district_28 : decode cX8_district 28 = .ok (.iload 6, 2) := by decide +kernel
theorem dX8_district_30 : decode cX8_district 30 = .ok (.aload_n 0, 1) := by decide +kernel
theorem dX8_district_31 : decode cX8_district 31 = .ok (.getfield 74, 3) := by decide +kernel
theorem dX8_district_34 : decode cX8_district 34 = .ok (.iconst 2, 1) := by decide +kernel
theorem dX8_district_35 : decode cX8_district 35 = .ok (.iaload, 1) := by decide +kernel
theorem dX8_district_36 : decode cX8_district 36 = .ok (.if_icmp .ge 67, 3) := by decide +kernel
theorem dX8_district_39 : decode cX8_district 39 = .ok (.aload_n 0, 1) := by decide +kernel
theorem dX8_district_40 : decode cX8_district 40 = .ok (.getfield 74, 3) := by decide +kernel
theorem dX8_district_43 : decode cX8_district 43 = .ok (.bipush 46, 2) := by decide +kernel
theorem dX8_district_45 : decode cX8_district 45 = .ok (.iload 6, 2) := by decide +kernel
theorem dX8_district_47 : decode cX8_district 47 = .ok (.iadd, 1) := by decide +kernel
theorem dX8_district_48 : decode cX8_district 48 = .ok (.iaload, 1) := by decide +kernel
theorem dX8_district_49 : decode cX8_district 49 = .ok (.iload_n 1, 1) := by decide +kernel
theorem dX8_district_50 : decode cX8_district 50 = .ok (.if_icmp .ne 47, 3) := by decide +kernel
theorem dX8_district_53 : decode cX8_district 53 = .ok (.aload_n 0, 1) := by decide +kernel
theorem dX8_district_54 : decode cX8_district 54 = .ok (.iload 6, 2) := by decide +kernel
theorem dX8_district_56 : decode cX8_district 56 = .ok (.iload_n 2, 1) := by decide +kernel
theorem dX8_district_57 : decode cX8_district 57 = .ok (.invokevirtual 191, 3) := by decide +kernel
theorem dX8_district_60 : decode cX8_district 60 = .ok (.iconst (-1), 1) := by decide +kernel
theorem dX8_district_61 : decode cX8_district 61 = .ok (.if_icmp .ne 6, 3) := by decide +kernel
theorem dX8_district_64 : decode cX8_district 64 = .ok (.goto 33, 3) := by decide +kernel
theorem dX8_district_67 : decode cX8_district 67 = .ok (.iinc 5 1, 3) := by decide +kernel
theorem dX8_district_70 : decode cX8_district 70 = .ok (.iload 4, 2) := by decide +kernel
theorem dX8_district_72 : decode cX8_district 72 = .ok (.iconst (-1), 1) := by decide +kernel
theorem dX8_district_73 : decode cX8_district 73 = .ok (.if_icmp .eq 20, 3) := by decide +kernel
theorem dX8_district_76 : decode cX8_district 76 = .ok (.aload_n 0, 1) := by decide +kernel
theorem dX8_district_77 : decode cX8_district 77 = .ok (.iload 6, 2) := by decide +kernel
theorem dX8_district_79 : decode cX8_district 79 = .ok (.iload_n 2, 1) := by decide +kernel
theorem dX8_district_80 : decode cX8_district 80 = .ok (.invokevirtual 191, 3) := by decide +kernel
theorem dX8_district_83 : decode cX8_district 83 = .ok (.aload_n 0, 1) := by decide +kernel
theorem dX8_district_84 : decode cX8_district 84 = .ok (.iload 4, 2) := by decide +kernel
theorem dX8_district_86 : decode cX8_district 86 = .ok (.iload_n 2, 1) := by decide +kernel
theorem dX8_district_87 : decode cX8_district 87 = .ok (.invokevirtual 191, 3) := by decide +kernel
theorem dX8_district_90 : decode cX8_district 90 = .ok (.if_icmp .le 7, 3) := by decide +kernel
theorem dX8_district_93 : decode cX8_district 93 = .ok (.iload 6, 2) := by decide +kernel
theorem dX8_district_95 : decode cX8_district 95 = .ok (.istore 4, 2) := by decide +kernel
theorem dX8_district_97 : decode cX8_district 97 = .ok (.iinc 6 1, 3) := by decide +kernel
theorem dX8_district_100 : decode cX8_district 100 = .ok (.goto (-72), 3) := by decide +kernel
theorem dX8_district_103 : decode cX8_district 103 = .ok (.iload_n 3, 1) := by decide +kernel
theorem dX8_district_104 : decode cX8_district 104 = .ok (.iconst 3, 1) := by decide +kernel
theorem dX8_district_105 : decode cX8_district 105 = .ok (.if_icmp .ne 6, 3) := by decide +kernel
theorem dX8_district_108 : decode cX8_district 108 = .ok (.iload 5, 2) := by decide +kernel
theorem dX8_district_110 : decode cX8_district 110 = .ok (.ireturn, 1) := by decide +kernel
theorem dX8_district_111 : decode cX8_district 111 = .ok (.iload 4, 2) := by decide +kernel
theorem dX8_district_113 : decode cX8_district 113 = .ok (.iconst (-1), 1) := by decide +kernel
theorem dX8_district_114 : decode cX8_district 114 = .ok (.if_icmp .ne 5, 3) := by decide +kernel
theorem dX8_district_117 : decode cX8_district 117 = .ok (.iconst (-1), 1) := by decide +kernel
theorem dX8_district_118 : decode cX8_district 118 = .ok (.ireturn, 1) := by decide +kernel
theorem dX8_district_119 : decode cX8_district 119 = .ok (.iload_n 3, 1) := by decide +kernel
theorem dX8_district_120 : decode cX8_district 120 = .ok (.ifCond .ne 13, 3) := by decide +kernel
theorem dX8_district_123 : decode cX8_district 123 = .ok (.aload_n 0, 1) := by decide +kernel
theorem dX8_district_124 : decode cX8_district 124 = .ok (.iload 4, 2) := by decide +kernel
theorem dX8_district_126 : decode cX8_district 126 = .ok (.iload_n 2, 1) := by decide +kernel
theorem dX8_district_127 : decode cX8_district 127 = .ok (.invokevirtual 191, 3) := by decide +kernel
theorem dX8_district_130 : decode cX8_district 130 = .ok (.goto 33, 3) := by decide +kernel
theorem dX8_district_133 : decode cX8_district 133 = .ok (.iload_n 3, 1) := by decide +kernel
theorem dX8_district_134 : decode cX8_district 134 = .ok (.iconst 1, 1) := by decide +kernel
theorem dX8_district_135 : decode cX8_district 135 = .ok (.if_icmp .ne 8, 3) := by decide +kernel
theorem dX8_district_138 : decode cX8_district 138 = .ok (.iload 4, 2) := by decide +kernel
theorem dX8_district_140 : decode cX8_district 140 = .ok (.goto 23, 3) := by decide +kernel
theorem dX8_district_143 : decode cX8_district 143 = .ok (.iload_n 3, 1) := by decide +kernel
theorem dX8_district_144 : decode cX8_district 144 = .ok (.iconst 2, 1) := by decide +kernel
theorem dX8_district_145 : decode cX8_district 145 = .ok (.if_icmp .ne 17, 3) := by decide +kernel
theorem dX8_district_148 : decode cX8_district 148 = .ok (.aload_n 0, 1) := by decide +kernel
theorem dX8_district_149 : decode cX8_district 149 = .ok (.aload_n 0, 1) := by decide +kernel
theorem dX8_district_150 : decode cX8_district 150 = .ok (.iload 4, 2) := by decide +kernel
theorem dX8_district_152 : decode cX8_district 152 = .ok (.iload_n 2, 1) := by decide +kernel
theorem dX8_district_153 : decode cX8_district 153 = .ok (.invokevirtual 191, 3) := by decide +kernel
theorem dX8_district_156 : decode cX8_district 156 = .ok (.invokevirtual 194, 3) := by decide +kernel
theorem dX8_district_159 : decode cX8_district 159 = .ok (.goto 4, 3) := by decide +kernel
theorem dX8_district_162 : decode cX8_district 162 = .ok (.iconst (-1), 1) := by decide +kernel
theorem dX8_district_163 : decode cX8_district 163 = .ok (.ireturn, 1) := by decide +kernel
theorem dX8_lasts_0 : decode cX8_lasts 0 = .ok (.aload_n 0, 1) := by decide +kernel
theorem dX8_lasts_1 : decode cX8_lasts 1 = .ok (.iload_n 1, 1) := by decide +kernel
theorem dX8_lasts_2 : decode cX8_lasts 2 = .ok (.invokevirtual 157, 3) := by decide +kernel
theorem dX8_lasts_5 : decode cX8_lasts 5 = .ok (.ifCond .eq 20, 3) := by decide +kernel
theorem dX8_lasts_8 : decode cX8_lasts 8 = .ok (.aload_n 0, 1) := by decide +kernel
theorem dX8_lasts_9 : decode cX8_lasts 9 = .ok (.iload_n 2, 1) := by decide +kernel
theorem dX8_lasts_10 : decode cX8_lasts 10 = .ok (.invokevirtual 162, 3) := by decide +kernel
theorem dX8_lasts_13 : decode cX8_lasts 13 = .ok (.ifCond .eq 12, 3) := by decide +kernel
theorem dX8_lasts_16 : decode cX8_lasts 16 = .ok (.iload_n 3, 1) := by decide +kernel
theorem dX8_lasts_17 : decode cX8_lasts 17 = .ok (.iconst 1, 1) := by decide +kernel
theorem dX8_lasts_18 : decode cX8_lasts 18 = .ok (.iconst 3, 1) := by decide +kernel
theorem dX8_lasts_19 : decode cX8_lasts 19 = .ok (.invokestatic 89, 3) := by decide +kernel
theorem dX8_lasts_22 : decode cX8_lasts 22 = .ok (.ifCond .ne 5, 3) := by decide +kernel
theorem dX8_lasts_25 : decode cX8_lasts 25 = .ok (.iconst (-1), 1) := by decide +kernel
theorem dX8_lasts_26 : decode cX8_lasts 26 = .ok (.ireturn, 1) := by decide +kernel
theorem dX8_lasts_27 : decode cX8_lasts 27 = .ok (.iconst 0, 1) := by decide +kernel
theorem dX8_lasts_28 : decode cX8_lasts 28 = .ok (.istore 4, 2) := by decide +kernel
theorem dX8_lasts_30 : decode cX8_lasts 30 = .ok (.iload 4, 2) := by decide +kernel
theorem dX8_lasts_32 : decode cX8_lasts 32 = .ok (.iload_n 2, 1) := by decide +kernel
theorem dX8_lasts_33 : decode cX8_lasts 33 = .ok (.if_icmp .gt 26, 3) := by decide +kernel
theorem dX8_lasts_36 : decode cX8_lasts 36 = .ok (.aload_n 0, 1) := by decide +kernel
theorem dX8_lasts_37 : decode cX8_lasts 37 = .ok (.aload_n 0, 1) := by decide +kernel
theorem dX8_lasts_38 : decode cX8_lasts 38 = .ok (.iload_n 1, 1) := by decide +kernel
theorem dX8_lasts_39 : decode cX8_lasts 39 = .ok (.iload_n 2, 1) := by decide +kernel
theorem dX8_lasts_40 : decode cX8_lasts 40 = .ok (.iload 4, 2) := by decide +kernel
theorem dX8_lasts_42 : decode cX8_lasts 42 = .ok (.isub, 1) := by decide +kernel
theorem dX8_lasts_43 : decode cX8_lasts 43 = .ok (.invokevirtual 191, 3) := by decide +kernel
theorem dX8_lasts_46 : decode cX8_lasts 46 = .ok (.invokevirtual 194, 3) := by decide +kernel
theorem dX8_lasts_49 : decode cX8_lasts 49 = .ok (.iload_n 3, 1) := by decide +kernel
theorem dX8_lasts_50 : decode cX8_lasts 50 = .ok (.if_icmp .lt 9, 3) := by decide +kernel
theorem dX8_lasts_53 : decode cX8_lasts 53 = .ok (.iinc 4 1, 3) := by decide +kernel
theorem dX8_lasts_56 : decode cX8_lasts 56 = .ok (.goto (-26), 3) := by decide +kernel
theorem dX8_lasts_59 : decode cX8_lasts 59 = .ok (.iload 4, 2) := by decide +kernel
theorem dX8_lasts_61 : decode cX8_lasts 61 = .ok (.ireturn, 1) := by decide +kernel
theorem dX8_worst_0 : decode cX8_worst 0 = .ok (.aload_n 0, 1) := by decide +kernel
theorem dX8_worst_1 : decode cX8_worst 1 = .ok (.iload_n 1, 1) := by decide +kernel
theorem dX8_worst_2 : decode cX8_worst 2 = .ok (.invokevirtual 157, 3) := by decide +kernel
theorem dX8_worst_5 : decode cX8_worst 5 = .ok (.ifCond .eq 19, 3) := by decide +kernel
theorem dX8_worst_8 : decode cX8_worst 8 = .ok (.aload_n 0, 1) := by decide +kernel
theorem dX8_worst_9 : decode cX8_worst 9 = .ok (.iload_n 2, 1) := by decide +kernel
theorem dX8_worst_10 : decode cX8_worst 10 = .ok (.invokevirtual 162, 3) := by decide +kernel
theorem dX8_worst_13 : decode cX8_worst 13 = .ok (.ifCond .eq 11, 3) := by decide +kernel
theorem dX8_worst_16 : decode cX8_worst 16 = .ok (.aload_n 0, 1) := by decide +kernel
theorem dX8_worst_17 : decode cX8_worst 17 = .ok (.iload_n 3, 1) := by decide +kernel
theorem dX8_worst_18 : decode cX8_worst 18 = .ok (.invokevirtual 162, 3) := by decide +kernel
theorem dX8_worst_21 : decode cX8_worst 21 = .ok (.ifCond .ne 5, 3) := by decide +kernel
theorem dX8_worst_24 : decode cX8_worst 24 = .ok (.iconst (-1), 1) := by decide +kernel
theorem dX8_worst_25 : decode cX8_worst 25 = .ok (.ireturn, 1) := by decide +kernel
theorem dX8_worst_26 : decode cX8_worst 26 = .ok (.iconst (-1), 1) := by decide +kernel
theorem dX8_worst_27 : decode cX8_worst 27 = .ok (.istore 4, 2) := by decide +kernel
theorem dX8_worst_29 : decode cX8_worst 29 = .ok (.iload_n 2, 1) := by decide +kernel
theorem dX8_worst_30 : decode cX8_worst 30 = .ok (.istore 5, 2) := by decide +kernel
theorem dX8_worst_32 : decode cX8_worst 32 = .ok (.iload 5, 2) := by decide +kernel
theorem dX8_worst_34 : decode cX8_worst 34 = .ok (.iload_n 3, 1) := by decide +kernel
theorem dX8_worst_35 : decode cX8_worst 35 = .ok (.if_icmp .gt 47, 3) := by decide +kernel
theorem dX8_worst_38 : decode cX8_worst 38 = .ok (.aload_n 0, 1) := by decide +kernel
theorem dX8_worst_39 : decode cX8_worst 39 = .ok (.iload_n 1, 1) := by decide +kernel
theorem dX8_worst_40 : decode cX8_worst 40 = .ok (.iload 5, 2) := by decide +kernel
theorem dX8_worst_42 : decode cX8_worst 42 = .ok (.invokevirtual 191, 3) := by decide +kernel
theorem dX8_worst_45 : decode cX8_worst 45 = .ok (.iconst (-1), 1) := by decide +kernel
