theorem dX0_init_0 : decode cX0_init 0 = .ok (.aload_n 0, 1) := by decide +kernel
theorem dX0_init_1 : decode cX0_init 1 = .ok (.invokespecial 1, 3) := by decide +kernel
theorem dX0_init_4 : decode cX0_init 4 = .ok (.return_, 1) := by decide +kernel
theorem dX1_init_0 : decode cX1_init 0 = .ok (.aload_n 0, 1) := by decide +kernel
theorem dX1_init_1 : decode cX1_init 1 = .ok (.invokespecial 3, 3) := by decide +kernel
theorem dX1_init_4 : decode cX1_init 4 = .ok (.aload_n 0, 1) := by decide +kernel
theorem dX1_init_5 : decode cX1_init 5 = .ok (.bipush 10, 2) := by decide +kernel
theorem dX1_init_7 : decode cX1_init 7 = .ok (.anewarray 9, 3) := by decide +kernel
theorem dX1_init_10 : decode cX1_init 10 = .ok (.putfield 11, 3) := by decide +kernel
theorem dX1_init_13 : decode cX1_init 13 = .ok (.iconst 0, 1) := by decide +kernel
theorem dX1_init_14 : decode cX1_init 14 = .ok (.istore_n 1, 1) := by decide +kernel
theorem dX1_init_15 : decode cX1_init 15 = .ok (.iload_n 1, 1) := by decide +kernel
theorem dX1_init_16 : decode cX1_init 16 = .ok (.bipush 10, 2) := by decide +kernel
theorem dX1_init_18 : decode cX1_init 18 = .ok (.if_icmp .ge 22, 3) := by decide +kernel
theorem dX1_init_21 : decode cX1_init 21 = .ok (.aload_n 0, 1) := by decide +kernel
theorem dX1_init_22 : decode cX1_init 22 = .ok (.getfield 11, 3) := by decide +kernel
theorem dX1_init_25 : decode cX1_init 25 = .ok (.iload_n 1, 1) := by decide +kernel
theorem dX1_init_26 : decode cX1_init 26 = .ok (.new 9, 3) := by decide +kernel
theorem dX1_init_29 : decode cX1_init 29 = .ok (.dup, 1) := by decide +kernel
theorem dX1_init_30 : decode cX1_init 30 = .ok (.invokespecial 17, 3) := by decide +kernel
theorem dX1_init_33 : decode cX1_init 33 = .ok (.aastore, 1) := by decide +kernel
theorem dX1_init_34 : decode cX1_init 34 = .ok (.iinc 1 1, 3) := by decide +kernel
theorem dX1_init_37 : decode cX1_init 37 = .ok (.goto (-22), 3) := by decide +kernel
theorem dX1_init_40 : decode cX1_init 40 = .ok (.return_, 1) := by decide +kernel
theorem dX1_forgetAll_0 : decode cX1_forgetAll 0 = .ok (.aload_n 0, 1) := by decide +kernel
theorem dX1_forgetAll_1 : decode cX1_forgetAll 1 = .ok (.iconst 0, 1) := by decide +kernel
theorem dX1_forgetAll_2 : decode cX1_forgetAll 2 = .ok (.putfield 18, 3) := by decide +kernel
theorem dX1_forgetAll_5 : decode cX1_forgetAll 5 = .ok (.return_, 1) := by decide +kernel
theorem dX1_next_0 : decode cX1_next 0 = .ok (.aload_n 0, 1) := by decide +kernel
theorem dX1_next_1 : decode cX1_next 1 = .ok (.getfield 18, 3) := by decide +kernel
theorem dX1_next_4 : decode cX1_next 4 = .ok (.ifCond .lt 12, 3) := by decide +kernel
theorem dX1_next_7 : decode cX1_next 7 = .ok (.aload_n 0, 1) := by decide +kernel
theorem dX1_next_8 : decode cX1_next 8 = .ok (.getfield 18, 3) := by decide +kernel
theorem dX1_next_11 : decode cX1_next 11 = .ok (.bipush 10, 2) := by decide +kernel
theorem dX1_next_13 : decode cX1_next 13 = .ok (.if_icmp .lt 7, 3) := by decide +kernel
theorem dX1_next_16 : decode cX1_next 16 = .ok (.aload_n 0, 1) := by decide +kernel
theorem dX1_next_17 : decode cX1_next 17 = .ok (.invokevirtual 22, 3) := by decide +kernel
theorem dX1_next_20 : decode cX1_next 20 = .ok (.aload_n 0, 1) := by decide +kernel
theorem dX1_next_21 : decode cX1_next 21 = .ok (.getfield 11, 3) := by decide +kernel
theorem dX1_next_24 : decode cX1_next 24 = .ok (.aload_n 0, 1) := by decide +kernel
theorem dX1_next_25 : decode cX1_next 25 = .ok (.getfield 18, 3) := by decide +kernel
theorem dX1_next_28 : decode cX1_next 28 = .ok (.aaload, 1) := by decide +kernel
theorem dX1_next_29 : decode cX1_next 29 = .ok (.astore_n 2, 1) := by decide +kernel
theorem dX1_next_30 : decode cX1_next 30 = .ok (.aload_n 2, 1) := by decide +kernel
theorem dX1_next_31 : decode cX1_next 31 = .ok (.iload_n 1, 1) := by decide +kernel
theorem dX1_next_32 : decode cX1_next 32 = .ok (.putfield 25, 3) := by decide +kernel
theorem dX1_next_35 : decode cX1_next 35 = .ok (.aload_n 0, 1) := by decide +kernel
theorem dX1_next_36 : decode cX1_next 36 = .ok (.dup, 1) := by decide +kernel
theorem dX1_next_37 : decode cX1_next 37 = .ok (.getfield 18, 3) := by decide +kernel
theorem dX1_next_40 : decode cX1_next 40 = .ok (.iconst 1, 1) := by decide +kernel
theorem dX1_next_41 : decode cX1_next 41 = .ok (.iadd, 1) := by decide +kernel
theorem dX1_next_42 : decode cX1_next 42 = .ok (.putfield 18, 3) := by decide +kernel
theorem dX1_next_45 : decode cX1_next 45 = .ok (.aload_n 2, 1) := by decide +kernel
theorem dX1_next_46 : decode cX1_next 46 = .ok (.areturn, 1) := by decide +kernel
theorem dX1_takeLatest_0 : decode cX1_takeLatest 0 = .ok (.aload_n 0, 1) := by decide +kernel
theorem dX1_takeLatest_1 : decode cX1_takeLatest 1 = .ok (.getfield 18, 3) := by decide +kernel
theorem dX1_takeLatest_4 : decode cX1_takeLatest 4 = .ok (.iconst 1, 1) := by decide +kernel
theorem dX1_takeLatest_5 : decode cX1_takeLatest 5 = .ok (.if_icmp .lt 12, 3) := by decide +kernel
theorem dX1_takeLatest_8 : decode cX1_takeLatest 8 = .ok (.aload_n 0, 1) := by decide +kernel
theorem dX1_takeLatest_9 : decode cX1_takeLatest 9 = .ok (.getfield 18, 3) := by decide +kernel
theorem dX1_takeLatest_12 : decode cX1_takeLatest 12 = .ok (.bipush 10, 2) := by decide +kernel
theorem dX1_takeLatest_14 : decode cX1_takeLatest 14 = .ok (.if_icmp .le 5, 3) := by decide +kernel
theorem dX1_takeLatest_17 : decode cX1_takeLatest 17 = .ok (.aconst_null, 1) := by decide +kernel
theorem dX1_takeLatest_18 : decode cX1_takeLatest 18 = .ok (.areturn, 1) := by decide +kernel
theorem dX1_takeLatest_19 : decode cX1_takeLatest 19 = .ok (.aload_n 0, 1) := by decide +kernel
theorem dX1_takeLatest_20 : decode cX1_takeLatest 20 = .ok (.dup, 1) := by decide +kernel
theorem dX1_takeLatest_21 : decode cX1_takeLatest 21 = .ok (.getfield 18, 3) := by decide +kernel
theorem dX1_takeLatest_24 : decode cX1_takeLatest 24 = .ok (.iconst 1, 1) := by decide +kernel
theorem dX1_takeLatest_25 : decode cX1_takeLatest 25 = .ok (.isub, 1) := by decide +kernel
theorem dX1_takeLatest_26 : decode cX1_takeLatest 26 = .ok (.putfield 18, 3) := by decide +kernel
theorem dX1_takeLatest_29 : decode cX1_takeLatest 29 = .ok (.aload_n 0, 1) := by decide +kernel
theorem dX1_takeLatest_30 : decode cX1_takeLatest 30 = .ok (.getfield 11, 3) := by decide +kernel
theorem dX1_takeLatest_33 : decode cX1_takeLatest 33 = .ok (.aload_n 0, 1) := by decide +kernel
theorem dX1_takeLatest_34 : decode cX1_takeLatest 34 = .ok (.getfield 18, 3) := by decide +kernel
theorem dX1_takeLatest_37 : decode cX1_takeLatest 37 = .ok (.aaload, 1) := by decide +kernel
theorem dX1_takeLatest_38 : decode cX1_takeLatest 38 = .ok (.areturn, 1) := by decide +kernel
theorem dX1_forgetOldest_0 : decode cX1_forgetOldest 0 = .ok (.aload_n 0, 1) := by decide +kernel
theorem dX1_forgetOldest_1 : decode cX1_forgetOldest 1 = .ok (.getfield 11, 3) := by decide +kernel
theorem dX1_forgetOldest_4 : decode cX1_forgetOldest 4 = .ok (.iconst 0, 1) := by decide +kernel
theorem dX1_forgetOldest_5 : decode cX1_forgetOldest 5 = .ok (.aaload, 1) := by decide +kernel
theorem dX1_forgetOldest_6 : decode cX1_forgetOldest 6 = .ok (.astore_n 1, 1) := by decide +kernel
theorem dX1_forgetOldest_7 : decode cX1_forgetOldest 7 = .ok (.iconst 1, 1) := by decide +kernel
theorem dX1_forgetOldest_8 : decode cX1_forgetOldest 8 = .ok (.istore_n 2, 1) := by decide +kernel
theorem dX1_forgetOldest_9 : decode cX1_forgetOldest 9 = .ok (.iload_n 2, 1) := by decide +kernel
theorem dX1_forgetOldest_10 : decode cX1_forgetOldest 10 = .ok (.bipush 10, 2) := by decide +kernel
theorem dX1_forgetOldest_12 : decode cX1_forgetOldest 12 = .ok (.if_icmp .ge 23, 3) := by decide +kernel
theorem dX1_forgetOldest_15 : decode cX1_forgetOldest 15 = .ok (.aload_n 0, 1) := by decide +kernel
theorem dX1_forgetOldest_16 : decode cX1_forgetOldest 16 = .ok (.getfield 11, 3) := by decide +kernel
theorem dX1_forgetOldest_19 : decode cX1_forgetOldest 19 = .ok (.iload_n 2, 1) := by decide +kernel
theorem dX1_forgetOldest_20 : decode cX1_forgetOldest 20 = .ok (.iconst 1, 1) := by decide +kernel
theorem dX1_forgetOldest_21 : decode cX1_forgetOldest 21 = .ok (.isub, 1) := by decide +kernel
theorem dX1_forgetOldest_22 : decode cX1_forgetOldest 22 = .ok (.aload_n 0, 1) := by decide +kernel
theorem dX1_forgetOldest_23 : decode cX1_forgetOldest 23 = .ok (.getfield 11, 3) := by decide +kernel
theorem dX1_forgetOldest_26 : decode cX1_forgetOldest 26 = .ok (.iload_n 2, 1) := by decide +kernel
theorem dX1_forgetOldest_27 : decode cX1_forgetOldest 27 = .ok (.aaload, 1) := by decide +kernel
theorem dX1_forgetOldest_28 : decode cX1_forgetOldest 28 = .ok (.aastore, 1) := by decide +kernel
theorem dX1_forgetOldest_29 : decode cX1_forgetOldest 29 = .ok (.iinc 2 1, 3) := by decide +kernel
theorem dX1_forgetOldest_32 : decode cX1_forgetOldest 32 = .ok (.goto (-23), 3) := by decide +kernel
theorem dX1_forgetOldest_35 : decode cX1_forgetOldest 35 = .ok (.aload_n 0, 1) := by decide +kernel
theorem dX1_forgetOldest_36 : decode cX1_forgetOldest 36 = .ok (.getfield 11, 3) := by decide +kernel
theorem dX1_forgetOldest_39 : decode cX1_forgetOldest 39 = .ok (.bipush 9, 2) := by decide +kernel
theorem dX1_forgetOldest_41 : decode cX1_forgetOldest 41 = .ok (.aload_n 1, 1) := by decide +kernel
theorem dX1_forgetOldest_42 : decode cX1_forgetOldest 42 = .ok (.aastore, 1) := by decide +kernel
theorem dX1_forgetOldest_43 : decode cX1_forgetOldest 43 = .ok (.aload_n 0, 1) := by decide +kernel
theorem dX1_forgetOldest_44 : decode cX1_forgetOldest 44 = .ok (.bipush 9, 2) := by decide +kernel
theorem dX1_forgetOldest_46 : decode cX1_forgetOldest 46 = .ok (.putfield 18, 3) := by decide +kernel
theorem dX1_forgetOldest_49 : decode cX1_forgetOldest 49 = .ok (.return_, 1) := by decide +kernel
theorem dX2_init_0 : decode cX2_init 0 = .ok (.aload_n 0, 1) := by decide +kernel
theorem dX2_init_1 : decode cX2_init 1 = .ok (.invokespecial 3, 3) := by decide +kernel
theorem dX2_init_4 : decode cX2_init 4 = .ok (.aload_n 0, 1) := by decide +kernel
theorem dX2_init_5 : decode cX2_init 5 = .ok (.iconst 3, 1) := by decide +kernel
theorem dX2_init_6 : decode cX2_init 6 = .ok (.newarray .int, 2) := by decide +kernel
theorem dX2_init_8 : decode cX2_init 8 = .ok (.putfield 9, 3) := by decide +kernel
theorem dX2_init_11 : decode cX2_init 11 = .ok (.aload_n 0, 1) := by decide +kernel
theorem dX2_init_12 : decode cX2_init 12 = .ok (.iconst 3, 1) := by decide +kernel
theorem dX2_init_13 : decode cX2_init 13 = .ok (.anewarray 15, 3) := by decide +kernel
theorem dX2_init_16 : decode cX2_init 16 = .ok (.putfield 17, 3) := by decide +kernel
theorem dX2_init_19 : decode cX2_init 19 = .ok (.aload_n 0, 1) := by decide +kernel
theorem dX2_init_20 : decode cX2_init 20 = .ok (.iconst 4, 1) := by decide +kernel
theorem dX2_init_21 : decode cX2_init 21 = .ok (.newarray .int, 2) := by decide +kernel
theorem dX2_init_23 : decode cX2_init 23 = .ok (.putfield 21, 3) := by decide +kernel
theorem dX2_init_26 : decode cX2_init 26 = .ok (.aload_n 0, 1) := by decide +kernel
theorem dX2_init_27 : decode cX2_init 27 = .ok (.bipush 12, 2) := by decide +kernel
theorem dX2_init_29 : decode cX2_init 29 = .ok (.bipush 60, 2) := by decide +kernel
theorem dX2_init_31 : decode cX2_init 31 = .ok (.multianewarray 24 2, 4) := by decide +kernel
theorem dX2_init_35 : decode cX2_init 35 = .ok (.putfield 26, 3) := by decide +kernel
theorem dX2_init_38 : decode cX2_init 38 = .ok (.iconst 0, 1) := by decide +kernel
theorem dX2_init_39 : decode cX2_init 39 = .ok (.istore_n 1, 1) := by decide +kernel
theorem dX2_init_40 : decode cX2_init 40 = .ok (.iload_n 1, 1) := by decide +kernel
theorem dX2_init_41 : decode cX2_init 41 = .ok (.iconst 3, 1) := by decide +kernel
theorem dX2_init_42 : decode cX2_init 42 = .ok (.if_icmp .ge 22, 3) := by decide +kernel
theorem dX2_init_45 : decode cX2_init 45 = .ok (.aload_n 0, 1) := by decide +kernel
theorem dX2_init_46 : decode cX2_init 46 = .ok (.getfield 17, 3) := by decide +kernel
theorem dX2_init_49 : decode cX2_init 49 = .ok (.iload_n 1, 1) := by decide +kernel
theorem dX2_init_50 : decode cX2_init 50 = .ok (.new 15, 3) := by decide +kernel
theorem dX2_init_53 : decode cX2_init 53 = .ok (.dup, 1) := by decide +kernel
theorem dX2_init_54 : decode cX2_init 54 = .ok (.invokespecial 29, 3) := by decide +kernel
theorem dX2_init_57 : decode cX2_init 57 = .ok (.aastore, 1) := by decide +kernel
theorem dX2_init_58 : decode cX2_init 58 = .ok (.iinc 1 1, 3) := by decide +kernel
theorem dX2_init_61 : decode cX2_init 61 = .ok (.goto (-21), 3) := by decide +kernel
theorem dX2_init_64 : decode cX2_init 64 = .ok (.return_, 1) := by decide +kernel
theorem dX2_clear_0 : decode cX2_clear 0 = .ok (.aload_n 0, 1) := by decide +kernel
theorem dX2_clear_1 : decode cX2_clear 1 = .ok (.iconst 0, 1) := by decide +kernel
theorem dX2_clear_2 : decode cX2_clear 2 = .ok (.putfield 30, 3) := by decide +kernel
theorem dX2_clear_5 : decode cX2_clear 5 = .ok (.aload_n 0, 1) := by decide +kernel
theorem dX2_clear_6 : decode cX2_clear 6 = .ok (.iconst 0, 1) := by decide +kernel
theorem dX2_clear_7 : decode cX2_clear 7 = .ok (.putfield 34, 3) := by decide +kernel
theorem dX2_clear_10 : decode cX2_clear 10 = .ok (.aload_n 0, 1) := by decide +kernel
theorem dX2_clear_11 : decode cX2_clear 11 = .ok (.iconst 0, 1) := by decide +kernel
theorem dX2_clear_12 : decode cX2_clear 12 = .ok (.putfield 37, 3) := by decide +kernel
theorem dX2_clear_15 : decode cX2_clear 15 = .ok (.aload_n 0, 1) := by decide +kernel
theorem dX2_clear_16 : decode cX2_clear 16 = .ok (.iconst 0, 1) := by decide +kernel
theorem dX2_clear_17 : decode cX2_clear 17 = .ok (.putfield 40, 3) := by decide +kernel
theorem dX2_clear_20 : decode cX2_clear 20 = .ok (.iconst 0, 1) := by decide +kernel
theorem dX2_clear_21 : decode cX2_clear 21 = .ok (.istore_n 1, 1) := by decide +kernel
theorem dX2_clear_22 : decode cX2_clear 22 = .ok (.iload_n 1, 1) := by decide +kernel
theorem dX2_clear_23 : decode cX2_clear 23 = .ok (.bipush 12, 2) := by decide +kernel
theorem dX2_clear_25 : decode cX2_clear 25 = .ok (.if_icmp .ge 32, 3) := by decide +kernel
theorem dX2_clear_28 : decode cX2_clear 28 = .ok (.iconst 0, 1) := by decide +kernel
theorem dX2_clear_29 : decode cX2_clear 29 = .ok (.istore_n 2, 1) := by decide +kernel
theorem dX2_clear_30 : decode cX2_clear 30 = .ok (.iload_n 2, 1) := by decide +kernel
theorem dX2_clear_31 : decode cX2_clear 31 = .ok (.bipush 60, 2) := by decide +kernel
theorem dX2_clear_33 : decode cX2_clear 33 = .ok (.if_icmp .ge 18, 3) := by decide +kernel
theorem dX2_clear_36 : decode cX2_clear 36 = .ok (.aload_n 0, 1) := by decide +kernel
theorem dX2_clear_37 : decode cX2_clear 37 = .ok (.getfield 26, 3) := by decide +kernel
theorem dX2_clear_40 : decode cX2_clear 40 = .ok (.iload_n 1, 1) := by decide +kernel
theorem dX2_clear_41 : decode cX2_clear 41 = .ok (.aaload, 1) := by decide +kernel
theorem dX2_clear_42 : decode cX2_clear 42 = .ok (.iload_n 2, 1) := by decide +kernel
theorem dX2_clear_43 : decode cX2_clear 43 = .ok (.iconst (-1), 1) := by decide +kernel
theorem dX2_clear_44 : decode cX2_clear 44 = .ok (.iastore, 1) := by decide +kernel
theorem dX2_clear_45 : decode cX2_clear 45 = .ok (.iinc 2 1, 3) := by decide +kernel
theorem dX2_clear_48 : decode cX2_clear 48 = .ok (.goto (-18), 3) := by decide +kernel
theorem dX2_clear_51 : decode cX2_clear 51 = .ok (.iinc 1 1, 3) := by decide +kernel
theorem dX2_clear_54 : decode cX2_clear 54 = .ok (.goto (-32), 3) := by decide +kernel
theorem dX2_clear_57 : decode cX2_clear 57 = .ok (.return_, 1) := by decide +kernel
theorem dX2_tellFirst_0 : decode cX2_tellFirst 0 = .ok (.aload_n 0, 1) := by decide +kernel
theorem dX2_tellFirst_1 : decode cX2_tellFirst 1 = .ok (.invokevirtual 43, 3) := by decide +kernel
theorem dX2_tellFirst_4 : decode cX2_tellFirst 4 = .ok (.iconst 0, 1) := by decide +kernel
theorem dX2_tellFirst_5 : decode cX2_tellFirst 5 = .ok (.istore_n 1, 1) := by decide +kernel
theorem dX2_tellFirst_6 : decode cX2_tellFirst 6 = .ok (.iload_n 1, 1) := by decide +kernel
theorem dX2_tellFirst_7 : decode cX2_tellFirst 7 = .ok (.iconst 3, 1) := by decide +kernel
theorem dX2_tellFirst_8 : decode cX2_tellFirst 8 = .ok (.if_icmp .ge 21, 3) := by decide +kernel
theorem dX2_tellFirst_11 : decode cX2_tellFirst 11 = .ok (.aload_n 0, 1) := by decide +kernel
theorem dX2_tellFirst_12 : decode cX2_tellFirst 12 = .ok (.getfield 9, 3) := by decide +kernel
theorem dX2_tellFirst_15 : decode cX2_tellFirst 15 = .ok (.iload_n 1, 1) := by decide +kernel
theorem dX2_tellFirst_16 : decode cX2_tellFirst 16 = .ok (.bipush 50, 2) := by decide +kernel
theorem dX2_tellFirst_18 : decode cX2_tellFirst 18 = .ok (.iload_n 1, 1) := by decide +kernel
theorem dX2_tellFirst_19 : decode cX2_tellFirst 19 = .ok (.iconst 1, 1) := by decide +kernel
theorem dX2_tellFirst_20 : decode cX2_tellFirst 20 = .ok (.iadd, 1) := by decide +kernel
theorem dX2_tellFirst_21 : decode cX2_tellFirst 21 = .ok (.imul, 1) := by decide +kernel
theorem dX2_tellFirst_22 : decode cX2_tellFirst 22 = .ok (.iastore, 1) := by decide +kernel
theorem dX2_tellFirst_23 : decode cX2_tellFirst 23 = .ok (.iinc 1 1, 3) := by decide +kernel
theorem dX2_tellFirst_26 : decode cX2_tellFirst 26 = .ok (.goto (-20), 3) := by decide +kernel
theorem dX2_tellFirst_29 : decode cX2_tellFirst 29 = .ok (.aload_n 0, 1) := by decide +kernel
theorem dX2_tellFirst_30 : decode cX2_tellFirst 30 = .ok (.bipush 50, 2) := by decide +kernel
theorem dX2_tellFirst_32 : decode cX2_tellFirst 32 = .ok (.putfield 30, 3) := by decide +kernel
theorem dX2_tellFirst_35 : decode cX2_tellFirst 35 = .ok (.aload_n 0, 1) := by decide +kernel
theorem dX2_tellFirst_36 : decode cX2_tellFirst 36 = .ok (.iconst 1, 1) := by decide +kernel
theorem dX2_tellFirst_37 : decode cX2_tellFirst 37 = .ok (.iconst 1, 1) := by decide +kernel
theorem dX2_tellFirst_38 : decode cX2_tellFirst 38 = .ok (.invokevirtual 46, 3) := by decide +kernel
theorem dX2_tellFirst_41 : decode cX2_tellFirst 41 = .ok (.astore_n 1, 1) := by decide +kernel
theorem dX2_tellFirst_42 : decode cX2_tellFirst 42 = .ok (.aload_n 1, 1) := by decide +kernel
theorem dX2_tellFirst_43 : decode cX2_tellFirst 43 = .ok (.ifnull 17, 3) := by decide +kernel
theorem dX2_tellFirst_46 : decode cX2_tellFirst 46 = .ok (.aload_n 1, 1) := by decide +kernel
theorem dX2_tellFirst_47 : decode cX2_tellFirst 47 = .ok (.iconst 0, 1) := by decide +kernel
theorem dX2_tellFirst_48 : decode cX2_tellFirst 48 = .ok (.iconst 0, 1) := by decide +kernel
theorem dX2_tellFirst_49 : decode cX2_tellFirst 49 = .ok (.invokevirtual 50, 3) := by decide +kernel
theorem dX2_tellFirst_52 : decode cX2_tellFirst 52 = .ok (.aload_n 1, 1) := by decide +kernel
theorem dX2_tellFirst_53 : decode cX2_tellFirst 53 = .ok (.bipush 100, 2) := by decide +kernel
theorem dX2_tellFirst_55 : decode cX2_tellFirst 55 = .ok (.bipush 100, 2) := by decide +kernel
theorem dX2_tellFirst_57 : decode cX2_tellFirst 57 = .ok (.invokevirtual 50, 3) := by decide +kernel
theorem dX2_tellFirst_60 : decode cX2_tellFirst 60 = .ok (.aload_n 0, 1) := by decide +kernel
theorem dX2_tellFirst_61 : decode cX2_tellFirst 61 = .ok (.iconst 0, 1) := by decide +kernel
theorem dX2_tellFirst_62 : decode cX2_tellFirst 62 = .ok (.invokevirtual 54, 3) := by decide +kernel
theorem dX2_tellFirst_65 : decode cX2_tellFirst 65 = .ok (.return_, 1) := by decide +kernel
theorem dX2_putBand_0 : decode cX2_putBand 0 = .ok (.iload_n 1, 1) := by decide +kernel
theorem dX2_putBand_1 : decode cX2_putBand 1 = .ok (.ifCond .lt 15, 3) := by decide +kernel
theorem dX2_putBand_4 : decode cX2_putBand 4 = .ok (.iload_n 1, 1) := by decide +kernel
theorem dX2_putBand_5 : decode cX2_putBand 5 = .ok (.iconst 3, 1) := by decide +kernel
theorem dX2_putBand_6 : decode cX2_putBand 6 = .ok (.if_icmp .ge 10, 3) := by decide +kernel
theorem dX2_putBand_9 : decode cX2_putBand 9 = .ok (.aload_n 0, 1) := by decide +kernel
theorem dX2_putBand_10 : decode cX2_putBand 10 = .ok (.getfield 9, 3) := by decide +kernel
theorem dX2_putBand_13 : decode cX2_putBand 13 = .ok (.iload_n 1, 1) := by decide +kernel
theorem dX2_putBand_14 : decode cX2_putBand 14 = .ok (.iload_n 2, 1) := by decide +kernel
theorem dX2_putBand_15 : decode cX2_putBand 15 = .ok (.iastore, 1) := by decide +kernel
theorem dX2_putBand_16 : decode cX2_putBand 16 = .ok (.return_, 1) := by decide +kernel
theorem dX2_addSubstance_0 : decode cX2_addSubstance 0 = .ok (.aload_n 0, 1) := by decide +kernel
theorem dX2_addSubstance_1 : decode cX2_addSubstance 1 = .ok (.getfield 34, 3) := by decide +kernel
theorem dX2_addSubstance_4 : decode cX2_addSubstance 4 = .ok (.ifCond .lt 11, 3) := by decide +kernel
theorem dX2_addSubstance_7 : decode cX2_addSubstance 7 = .ok (.aload_n 0, 1) := by decide +kernel
theorem dX2_addSubstance_8 : decode cX2_addSubstance 8 = .ok (.getfield 34, 3) := by decide +kernel
theorem dX2_addSubstance_11 : decode cX2_addSubstance 11 = .ok (.iconst 3, 1) := by decide +kernel
theorem dX2_addSubstance_12 : decode cX2_addSubstance 12 = .ok (.if_icmp .lt 5, 3) := by decide +kernel
theorem dX2_addSubstance_15 : decode cX2_addSubstance 15 = .ok (.aconst_null, 1) := by decide +kernel
theorem dX2_addSubstance_16 : decode cX2_addSubstance 16 = .ok (.areturn, 1) := by decide +kernel
theorem dX2_addSubstance_17 : decode cX2_addSubstance 17 = .ok (.aload_n 0, 1) := by decide +kernel
theorem dX2_addSubstance_18 : decode cX2_addSubstance 18 = .ok (.getfield 17, 3) := by decide +kernel
theorem dX2_addSubstance_21 : decode cX2_addSubstance 21 = .ok (.aload_n 0, 1) := by decide +kernel
theorem dX2_addSubstance_22 : decode cX2_addSubstance 22 = .ok (.getfield 34, 3) := by decide +kernel
theorem dX2_addSubstance_25 : decode cX2_addSubstance 25 = .ok (.aaload, 1) := by decide +kernel
theorem dX2_addSubstance_26 : decode cX2_addSubstance 26 = .ok (.astore_n 3, 1) := by decide +kernel
theorem dX2_addSubstance_27 : decode cX2_addSubstance 27 = .ok (.aload_n 3, 1) := by decide +kernel
theorem dX2_addSubstance_28 : decode cX2_addSubstance 28 = .ok (.iload_n 1, 1) := by decide +kernel
theorem dX2_addSubstance_29 : decode cX2_addSubstance 29 = .ok (.putfield 58, 3) := by decide +kernel
theorem dX2_addSubstance_32 : decode cX2_addSubstance 32 = .ok (.aload_n 3, 1) := by decide +kernel
theorem dX2_addSubstance_33 : decode cX2_addSubstance 33 = .ok (.iload_n 2, 1) := by decide +kernel
theorem dX2_addSubstance_34 : decode cX2_addSubstance 34 = .ok (.putfield 61, 3) := by decide +kernel
theorem dX2_addSubstance_37 : decode cX2_addSubstance 37 = .ok (.aload_n 3, 1) := by decide +kernel
theorem dX2_addSubstance_38 : decode cX2_addSubstance 38 = .ok (.iconst 0, 1) := by decide +kernel
theorem dX2_addSubstance_39 : decode cX2_addSubstance 39 = .ok (.putfield 64, 3) := by decide +kernel
theorem dX2_addSubstance_42 : decode cX2_addSubstance 42 = .ok (.aload_n 0, 1) := by decide +kernel
theorem dX2_addSubstance_43 : decode cX2_addSubstance 43 = .ok (.dup, 1) := by decide +kernel
theorem dX2_addSubstance_44 : decode cX2_addSubstance 44 = .ok (.getfield 34, 3) := by decide +kernel
theorem dX2_addSubstance_47 : decode cX2_addSubstance 47 = .ok (.iconst 1, 1) := by decide +kernel
theorem dX2_addSubstance_48 : decode cX2_addSubstance 48 = .ok (.iadd, 1) := by decide +kernel
theorem dX2_addSubstance_49 : decode cX2_addSubstance 49 = .ok (.putfield 34, 3) := by decide +kernel
theorem dX2_addSubstance_52 : decode cX2_addSubstance 52 = .ok (.aload_n 3, 1) := by decide +kernel
theorem dX2_addSubstance_53 : decode cX2_addSubstance 53 = .ok (.areturn, 1) := by decide +kernel
theorem dX2_addStation_0 : decode cX2_addStation 0 = .ok (.aload_n 0, 1) := by decide +kernel
theorem dX2_addStation_1 : decode cX2_addStation 1 = .ok (.getfield 37, 3) := by decide +kernel
theorem dX2_addStation_4 : decode cX2_addStation 4 = .ok (.ifCond .lt 31, 3) := by decide +kernel
theorem dX2_addStation_7 : decode cX2_addStation 7 = .ok (.aload_n 0, 1) := by decide +kernel
theorem dX2_addStation_8 : decode cX2_addStation 8 = .ok (.getfield 37, 3) := by decide +kernel
theorem dX2_addStation_11 : decode cX2_addStation 11 = .ok (.iconst 4, 1) := by decide +kernel
theorem dX2_addStation_12 : decode cX2_addStation 12 = .ok (.if_icmp .ge 23, 3) := by decide +kernel
theorem dX2_addStation_15 : decode cX2_addStation 15 = .ok (.aload_n 0, 1) := by decide +kernel
theorem dX2_addStation_16 : decode cX2_addStation 16 = .ok (.getfield 21, 3) := by decide +kernel
theorem dX2_addStation_19 : decode cX2_addStation 19 = .ok (.aload_n 0, 1) := by decide +kernel
theorem dX2_addStation_20 : decode cX2_addStation 20 = .ok (.getfield 37, 3) := by decide +kernel
theorem dX2_addStation_23 : decode cX2_addStation 23 = .ok (.iload_n 1, 1) := by decide +kernel
theorem dX2_addStation_24 : decode cX2_addStation 24 = .ok (.iastore, 1) := by decide +kernel
theorem dX2_addStation_25 : decode cX2_addStation 25 = .ok (.aload_n 0, 1) := by decide +kernel
theorem dX2_addStation_26 : decode cX2_addStation 26 = .ok (.dup, 1) := by decide +kernel
theorem dX2_addStation_27 : decode cX2_addStation 27 = .ok (.getfield 37, 3) := by decide +kernel
theorem dX2_addStation_30 : decode cX2_addStation 30 = .ok (.iconst 1, 1) := by decide +kernel
theorem dX2_addStation_31 : decode cX2_addStation 31 = .ok (.iadd, 1) := by decide +kernel
theorem dX2_addStation_32 : decode cX2_addStation 32 = .ok (.putfield 37, 3) := by decide +kernel
theorem dX2_addStation_35 : decode cX2_addStation 35 = .ok (.return_, 1) := by decide +kernel
theorem dX2_hasStation_0 : decode cX2_hasStation 0 = .ok (.iload_n 1, 1) := by decide +kernel
theorem dX2_hasStation_1 : decode cX2_hasStation 1 = .ok (.ifCond .lt 20, 3) := by decide +kernel
theorem dX2_hasStation_4 : decode cX2_hasStation 4 = .ok (.iload_n 1, 1) := by decide +kernel
theorem dX2_hasStation_5 : decode cX2_hasStation 5 = .ok (.aload_n 0, 1) := by decide +kernel
theorem dX2_hasStation_6 : decode cX2_hasStation 6 = .ok (.getfield 37, 3) := by decide +kernel
theorem dX2_hasStation_9 : decode cX2_hasStation 9 = .ok (.if_icmp .ge 12, 3) := by decide +kernel
theorem dX2_hasStation_12 : decode cX2_hasStation 12 = .ok (.iload_n 1, 1) := by decide +kernel
theorem dX2_hasStation_13 : decode cX2_hasStation 13 = .ok (.iconst 4, 1) := by decide +kernel
theorem dX2_hasStation_14 : decode cX2_hasStation 14 = .ok (.if_icmp .ge 7, 3) := by decide +kernel
theorem dX2_hasStation_17 : decode cX2_hasStation 17 = .ok (.iconst 1, 1) := by decide +kernel
theorem dX2_hasStation_18 : decode cX2_hasStation 18 = .ok (.goto 4, 3) := by decide +kernel
theorem dX2_hasStation_21 : decode cX2_hasStation 21 = .ok (.iconst 0, 1) := by decide +kernel
theorem dX2_hasStation_22 : decode cX2_hasStation 22 = .ok (.ireturn, 1) := by decide +kernel
theorem dX2_hasHour_0 : decode cX2_hasHour 0 = .ok (.iload_n 1, 1) := by decide +kernel
theorem dX2_hasHour_1 : decode cX2_hasHour 1 = .ok (.ifCond .lt 21, 3) := by decide +kernel
theorem dX2_hasHour_4 : decode cX2_hasHour 4 = .ok (.iload_n 1, 1) := by decide +kernel
theorem dX2_hasHour_5 : decode cX2_hasHour 5 = .ok (.aload_n 0, 1) := by decide +kernel
theorem dX2_hasHour_6 : decode cX2_hasHour 6 = .ok (.getfield 40, 3) := by decide +kernel
theorem dX2_hasHour_9 : decode cX2_hasHour 9 = .ok (.if_icmp .ge 13, 3) := by decide +kernel
theorem dX2_hasHour_12 : decode cX2_hasHour 12 = .ok (.iload_n 1, 1) := by decide +kernel
theorem dX2_hasHour_13 : decode cX2_hasHour 13 = .ok (.bipush 60, 2) := by decide +kernel
theorem dX2_hasHour_15 : decode cX2_hasHour 15 = .ok (.if_icmp .ge 7, 3) := by decide +kernel
theorem dX2_hasHour_18 : decode cX2_hasHour 18 = .ok (.iconst 1, 1) := by decide +kernel
theorem dX2_hasHour_19 : decode cX2_hasHour 19 = .ok (.goto 4, 3) := by decide +kernel
theorem dX2_hasHour_22 : decode cX2_hasHour 22 = .ok (.iconst 0, 1) := by decide +kernel
theorem dX2_hasHour_23 : decode cX2_hasHour 23 = .ok (.ireturn, 1) := by decide +kernel
theorem dX2_hasPlace_0 : decode cX2_hasPlace 0 = .ok (.iload_n 1, 1) := by decide +kernel
theorem dX2_hasPlace_1 : decode cX2_hasPlace 1 = .ok (.ifCond .lt 55, 3) := by decide +kernel
theorem dX2_hasPlace_4 : decode cX2_hasPlace 4 = .ok (.iload_n 1, 1) := by decide +kernel
theorem dX2_hasPlace_5 : decode cX2_hasPlace 5 = .ok (.aload_n 0, 1) := by decide +kernel
theorem dX2_hasPlace_6 : decode cX2_hasPlace 6 = .ok (.getfield 37, 3) := by decide +kernel
theorem dX2_hasPlace_9 : decode cX2_hasPlace 9 = .ok (.if_icmp .ge 47, 3) := by decide +kernel
theorem dX2_hasPlace_12 : decode cX2_hasPlace 12 = .ok (.iload_n 1, 1) := by decide +kernel
theorem dX2_hasPlace_13 : decode cX2_hasPlace 13 = .ok (.iconst 4, 1) := by decide +kernel
theorem dX2_hasPlace_14 : decode cX2_hasPlace 14 = .ok (.if_icmp .ge 42, 3) := by decide +kernel
theorem dX2_hasPlace_17 : decode cX2_hasPlace 17 = .ok (.iload_n 2, 1) := by decide +kernel
theorem dX2_hasPlace_18 : decode cX2_hasPlace 18 = .ok (.ifCond .lt 38, 3) := by decide +kernel
theorem dX2_hasPlace_21 : decode cX2_hasPlace 21 = .ok (.iload_n 2, 1) := by decide +kernel
theorem dX2_hasPlace_22 : decode cX2_hasPlace 22 = .ok (.aload_n 0, 1) := by decide +kernel
theorem dX2_hasPlace_23 : decode cX2_hasPlace 23 = .ok (.getfield 34, 3) := by decide +kernel
theorem dX2_hasPlace_26 : decode cX2_hasPlace 26 = .ok (.if_icmp .ge 30, 3) := by decide +kernel
theorem dX2_hasPlace_29 : decode cX2_hasPlace 29 = .ok (.iload_n 2, 1) := by decide +kernel
theorem dX2_hasPlace_30 : decode cX2_hasPlace 30 = .ok (.iconst 3, 1) := by decide +kernel
theorem dX2_hasPlace_31 : decode cX2_hasPlace 31 = .ok (.if_icmp .ge 25, 3) := by decide +kernel
theorem dX2_hasPlace_34 : decode cX2_hasPlace 34 = .ok (.iload_n 3, 1) := by decide +kernel
theorem dX2_hasPlace_35 : decode cX2_hasPlace 35 = .ok (.ifCond .lt 21, 3) := by decide +kernel
theorem dX2_hasPlace_38 : decode cX2_hasPlace 38 = .ok (.iload_n 3, 1) := by decide +kernel
theorem dX2_hasPlace_39 : decode cX2_hasPlace 39 = .ok (.aload_n 0, 1) := by decide +kernel
theorem dX2_hasPlace_40 : decode cX2_hasPlace 40 = .ok (.getfield 40, 3) := by decide +kernel
theorem dX2_hasPlace_43 : decode cX2_hasPlace 43 = .ok (.if_icmp .ge 13, 3) := by decide +kernel
theorem dX2_hasPlace_46 : decode cX2_hasPlace 46 = .ok (.iload_n 3, 1) := by decide +kernel
theorem dX2_hasPlace_47 : decode cX2_hasPlace 47 = .ok (.bipush 60, 2) := by decide +kernel
theorem dX2_hasPlace_49 : decode cX2_hasPlace 49 = .ok (.if_icmp .ge 7, 3) := by decide +kernel
theorem dX2_hasPlace_52 : decode cX2_hasPlace 52 = .ok (.iconst 1, 1) := by decide +kernel
theorem dX2_hasPlace_53 : decode cX2_hasPlace 53 = .ok (.goto 4, 3) := by decide +kernel
theorem dX2_hasPlace_56 : decode cX2_hasPlace 56 = .ok (.iconst 0, 1) := by decide +kernel
theorem dX2_hasPlace_57 : decode cX2_hasPlace 57 = .ok (.ireturn, 1) := by decide +kernel
theorem dX2_substanceAt_0 : decode cX2_substanceAt 0 = .ok (.iload_n 1, 1) := by decide +kernel
theorem dX2_substanceAt_1 : decode cX2_substanceAt 1 = .ok (.ifCond .lt 16, 3) := by decide +kernel
theorem dX2_substanceAt_4 : decode cX2_substanceAt 4 = .ok (.iload_n 1, 1) := by decide +kernel
theorem dX2_substanceAt_5 : decode cX2_substanceAt 5 = .ok (.aload_n 0, 1) := by decide +kernel
theorem dX2_substanceAt_6 : decode cX2_substanceAt 6 = .ok (.getfield 34, 3) := by decide +kernel
theorem dX2_substanceAt_9 : decode cX2_substanceAt 9 = .ok (.if_icmp .ge 8, 3) := by decide +kernel
theorem dX2_substanceAt_12 : decode cX2_substanceAt 12 = .ok (.iload_n 1, 1) := by decide +kernel
theorem dX2_substanceAt_13 : decode cX2_substanceAt 13 = .ok (.iconst 3, 1) := by decide +kernel
theorem dX2_substanceAt_14 : decode cX2_substanceAt 14 = .ok (.if_icmp .lt 5, 3) := by decide +kernel
theorem dX2_substanceAt_17 : decode cX2_substanceAt 17 = .ok (.aconst_null, 1) := by decide +kernel
theorem dX2_substanceAt_18 : decode cX2_substanceAt 18 = .ok (.areturn, 1) := by decide +kernel
theorem dX2_substanceAt_19 : decode cX2_substanceAt 19 = .ok (.aload_n 0, 1) := by decide +kernel
theorem dX2_substanceAt_20 : decode cX2_substanceAt 20 = .ok (.getfield 17, 3) := by decide +kernel
theorem dX2_substanceAt_23 : decode cX2_substanceAt 23 = .ok (.iload_n 1, 1) := by decide +kernel
theorem dX2_substanceAt_24 : decode cX2_substanceAt 24 = .ok (.aaload, 1) := by decide +kernel
theorem dX2_substanceAt_25 : decode cX2_substanceAt 25 = .ok (.areturn, 1) := by decide +kernel
theorem dX2_putRead_0 : decode cX2_putRead 0 = .ok (.aload_n 0, 1) := by decide +kernel
theorem dX2_putRead_1 : decode cX2_putRead 1 = .ok (.iload_n 1, 1) := by decide +kernel
theorem dX2_putRead_2 : decode cX2_putRead 2 = .ok (.iload_n 2, 1) := by decide +kernel
theorem dX2_putRead_3 : decode cX2_putRead 3 = .ok (.iload_n 3, 1) := by decide +kernel
theorem dX2_putRead_4 : decode cX2_putRead 4 = .ok (.invokevirtual 67, 3) := by decide +kernel
theorem dX2_putRead_7 : decode cX2_putRead 7 = .ok (.ifCond .eq 17, 3) := by decide +kernel
theorem dX2_putRead_10 : decode cX2_putRead 10 = .ok (.aload_n 0, 1) := by decide +kernel
theorem dX2_putRead_11 : decode cX2_putRead 11 = .ok (.getfield 26, 3) := by decide +kernel
theorem dX2_putRead_14 : decode cX2_putRead 14 = .ok (.iload_n 1, 1) := by decide +kernel
theorem dX2_putRead_15 : decode cX2_putRead 15 = .ok (.iconst 3, 1) := by decide +kernel
theorem dX2_putRead_16 : decode cX2_putRead 16 = .ok (.imul, 1) := by decide +kernel
theorem dX2_putRead_17 : decode cX2_putRead 17 = .ok (.iload_n 2, 1) := by decide +kernel
theorem dX2_putRead_18 : decode cX2_putRead 18 = .ok (.iadd, 1) := by decide +kernel
theorem dX2_putRead_19 : decode cX2_putRead 19 = .ok (.aaload, 1) := by decide +kernel
theorem dX2_putRead_20 : decode cX2_putRead 20 = .ok (.iload_n 3, 1) := by decide +kernel
theorem dX2_putRead_21 : decode cX2_putRead 21 = .ok (.iload 4, 2) := by decide +kernel
theorem dX2_putRead_23 : decode cX2_putRead 23 = .ok (.iastore, 1) := by decide +kernel
theorem dX2_putRead_24 : decode cX2_putRead 24 = .ok (.return_, 1) := by decide +kernel
theorem dX2_readAt_0 : decode cX2_readAt 0 = .ok (.aload_n 0, 1) := by decide +kernel
theorem dX2_readAt_1 : decode cX2_readAt 1 = .ok (.iload_n 1, 1) := by decide +kernel
theorem dX2_readAt_2 : decode cX2_readAt 2 = .ok (.iload_n 2, 1) := by decide +kernel
theorem dX2_readAt_3 : decode cX2_readAt 3 = .ok (.iload_n 3, 1) := by decide +kernel
theorem dX2_readAt_4 : decode cX2_readAt 4 = .ok (.invokevirtual 67, 3) := by decide +kernel
theorem dX2_readAt_7 : decode cX2_readAt 7 = .ok (.ifCond .eq 18, 3) := by decide +kernel
theorem dX2_readAt_10 : decode cX2_readAt 10 = .ok (.aload_n 0, 1) := by decide +kernel
theorem dX2_readAt_11 : decode cX2_readAt 11 = .ok (.getfield 26, 3) := by decide +kernel
theorem dX2_readAt_14 : decode cX2_readAt 14 = .ok (.iload_n 1, 1) := by decide +kernel
theorem dX2_readAt_15 : decode cX2_readAt 15 = .ok (.iconst 3, 1) := by decide +kernel
theorem dX2_readAt_16 : decode cX2_readAt 16 = .ok (.imul, 1) := by decide +kernel
theorem dX2_readAt_17 : decode cX2_readAt 17 = .ok (.iload_n 2, 1) := by decide +kernel
theorem dX2_readAt_18 : decode cX2_readAt 18 = .ok (.iadd, 1) := by decide +kernel
theorem dX2_readAt_19 : decode cX2_readAt 19 = .ok (.aaload, 1) := by decide +kernel
theorem dX2_readAt_20 : decode cX2_readAt 20 = .ok (.iload_n 3, 1) := by decide +kernel
theorem dX2_readAt_21 : decode cX2_readAt 21 = .ok (.iaload, 1) := by decide +kernel
theorem dX2_readAt_22 : decode cX2_readAt 22 = .ok (.goto 4, 3) := by decide +kernel
theorem dX2_readAt_25 : decode cX2_readAt 25 = .ok (.iconst (-1), 1) := by decide +kernel
theorem dX2_readAt_26 : decode cX2_readAt 26 = .ok (.ireturn, 1) := by decide +kernel
theorem dX2_countReads_0 : decode cX2_countReads 0 = .ok (.iconst 0, 1) := by decide +kernel
theorem dX2_countReads_1 : decode cX2_countReads 1 = .ok (.istore_n 1, 1) := by decide +kernel
theorem dX2_countReads_2 : decode cX2_countReads 2 = .ok (.iconst 0, 1) := by decide +kernel
theorem dX2_countReads_3 : decode cX2_countReads 3 = .ok (.istore_n 2, 1) := by decide +kernel
theorem dX2_countReads_4 : decode cX2_countReads 4 = .ok (.iload_n 2, 1) := by decide +kernel
theorem dX2_countReads_5 : decode cX2_countReads 5 = .ok (.bipush 12, 2) := by decide +kernel
theorem dX2_countReads_7 : decode cX2_countReads 7 = .ok (.if_icmp .ge 46, 3) := by decide +kernel
theorem dX2_countReads_10 : decode cX2_countReads 10 = .ok (.iconst 0, 1) := by decide +kernel
theorem dX2_countReads_11 : decode cX2_countReads 11 = .ok (.istore_n 3, 1) := by decide +kernel
theorem dX2_countReads_12 : decode cX2_countReads 12 = .ok (.iload_n 3, 1) := by decide +kernel
theorem dX2_countReads_13 : decode cX2_countReads 13 = .ok (.aload_n 0, 1) := by decide +kernel
theorem dX2_countReads_14 : decode cX2_countReads 14 = .ok (.getfield 40, 3) := by decide +kernel
theorem dX2_countReads_17 : decode cX2_countReads 17 = .ok (.if_icmp .ge 30, 3) := by decide +kernel
theorem dX2_countReads_20 : decode cX2_countReads 20 = .ok (.iload_n 3, 1) := by decide +kernel
theorem dX2_countReads_21 : decode cX2_countReads 21 = .ok (.bipush 60, 2) := by decide +kernel
theorem dX2_countReads_23 : decode cX2_countReads 23 = .ok (.if_icmp .ge 24, 3) := by decide +kernel
theorem dX2_countReads_26 : decode cX2_countReads 26 = .ok (.aload_n 0, 1) := by decide +kernel
theorem dX2_countReads_27 : decode cX2_countReads 27 = .ok (.getfield 26, 3) := by decide +kernel
theorem dX2_countReads_30 : decode cX2_countReads 30 = .ok (.iload_n 2, 1) := by decide +kernel
theorem dX2_countReads_31 : decode cX2_countReads 31 = .ok (.aaload, 1) := by decide +kernel
theorem dX2_countReads_32 : decode cX2_countReads 32 = .ok (.iload_n 3, 1) := by decide +kernel
theorem dX2_countReads_33 : decode cX2_countReads 33 = .ok (.iaload, 1) := by decide +kernel
theorem dX2_countReads_34 : decode cX2_countReads 34 = .ok (.iconst (-1), 1) := by decide +kernel
theorem dX2_countReads_35 : decode cX2_countReads 35 = .ok (.if_icmp .eq 6, 3) := by decide +kernel
theorem dX2_countReads_38 : decode cX2_countReads 38 = .ok (.iinc 1 1, 3) := by decide +kernel
theorem dX2_countReads_41 : decode cX2_countReads 41 = .ok (.iinc 3 1, 3) := by decide +kernel
theorem dX2_countReads_44 : decode cX2_countReads 44 = .ok (.goto (-32), 3) := by decide +kernel
theorem dX2_countReads_47 : decode cX2_countReads 47 = .ok (.iinc 2 1, 3) := by decide +kernel
theorem dX2_countReads_50 : decode cX2_countReads 50 = .ok (.goto (-46), 3) := by decide +kernel
theorem dX2_countReads_53 : decode cX2_countReads 53 = .ok (.iload_n 1, 1) := by decide +kernel
theorem dX2_countReads_54 : decode cX2_countReads 54 = .ok (.ireturn, 1) := by decide +kernel
theorem dX2_meanAt_0 : decode cX2_meanAt 0 = .ok (.aload_n 0, 1) := by decide +kernel
theorem dX2_meanAt_1 : decode cX2_meanAt 1 = .ok (.iload_n 2, 1) := by decide +kernel
theorem dX2_meanAt_2 : decode cX2_meanAt 2 = .ok (.invokevirtual 71, 3) := by decide +kernel
theorem dX2_meanAt_5 : decode cX2_meanAt 5 = .ok (.astore 4, 2) := by decide +kernel
theorem dX2_meanAt_7 : decode cX2_meanAt 7 = .ok (.aload 4, 2) := by decide +kernel
theorem dX2_meanAt_9 : decode cX2_meanAt 9 = .ok (.ifnull 13, 3) := by decide +kernel
theorem dX2_meanAt_12 : decode cX2_meanAt 12 = .ok (.aload_n 0, 1) := by decide +kernel
theorem dX2_meanAt_13 : decode cX2_meanAt 13 = .ok (.iload_n 1, 1) := by decide +kernel
theorem dX2_meanAt_14 : decode cX2_meanAt 14 = .ok (.iload_n 2, 1) := by decide +kernel
theorem dX2_meanAt_15 : decode cX2_meanAt 15 = .ok (.iload_n 3, 1) := by decide +kernel
theorem dX2_meanAt_16 : decode cX2_meanAt 16 = .ok (.invokevirtual 67, 3) := by decide +kernel
theorem dX2_meanAt_19 : decode cX2_meanAt 19 = .ok (.ifCond .ne 5, 3) := by decide +kernel
theorem dX2_meanAt_22 : decode cX2_meanAt 22 = .ok (.iconst (-1), 1) := by decide +kernel
theorem dX2_meanAt_23 : decode cX2_meanAt 23 = .ok (.ireturn, 1) := by decide +kernel
theorem dX2_meanAt_24 : decode cX2_meanAt 24 = .ok (.iconst 0, 1) := by decide +kernel
theorem dX2_meanAt_25 : decode cX2_meanAt 25 = .ok (.iload_n 3, 1) := by decide +kernel
theorem dX2_meanAt_26 : decode cX2_meanAt 26 = .ok (.aload 4, 2) := by decide +kernel
theorem dX2_meanAt_28 : decode cX2_meanAt 28 = .ok (.getfield 58, 3) := by decide +kernel
theorem dX2_meanAt_31 : decode cX2_meanAt 31 = .ok (.isub, 1) := by decide +kernel
theorem dX2_meanAt_32 : decode cX2_meanAt 32 = .ok (.iconst 1, 1) := by decide +kernel
theorem dX2_meanAt_33 : decode cX2_meanAt 33 = .ok (.iadd, 1) := by decide +kernel
theorem dX2_meanAt_34 : decode cX2_meanAt 34 = .ok (.invokestatic 75, 3) := by decide +kernel
theorem dX2_meanAt_37 : decode cX2_meanAt 37 = .ok (.istore 5, 2) := by decide +kernel
theorem dX2_meanAt_39 : decode cX2_meanAt 39 = .ok (.iconst 0, 1) := by decide +kernel
theorem dX2_meanAt_40 : decode cX2_meanAt 40 = .ok (.istore 6, 2) := by decide +kernel
theorem dX2_meanAt_42 : decode cX2_meanAt 42 = .ok (.iconst 0, 1) := by decide +kernel
theorem dX2_meanAt_43 : decode cX2_meanAt 43 = .ok (.istore 7, 2) := by decide +kernel
theorem dX2_meanAt_45 : decode cX2_meanAt 45 = .ok (.iconst 0, 1) := by decide +kernel
theorem dX2_meanAt_46 : decode cX2_meanAt 46 = .ok (.istore 8, 2) := by decide +kernel
theorem dX2_meanAt_48 : decode cX2_meanAt 48 = .ok (.iload 5, 2) := by decide +kernel
theorem dX2_meanAt_50 : decode cX2_meanAt 50 = .ok (.istore 9, 2) := by decide +kernel
theorem dX2_meanAt_52 : decode cX2_meanAt 52 = .ok (.iload 9, 2) := by decide +kernel
theorem dX2_meanAt_54 : decode cX2_meanAt 54 = .ok (.iload_n 3, 1) := by decide +kernel
theorem dX2_meanAt_55 : decode cX2_meanAt 55 = .ok (.if_icmp .gt 44, 3) := by decide +kernel
theorem dX2_meanAt_58 : decode cX2_meanAt 58 = .ok (.aload_n 0, 1) := by decide +kernel
theorem dX2_meanAt_59 : decode cX2_meanAt 59 = .ok (.iload_n 1, 1) := by decide +kernel
theorem dX2_meanAt_60 : decode cX2_meanAt 60 = .ok (.iload_n 2, 1) := by decide +kernel
theorem dX2_meanAt_61 : decode cX2_meanAt 61 = .ok (.iload 9, 2) := by decide +kernel
theorem dX2_meanAt_63 : decode cX2_meanAt 63 = .ok (.invokevirtual 81, 3) := by decide +kernel
theorem dX2_meanAt_66 : decode cX2_meanAt 66 = .ok (.istore 10, 2) := by decide +kernel
theorem dX2_meanAt_68 : decode cX2_meanAt 68 = .ok (.iload 10, 2) := by decide +kernel
theorem dX2_meanAt_70 : decode cX2_meanAt 70 = .ok (.iconst (-1), 1) := by decide +kernel
theorem dX2_meanAt_71 : decode cX2_meanAt 71 = .ok (.if_icmp .eq 22, 3) := by decide +kernel
theorem dX2_meanAt_74 : decode cX2_meanAt 74 = .ok (.iinc 6 1, 3) := by decide +kernel
theorem dX2_meanAt_77 : decode cX2_meanAt 77 = .ok (.iload 7, 2) := by decide +kernel
theorem dX2_meanAt_79 : decode cX2_meanAt 79 = .ok (.iload 10, 2) := by decide +kernel
theorem dX2_meanAt_81 : decode cX2_meanAt 81 = .ok (.iadd, 1) := by decide +kernel
theorem dX2_meanAt_82 : decode cX2_meanAt 82 = .ok (.istore 7, 2) := by decide +kernel
theorem dX2_meanAt_84 : decode cX2_meanAt 84 = .ok (.iload 8, 2) := by decide +kernel
theorem dX2_meanAt_86 : decode cX2_meanAt 86 = .ok (.iload 10, 2) := by decide +kernel
theorem dX2_meanAt_88 : decode cX2_meanAt 88 = .ok (.invokestatic 75, 3) := by decide +kernel
theorem dX2_meanAt_91 : decode cX2_meanAt 91 = .ok (.istore 8, 2) := by decide +kernel
theorem dX2_meanAt_93 : decode cX2_meanAt 93 = .ok (.iinc 9 1, 3) := by decide +kernel
theorem dX2_meanAt_96 : decode cX2_meanAt 96 = .ok (.goto (-44), 3) := by decide +kernel
theorem dX2_meanAt_99 : decode cX2_meanAt 99 = .ok (.iload_n 3, 1) := by decide +kernel
theorem dX2_meanAt_100 : decode cX2_meanAt 100 = .ok (.iload 5, 2) := by decide +kernel
theorem dX2_meanAt_102 : decode cX2_meanAt 102 = .ok (.isub, 1) := by decide +kernel
theorem dX2_meanAt_103 : decode cX2_meanAt 103 = .ok (.iconst 1, 1) := by decide +kernel
theorem dX2_meanAt_104 : decode cX2_meanAt 104 = .ok (.iadd, 1) := by decide +kernel
theorem dX2_meanAt_105 : decode cX2_meanAt 105 = .ok (.istore 9, 2) := by decide +kernel
theorem dX2_meanAt_107 : decode cX2_meanAt 107 = .ok (.iload 6, 2) := by decide +kernel
theorem dX2_meanAt_109 : decode cX2_meanAt 109 = .ok (.aload 4, 2) := by decide +kernel
theorem dX2_meanAt_111 : decode cX2_meanAt 111 = .ok (.getfield 61, 3) := by decide +kernel
theorem dX2_meanAt_114 : decode cX2_meanAt 114 = .ok (.if_icmp .lt 9, 3) := by decide +kernel
theorem dX2_meanAt_117 : decode cX2_meanAt 117 = .ok (.iload 9, 2) := by decide +kernel
theorem dX2_meanAt_119 : decode cX2_meanAt 119 = .ok (.iconst 1, 1) := by decide +kernel
theorem dX2_meanAt_120 : decode cX2_meanAt 120 = .ok (.if_icmp .ge 5, 3) := by decide +kernel
theorem dX2_meanAt_123 : decode cX2_meanAt 123 = .ok (.iconst (-1), 1) := by decide +kernel
theorem dX2_meanAt_124 : decode cX2_meanAt 124 = .ok (.ireturn, 1) := by decide +kernel
theorem dX2_meanAt_125 : decode cX2_meanAt 125 = .ok (.iload 7, 2) := by decide +kernel
theorem dX2_meanAt_127 : decode cX2_meanAt 127 = .ok (.iload 9, 2) := by decide +kernel
theorem dX2_meanAt_129 : decode cX2_meanAt 129 = .ok (.iload 6, 2) := by decide +kernel
theorem dX2_meanAt_131 : decode cX2_meanAt 131 = .ok (.isub, 1) := by decide +kernel
theorem dX2_meanAt_132 : decode cX2_meanAt 132 = .ok (.iload 8, 2) := by decide +kernel
theorem dX2_meanAt_134 : decode cX2_meanAt 134 = .ok (.imul, 1) := by decide +kernel
theorem dX2_meanAt_135 : decode cX2_meanAt 135 = .ok (.iadd, 1) := by decide +kernel
theorem dX2_meanAt_136 : decode cX2_meanAt 136 = .ok (.iload 9, 2) := by decide +kernel
theorem dX2_meanAt_138 : decode cX2_meanAt 138 = .ok (.idiv, 1) := by decide +kernel
theorem dX2_meanAt_139 : decode cX2_meanAt 139 = .ok (.ireturn, 1) := by decide +kernel
theorem dX2_subAt_0 : decode cX2_subAt 0 = .ok (.aload_n 0, 1) := by decide +kernel
theorem dX2_subAt_1 : decode cX2_subAt 1 = .ok (.iload_n 2, 1) := by decide +kernel
theorem dX2_subAt_2 : decode cX2_subAt 2 = .ok (.invokevirtual 71, 3) := by decide +kernel
theorem dX2_subAt_5 : decode cX2_subAt 5 = .ok (.astore 4, 2) := by decide +kernel
theorem dX2_subAt_7 : decode cX2_subAt 7 = .ok (.aload_n 0, 1) := by decide +kernel
theorem dX2_subAt_8 : decode cX2_subAt 8 = .ok (.iload_n 1, 1) := by decide +kernel
theorem dX2_subAt_9 : decode cX2_subAt 9 = .ok (.iload_n 2, 1) := by decide +kernel
theorem dX2_subAt_10 : decode cX2_subAt 10 = .ok (.iload_n 3, 1) := by decide +kernel
theorem dX2_subAt_11 : decode cX2_subAt 11 = .ok (.invokevirtual 85, 3) := by decide +kernel
theorem dX2_subAt_14 : decode cX2_subAt 14 = .ok (.istore 5, 2) := by decide +kernel
theorem dX2_subAt_16 : decode cX2_subAt 16 = .ok (.aload 4, 2) := by decide +kernel
theorem dX2_subAt_18 : decode cX2_subAt 18 = .ok (.ifnull 9, 3) := by decide +kernel
theorem dX2_subAt_21 : decode cX2_subAt 21 = .ok (.iload 5, 2) := by decide +kernel
theorem dX2_subAt_23 : decode cX2_subAt 23 = .ok (.iconst (-1), 1) := by decide +kernel
theorem dX2_subAt_24 : decode cX2_subAt 24 = .ok (.if_icmp .ne 7, 3) := by decide +kernel
theorem dX2_subAt_27 : decode cX2_subAt 27 = .ok (.iconst (-1), 1) := by decide +kernel
theorem dX2_subAt_28 : decode cX2_subAt 28 = .ok (.goto 10, 3) := by decide +kernel
theorem dX2_subAt_31 : decode cX2_subAt 31 = .ok (.aload 4, 2) := by decide +kernel
theorem dX2_subAt_33 : decode cX2_subAt 33 = .ok (.iload 5, 2) := by decide +kernel
theorem dX2_subAt_35 : decode cX2_subAt 35 = .ok (.invokevirtual 88, 3) := by decide +kernel
theorem dX2_subAt_38 : decode cX2_subAt 38 = .ok (.ireturn, 1) := by decide +kernel
theorem dX2_indexAt_0 : decode cX2_indexAt 0 = .ok (.iconst (-1), 1) := by decide +kernel
theorem dX2_indexAt_1 : decode cX2_indexAt 1 = .ok (.istore_n 3, 1) := by decide +kernel
theorem dX2_indexAt_2 : decode cX2_indexAt 2 = .ok (.iconst 0, 1) := by decide +kernel
theorem dX2_indexAt_3 : decode cX2_indexAt 3 = .ok (.istore 4, 2) := by decide +kernel
theorem dX2_indexAt_5 : decode cX2_indexAt 5 = .ok (.iload 4, 2) := by decide +kernel
theorem dX2_indexAt_7 : decode cX2_indexAt 7 = .ok (.aload_n 0, 1) := by decide +kernel
theorem dX2_indexAt_8 : decode cX2_indexAt 8 = .ok (.getfield 34, 3) := by decide +kernel
theorem dX2_indexAt_11 : decode cX2_indexAt 11 = .ok (.if_icmp .ge 22, 3) := by decide +kernel
theorem dX2_indexAt_14 : decode cX2_indexAt 14 = .ok (.iload_n 3, 1) := by decide +kernel
theorem dX2_indexAt_15 : decode cX2_indexAt 15 = .ok (.aload_n 0, 1) := by decide +kernel
theorem dX2_indexAt_16 : decode cX2_indexAt 16 = .ok (.iload_n 1, 1) := by decide +kernel
theorem dX2_indexAt_17 : decode cX2_indexAt 17 = .ok (.iload 4, 2) := by decide +kernel
theorem dX2_indexAt_19 : decode cX2_indexAt 19 = .ok (.iload_n 2, 1) := by decide +kernel
theorem dX2_indexAt_20 : decode cX2_indexAt 20 = .ok (.invokevirtual 92, 3) := by decide +kernel
theorem dX2_indexAt_23 : decode cX2_indexAt 23 = .ok (.invokestatic 75, 3) := by decide +kernel
theorem dX2_indexAt_26 : decode cX2_indexAt 26 = .ok (.istore_n 3, 1) := by decide +kernel
theorem dX2_indexAt_27 : decode cX2_indexAt 27 = .ok (.iinc 4 1, 3) := by decide +kernel
theorem dX2_indexAt_30 : decode cX2_indexAt 30 = .ok (.goto (-25), 3) := by decide +kernel
theorem dX2_indexAt_33 : decode cX2_indexAt 33 = .ok (.iload_n 3, 1) := by decide +kernel
theorem dX2_indexAt_34 : decode cX2_indexAt 34 = .ok (.ireturn, 1) := by decide +kernel
theorem dX2_rulingAt_0 : decode cX2_rulingAt 0 = .ok (.aload_n 0, 1) := by decide +kernel
theorem dX2_rulingAt_1 : decode cX2_rulingAt 1 = .ok (.iload_n 1, 1) := by decide +kernel
theorem dX2_rulingAt_2 : decode cX2_rulingAt 2 = .ok (.iload_n 2, 1) := by decide +kernel
theorem dX2_rulingAt_3 : decode cX2_rulingAt 3 = .ok (.invokevirtual 95, 3) := by decide +kernel
theorem dX2_rulingAt_6 : decode cX2_rulingAt 6 = .ok (.istore_n 3, 1) := by decide +kernel
theorem dX2_rulingAt_7 : decode cX2_rulingAt 7 = .ok (.iconst 0, 1) := by decide +kernel
theorem dX2_rulingAt_8 : decode cX2_rulingAt 8 = .ok (.istore 4, 2) := by decide +kernel
theorem dX2_rulingAt_10 : decode cX2_rulingAt 10 = .ok (.iload 4, 2) := by decide +kernel
theorem dX2_rulingAt_12 : decode cX2_rulingAt 12 = .ok (.aload_n 0, 1) := by decide +kernel
theorem dX2_rulingAt_13 : decode cX2_rulingAt 13 = .ok (.getfield 34, 3) := by decide +kernel
theorem dX2_rulingAt_16 : decode cX2_rulingAt 16 = .ok (.if_icmp .ge 29, 3) := by decide +kernel
theorem dX2_rulingAt_19 : decode cX2_rulingAt 19 = .ok (.iload_n 3, 1) := by decide +kernel
theorem dX2_rulingAt_20 : decode cX2_rulingAt 20 = .ok (.iconst (-1), 1) := by decide +kernel
theorem dX2_rulingAt_21 : decode cX2_rulingAt 21 = .ok (.if_icmp .eq 18, 3) := by decide +kernel
theorem dX2_rulingAt_24 : decode cX2_rulingAt 24 = .ok (.aload_n 0, 1) := by decide +kernel
theorem dX2_rulingAt_25 : decode cX2_rulingAt 25 = .ok (.iload_n 1, 1) := by decide +kernel
theorem dX2_rulingAt_26 : decode cX2_rulingAt 26 = .ok (.iload 4, 2) := by decide +kernel
theorem dX2_rulingAt_28 : decode cX2_rulingAt 28 = .ok (.iload_n 2, 1) := by decide +kernel
theorem dX2_rulingAt_29 : decode cX2_rulingAt 29 = .ok (.invokevirtual 92, 3) := by decide +kernel
theorem dX2_rulingAt_32 : decode cX2_rulingAt 32 = .ok (.iload_n 3, 1) := by decide +kernel
theorem dX2_rulingAt_33 : decode cX2_rulingAt 33 = .ok (.if_icmp .ne 6, 3) := by decide +kernel
theorem dX2_rulingAt_36 : decode cX2_rulingAt 36 = .ok (.iload 4, 2) := by decide +kernel
theorem dX2_rulingAt_38 : decode cX2_rulingAt 38 = .ok (.ireturn, 1) := by decide +kernel
theorem dX2_rulingAt_39 : decode cX2_rulingAt 39 = .ok (.iinc 4 1, 3) := by decide +kernel
theorem dX2_rulingAt_42 : decode cX2_rulingAt 42 = .ok (.goto (-32), 3) := by decide +kernel
theorem dX2_rulingAt_45 : decode cX2_rulingAt 45 = .ok (.iconst (-1), 1) := by decide +kernel
theorem dX2_rulingAt_46 : decode cX2_rulingAt 46 = .ok (.ireturn, 1) := by decide +kernel
theorem dX2_worstStationAt_0 : decode cX2_worstStationAt 0 = .ok (.iconst (-1), 1) := by decide +kernel
theorem dX2_worstStationAt_1 : decode cX2_worstStationAt 1 = .ok (.istore_n 3, 1) := by decide +kernel
theorem dX2_worstStationAt_2 : decode cX2_worstStationAt 2 = .ok (.iconst (-1), 1) := by decide +kernel
theorem dX2_worstStationAt_3 : decode cX2_worstStationAt 3 = .ok (.istore 4, 2) := by decide +kernel
theorem dX2_worstStationAt_5 : decode cX2_worstStationAt 5 = .ok (.iconst 0, 1) := by decide +kernel
theorem dX2_worstStationAt_6 : decode cX2_worstStationAt 6 = .ok (.istore 5, 2) := by decide +kernel
theorem dX2_worstStationAt_8 : decode cX2_worstStationAt 8 = .ok (.iload 5, 2) := by decide +kernel
theorem dX2_worstStationAt_10 : decode cX2_worstStationAt 10 = .ok (.aload_n 0, 1) := by decide +kernel
theorem dX2_worstStationAt_11 : decode cX2_worstStationAt 11 = .ok (.getfield 37, 3) := by decide +kernel
theorem dX2_worstStationAt_14 : decode cX2_worstStationAt 14 = .ok (.if_icmp .ge 52, 3) := by decide +kernel
theorem dX2_worstStationAt_17 : decode cX2_worstStationAt 17 = .ok (.iload 5, 2) := by decide +kernel
theorem dX2_worstStationAt_19 : decode cX2_worstStationAt 19 = .ok (.iconst 4, 1) := by decide +kernel
theorem dX2_worstStationAt_20 : decode cX2_worstStationAt 20 = .ok (.if_icmp .ge 46, 3) := by decide +kernel
theorem dX2_worstStationAt_23 : decode cX2_worstStationAt 23 = .ok (.aload_n 0, 1) := by decide +kernel
theorem dX2_worstStationAt_24 : decode cX2_worstStationAt 24 = .ok (.getfield 21, 3) := by decide +kernel
theorem dX2_worstStationAt_27 : decode cX2_worstStationAt 27 = .ok (.iload 5, 2) := by decide +kernel
theorem dX2_worstStationAt_29 : decode cX2_worstStationAt 29 = .ok (.iaload, 1) := by decide +kernel
theorem dX2_worstStationAt_30 : decode cX2_worstStationAt 30 = .ok (.iload_n 1, 1) := by decide +kernel
theorem dX2_worstStationAt_31 : decode cX2_worstStationAt 31 = .ok (.if_icmp .ne 13, 3) := by decide +kernel
theorem dX2_worstStationAt_34 : decode cX2_worstStationAt 34 = .ok (.aload_n 0, 1) := by decide +kernel
theorem dX2_worstStationAt_35 : decode cX2_worstStationAt 35 = .ok (.iload 5, 2) := by decide +kernel
theorem dX2_worstStationAt_37 : decode cX2_worstStationAt 37 = .ok (.iload_n 2, 1) := by decide +kernel
theorem dX2_worstStationAt_38 : decode cX2_worstStationAt 38 = .ok (.invokevirtual 95, 3) := by decide +kernel
theorem dX2_worstStationAt_41 : decode cX2_worstStationAt 41 = .ok (.goto 4, 3) := by decide +kernel
theorem dX2_worstStationAt_44 : decode cX2_worstStationAt 44 = .ok (.iconst (-1), 1) := by decide +kernel
theorem dX2_worstStationAt_45 : decode cX2_worstStationAt 45 = .ok (.istore 6, 2) := by decide +kernel
theorem dX2_worstStationAt_47 : decode cX2_worstStationAt 47 = .ok (.iload 6, 2) := by decide +kernel
theorem dX2_worstStationAt_49 : decode cX2_worstStationAt 49 = .ok (.iload_n 3, 1) := by decide +kernel
theorem dX2_worstStationAt_50 : decode cX2_worstStationAt 50 = .ok (.if_icmp .le 10, 3) := by decide +kernel
theorem dX2_worstStationAt_53 : decode cX2_worstStationAt 53 = .ok (.iload 6, 2) := by decide +kernel
theorem dX2_worstStationAt_55 : decode cX2_worstStationAt 55 = .ok (.istore_n 3, 1) := by decide +kernel
theorem dX2_worstStationAt_56 : decode cX2_worstStationAt 56 = .ok (.iload 5, 2) := by decide +kernel
theorem dX2_worstStationAt_58 : decode cX2_worstStationAt 58 = .ok (.istore 4, 2) := by decide +kernel
theorem dX2_worstStationAt_60 : decode cX2_worstStationAt 60 = .ok (.iinc 5 1, 3) := by decide +kernel
theorem dX2_worstStationAt_63 : decode cX2_worstStationAt 63 = .ok (.goto (-55), 3) := by decide +kernel
theorem dX2_worstStationAt_66 : decode cX2_worstStationAt 66 = .ok (.iload 4, 2) := by decide +kernel
theorem dX2_worstStationAt_68 : decode cX2_worstStationAt 68 = .ok (.ireturn, 1) := by decide +kernel
theorem dX2_countIndexed_0 : decode cX2_countIndexed 0 = .ok (.iconst 0, 1) := by decide +kernel
theorem dX2_countIndexed_1 : decode cX2_countIndexed 1 = .ok (.istore_n 3, 1) := by decide +kernel
theorem dX2_countIndexed_2 : decode cX2_countIndexed 2 = .ok (.iconst 0, 1) := by decide +kernel
theorem dX2_countIndexed_3 : decode cX2_countIndexed 3 = .ok (.istore 4, 2) := by decide +kernel
theorem dX2_countIndexed_5 : decode cX2_countIndexed 5 = .ok (.iload 4, 2) := by decide +kernel
theorem dX2_countIndexed_7 : decode cX2_countIndexed 7 = .ok (.aload_n 0, 1) := by decide +kernel
theorem dX2_countIndexed_8 : decode cX2_countIndexed 8 = .ok (.getfield 37, 3) := by decide +kernel
theorem dX2_countIndexed_11 : decode cX2_countIndexed 11 = .ok (.if_icmp .ge 40, 3) := by decide +kernel
theorem dX2_countIndexed_14 : decode cX2_countIndexed 14 = .ok (.iload 4, 2) := by decide +kernel
theorem dX2_countIndexed_16 : decode cX2_countIndexed 16 = .ok (.iconst 4, 1) := by decide +kernel
theorem dX2_countIndexed_17 : decode cX2_countIndexed 17 = .ok (.if_icmp .ge 34, 3) := by decide +kernel
theorem dX2_countIndexed_20 : decode cX2_countIndexed 20 = .ok (.aload_n 0, 1) := by decide +kernel
theorem dX2_countIndexed_21 : decode cX2_countIndexed 21 = .ok (.getfield 21, 3) := by decide +kernel
theorem dX2_countIndexed_24 : decode cX2_countIndexed 24 = .ok (.iload 4, 2) := by decide +kernel
theorem dX2_countIndexed_26 : decode cX2_countIndexed 26 = .ok (.iaload, 1) := by decide +kernel
theorem dX2_countIndexed_27 : decode cX2_countIndexed 27 = .ok (.iload_n 1, 1) := by decide +kernel
theorem dX2_countIndexed_28 : decode cX2_countIndexed 28 = .ok (.if_icmp .ne 17, 3) := by decide +kernel
theorem dX2_countIndexed_31 : decode cX2_countIndexed 31 = .ok (.aload_n 0, 1) := by decide +kernel
theorem dX2_countIndexed_32 : decode cX2_countIndexed 32 = .ok (.iload 4, 2) := by decide +kernel
theorem dX2_countIndexed_34 : decode cX2_countIndexed 34 = .ok (.iload_n 2, 1) := by decide +kernel
theorem dX2_countIndexed_35 : decode cX2_countIndexed 35 = .ok (.invokevirtual 95, 3) := by decide +kernel
theorem dX2_countIndexed_38 : decode cX2_countIndexed 38 = .ok (.iconst (-1), 1) := by decide +kernel
theorem dX2_countIndexed_39 : decode cX2_countIndexed 39 = .ok (.if_icmp .eq 6, 3) := by decide +kernel
theorem dX2_countIndexed_42 : decode cX2_countIndexed 42 = .ok (.iinc 3 1, 3) := by decide +kernel
theorem dX2_countIndexed_45 : decode cX2_countIndexed 45 = .ok (.iinc 4 1, 3) := by decide +kernel
theorem dX2_countIndexed_48 : decode cX2_countIndexed 48 = .ok (.goto (-43), 3) := by decide +kernel
theorem dX2_countIndexed_51 : decode cX2_countIndexed 51 = .ok (.iload_n 3, 1) := by decide +kernel
theorem dX2_countIndexed_52 : decode cX2_countIndexed 52 = .ok (.ireturn, 1) := by decide +kernel
theorem dX2_bandStart_0 : decode cX2_bandStart 0 = .ok (.iload_n 1, 1) := by decide +kernel
theorem dX2_bandStart_1 : decode cX2_bandStart 1 = .ok (.ifCond .lt 17, 3) := by decide +kernel
theorem dX2_bandStart_4 : decode cX2_bandStart 4 = .ok (.iload_n 1, 1) := by decide +kernel
theorem dX2_bandStart_5 : decode cX2_bandStart 5 = .ok (.iconst 3, 1) := by decide +kernel
theorem dX2_bandStart_6 : decode cX2_bandStart 6 = .ok (.if_icmp .ge 12, 3) := by decide +kernel
theorem dX2_bandStart_9 : decode cX2_bandStart 9 = .ok (.aload_n 0, 1) := by decide +kernel
theorem dX2_bandStart_10 : decode cX2_bandStart 10 = .ok (.getfield 9, 3) := by decide +kernel
theorem dX2_bandStart_13 : decode cX2_bandStart 13 = .ok (.iload_n 1, 1) := by decide +kernel
theorem dX2_bandStart_14 : decode cX2_bandStart 14 = .ok (.iaload, 1) := by decide +kernel
theorem dX2_bandStart_15 : decode cX2_bandStart 15 = .ok (.goto 4, 3) := by decide +kernel
theorem dX2_bandStart_18 : decode cX2_bandStart 18 = .ok (.iconst (-1), 1) := by decide +kernel
theorem dX2_bandStart_19 : decode cX2_bandStart 19 = .ok (.ireturn, 1) := by decide +kernel
theorem dX2_bandOf_0 : decode cX2_bandOf 0 = .ok (.iload_n 1, 1) := by decide +kernel
theorem dX2_bandOf_1 : decode cX2_bandOf 1 = .ok (.iconst (-1), 1) := by decide +kernel
theorem dX2_bandOf_2 : decode cX2_bandOf 2 = .ok (.if_icmp .ne 5, 3) := by decide +kernel
theorem dX2_bandOf_5 : decode cX2_bandOf 5 = .ok (.iconst (-1), 1) := by decide +kernel
theorem dX2_bandOf_6 : decode cX2_bandOf 6 = .ok (.ireturn, 1) := by decide +kernel
theorem dX2_bandOf_7 : decode cX2_bandOf 7 = .ok (.iconst 0, 1) := by decide +kernel
theorem dX2_bandOf_8 : decode cX2_bandOf 8 = .ok (.istore_n 2, 1) := by decide +kernel
theorem dX2_bandOf_9 : decode cX2_bandOf 9 = .ok (.iconst 0, 1) := by decide +kernel
theorem dX2_bandOf_10 : decode cX2_bandOf 10 = .ok (.istore_n 3, 1) := by decide +kernel
theorem dX2_bandOf_11 : decode cX2_bandOf 11 = .ok (.iload_n 3, 1) := by decide +kernel
theorem dX2_bandOf_12 : decode cX2_bandOf 12 = .ok (.iconst 3, 1) := by decide +kernel
theorem dX2_bandOf_13 : decode cX2_bandOf 13 = .ok (.if_icmp .ge 22, 3) := by decide +kernel
theorem dX2_bandOf_16 : decode cX2_bandOf 16 = .ok (.aload_n 0, 1) := by decide +kernel
theorem dX2_bandOf_17 : decode cX2_bandOf 17 = .ok (.getfield 9, 3) := by decide +kernel
theorem dX2_bandOf_20 : decode cX2_bandOf 20 = .ok (.iload_n 3, 1) := by decide +kernel
theorem dX2_bandOf_21 : decode cX2_bandOf 21 = .ok (.iaload, 1) := by decide +kernel
theorem dX2_bandOf_22 : decode cX2_bandOf 22 = .ok (.iload_n 1, 1) := by decide +kernel
theorem dX2_bandOf_23 : decode cX2_bandOf 23 = .ok (.if_icmp .gt 6, 3) := by decide +kernel
theorem dX2_bandOf_26 : decode cX2_bandOf 26 = .ok (.iinc 2 1, 3) := by decide +kernel
theorem dX2_bandOf_29 : decode cX2_bandOf 29 = .ok (.iinc 3 1, 3) := by decide +kernel
theorem dX2_bandOf_32 : decode cX2_bandOf 32 = .ok (.goto (-21), 3) := by decide +kernel
theorem dX2_bandOf_35 : decode cX2_bandOf 35 = .ok (.iload_n 2, 1) := by decide +kernel
theorem dX2_bandOf_36 : decode cX2_bandOf 36 = .ok (.ireturn, 1) := by decide +kernel
theorem dX2_forecastBehind_0 : decode cX2_forecastBehind 0 = .ok (.aload_n 0, 1) := by decide +kernel
theorem dX2_forecastBehind_1 : decode cX2_forecastBehind 1 = .ok (.iload_n 1, 1) := by decide +kernel
theorem dX2_forecastBehind_2 : decode cX2_forecastBehind 2 = .ok (.iload_n 2, 1) := by decide +kernel
theorem dX2_forecastBehind_3 : decode cX2_forecastBehind 3 = .ok (.iload_n 3, 1) := by decide +kernel
theorem dX2_forecastBehind_4 : decode cX2_forecastBehind 4 = .ok (.invokevirtual 67, 3) := by decide +kernel
theorem dX2_forecastBehind_7 : decode cX2_forecastBehind 7 = .ok (.ifCond .ne 5, 3) := by decide +kernel
theorem dX2_forecastBehind_10 : decode cX2_forecastBehind 10 = .ok (.iconst (-1), 1) := by decide +kernel
theorem dX2_forecastBehind_11 : decode cX2_forecastBehind 11 = .ok (.ireturn, 1) := by decide +kernel
theorem dX2_forecastBehind_12 : decode cX2_forecastBehind 12 = .ok (.aload_n 0, 1) := by decide +kernel
theorem dX2_forecastBehind_13 : decode cX2_forecastBehind 13 = .ok (.getfield 30, 3) := by decide +kernel
theorem dX2_forecastBehind_16 : decode cX2_forecastBehind 16 = .ok (.i2f, 1) := by decide +kernel
theorem dX2_forecastBehind_17 : decode cX2_forecastBehind 17 = .ok (.ldc 98, 2) := by decide +kernel
theorem dX2_forecastBehind_19 : decode cX2_forecastBehind 19 = .ok (.fdiv, 1) := by decide +kernel
theorem dX2_forecastBehind_20 : decode cX2_forecastBehind 20 = .ok (.fstore 4, 2) := by decide +kernel
theorem dX2_forecastBehind_22 : decode cX2_forecastBehind 22 = .ok (.fconst 0, 1) := by decide +kernel
theorem dX2_forecastBehind_23 : decode cX2_forecastBehind 23 = .ok (.fstore 5, 2) := by decide +kernel
theorem dX2_forecastBehind_25 : decode cX2_forecastBehind 25 = .ok (.iconst 0, 1) := by decide +kernel
theorem dX2_forecastBehind_26 : decode cX2_forecastBehind 26 = .ok (.istore 6, 2) := by decide +kernel
theorem dX2_forecastBehind_28 : decode cX2_forecastBehind 28 = .ok (.iconst 0, 1) := by decide +kernel
theorem dX2_forecastBehind_29 : decode cX2_forecastBehind 29 = .ok (.istore 7, 2) := by decide +kernel
theorem dX2_forecastBehind_31 : decode cX2_forecastBehind 31 = .ok (.iload 7, 2) := by decide +kernel
theorem dX2_forecastBehind_33 : decode cX2_forecastBehind 33 = .ok (.iload_n 3, 1) := by decide +kernel
theorem dX2_forecastBehind_34 : decode cX2_forecastBehind 34 = .ok (.if_icmp .gt 58, 3) := by decide +kernel
theorem dX2_forecastBehind_37 : decode cX2_forecastBehind 37 = .ok (.aload_n 0, 1) := by decide +kernel
theorem dX2_forecastBehind_38 : decode cX2_forecastBehind 38 = .ok (.iload_n 1, 1) := by decide +kernel
theorem dX2_forecastBehind_39 : decode cX2_forecastBehind 39 = .ok (.iload_n 2, 1) := by decide +kernel
theorem dX2_forecastBehind_40 : decode cX2_forecastBehind 40 = .ok (.iload 7, 2) := by decide +kernel
theorem dX2_forecastBehind_42 : decode cX2_forecastBehind 42 = .ok (.invokevirtual 81, 3) := by decide +kernel
theorem dX2_forecastBehind_45 : decode cX2_forecastBehind 45 = .ok (.istore 8, 2) := by decide +kernel
theorem dX2_forecastBehind_47 : decode cX2_forecastBehind 47 = .ok (.iload 8, 2) := by decide +kernel
theorem dX2_forecastBehind_49 : decode cX2_forecastBehind 49 = .ok (.iconst (-1), 1) := by decide +kernel
theorem dX2_forecastBehind_50 : decode cX2_forecastBehind 50 = .ok (.if_icmp .ne 6, 3) := by decide +kernel
theorem dX2_forecastBehind_53 : decode cX2_forecastBehind 53 = .ok (.goto 33, 3) := by decide +kernel
theorem dX2_forecastBehind_56 : decode cX2_forecastBehind 56 = .ok (.iload 6, 2) := by decide +kernel
theorem dX2_forecastBehind_58 : decode cX2_forecastBehind 58 = .ok (.ifCond .eq 20, 3) := by decide +kernel
theorem dX2_forecastBehind_61 : decode cX2_forecastBehind 61 = .ok (.fload 5, 2) := by decide +kernel
theorem dX2_forecastBehind_63 : decode cX2_forecastBehind 63 = .ok (.fload 4, 2) := by decide +kernel
theorem dX2_forecastBehind_65 : decode cX2_forecastBehind 65 = .ok (.iload 8, 2) := by decide +kernel
theorem dX2_forecastBehind_67 : decode cX2_forecastBehind 67 = .ok (.i2f, 1) := by decide +kernel
theorem dX2_forecastBehind_68 : decode cX2_forecastBehind 68 = .ok (.fload 5, 2) := by decide +kernel
theorem dX2_forecastBehind_70 : decode cX2_forecastBehind 70 = .ok (.fsub, 1) := by decide +kernel
theorem dX2_forecastBehind_71 : decode cX2_forecastBehind 71 = .ok (.fmul, 1) := by decide +kernel
theorem dX2_forecastBehind_72 : decode cX2_forecastBehind 72 = .ok (.fadd, 1) := by decide +kernel
theorem dX2_forecastBehind_73 : decode cX2_forecastBehind 73 = .ok (.fstore 5, 2) := by decide +kernel
theorem dX2_forecastBehind_75 : decode cX2_forecastBehind 75 = .ok (.goto 11, 3) := by decide +kernel
theorem dX2_forecastBehind_78 : decode cX2_forecastBehind 78 = .ok (.iload 8, 2) := by decide +kernel
theorem dX2_forecastBehind_80 : decode cX2_forecastBehind 80 = .ok (.i2f, 1) := by decide +kernel
theorem dX2_forecastBehind_81 : decode cX2_forecastBehind 81 = .ok (.fstore 5, 2) := by decide +kernel
theorem dX2_forecastBehind_83 : decode cX2_forecastBehind 83 = .ok (.iconst 1, 1) := by decide +kernel
theorem dX2_forecastBehind_84 : decode cX2_forecastBehind 84 = .ok (.istore 6, 2) := by decide +kernel
theorem dX2_forecastBehind_86 : decode cX2_forecastBehind 86 = .ok (.iinc 7 1, 3) := by decide +kernel
theorem dX2_forecastBehind_89 : decode cX2_forecastBehind 89 = .ok (.goto (-58), 3) := by decide +kernel
theorem dX2_forecastBehind_92 : decode cX2_forecastBehind 92 = .ok (.iload 6, 2) := by decide +kernel
theorem dX2_forecastBehind_94 : decode cX2_forecastBehind 94 = .ok (.ifCond .eq 9, 3) := by decide +kernel
theorem dX2_forecastBehind_97 : decode cX2_forecastBehind 97 = .ok (.fload 5, 2) := by decide +kernel
theorem dX2_forecastBehind_99 : decode cX2_forecastBehind 99 = .ok (.f2i, 1) := by decide +kernel
theorem dX2_forecastBehind_100 : decode cX2_forecastBehind 100 = .ok (.goto 4, 3) := by decide +kernel
theorem dX2_forecastBehind_103 : decode cX2_forecastBehind 103 = .ok (.iconst (-1), 1) := by decide +kernel
theorem dX2_forecastBehind_104 : decode cX2_forecastBehind 104 = .ok (.ireturn, 1) := by decide +kernel
theorem dX3_init_0 : decode cX3_init 0 = .ok (.aload_n 0, 1) := by decide +kernel
theorem dX3_init_1 : decode cX3_init 1 = .ok (.invokespecial 3, 3) := by decide +kernel
theorem dX3_init_4 : decode cX3_init 4 = .ok (.aload_n 0, 1) := by decide +kernel
theorem dX3_init_5 : decode cX3_init 5 = .ok (.iconst 5, 1) := by decide +kernel
theorem dX3_init_6 : decode cX3_init 6 = .ok (.newarray .int, 2) := by decide +kernel
theorem dX3_init_8 : decode cX3_init 8 = .ok (.putfield 9, 3) := by decide +kernel
theorem dX3_init_11 : decode cX3_init 11 = .ok (.aload_n 0, 1) := by decide +kernel
theorem dX3_init_12 : decode cX3_init 12 = .ok (.iconst 5, 1) := by decide +kernel
theorem dX3_init_13 : decode cX3_init 13 = .ok (.newarray .int, 2) := by decide +kernel
theorem dX3_init_15 : decode cX3_init 15 = .ok (.putfield 15, 3) := by decide +kernel
theorem dX3_init_18 : decode cX3_init 18 = .ok (.return_, 1) := by decide +kernel
theorem dX3_addPoint_0 : decode cX3_addPoint 0 = .ok (.aload_n 0, 1) := by decide +kernel
theorem dX3_addPoint_1 : decode cX3_addPoint 1 = .ok (.getfield 18, 3) := by decide +kernel
theorem dX3_addPoint_4 : decode cX3_addPoint 4 = .ok (.ifCond .lt 41, 3) := by decide +kernel
theorem dX3_addPoint_7 : decode cX3_addPoint 7 = .ok (.aload_n 0, 1) := by decide +kernel
theorem dX3_addPoint_8 : decode cX3_addPoint 8 = .ok (.getfield 18, 3) := by decide +kernel
theorem dX3_addPoint_11 : decode cX3_addPoint 11 = .ok (.iconst 5, 1) := by decide +kernel
theorem dX3_addPoint_12 : decode cX3_addPoint 12 = .ok (.if_icmp .ge 33, 3) := by decide +kernel
theorem dX3_addPoint_15 : decode cX3_addPoint 15 = .ok (.aload_n 0, 1) := by decide +kernel
theorem dX3_addPoint_16 : decode cX3_addPoint 16 = .ok (.getfield 9, 3) := by decide +kernel
theorem dX3_addPoint_19 : decode cX3_addPoint 19 = .ok (.aload_n 0, 1) := by decide +kernel
theorem dX3_addPoint_20 : decode cX3_addPoint 20 = .ok (.getfield 18, 3) := by decide +kernel
theorem dX3_addPoint_23 : decode cX3_addPoint 23 = .ok (.iload_n 1, 1) := by decide +kernel
theorem dX3_addPoint_24 : decode cX3_addPoint 24 = .ok (.iastore, 1) := by decide +kernel
theorem dX3_addPoint_25 : decode cX3_addPoint 25 = .ok (.aload_n 0, 1) := by decide +kernel
theorem dX3_addPoint_26 : decode cX3_addPoint 26 = .ok (.getfield 15, 3) := by decide +kernel
theorem dX3_addPoint_29 : decode cX3_addPoint 29 = .ok (.aload_n 0, 1) := by decide +kernel
theorem dX3_addPoint_30 : decode cX3_addPoint 30 = .ok (.getfield 18, 3) := by decide +kernel
theorem dX3_addPoint_33 : decode cX3_addPoint 33 = .ok (.iload_n 2, 1) := by decide +kernel
theorem dX3_addPoint_34 : decode cX3_addPoint 34 = .ok (.iastore, 1) := by decide +kernel
theorem dX3_addPoint_35 : decode cX3_addPoint 35 = .ok (.aload_n 0, 1) := by decide +kernel
theorem dX3_addPoint_36 : decode cX3_addPoint 36 = .ok (.dup, 1) := by decide +kernel
theorem dX3_addPoint_37 : decode cX3_addPoint 37 = .ok (.getfield 18, 3) := by decide +kernel
theorem dX3_addPoint_40 : decode cX3_addPoint 40 = .ok (.iconst 1, 1) := by decide +kernel
theorem dX3_addPoint_41 : decode cX3_addPoint 41 = .ok (.iadd, 1) := by decide +kernel
theorem dX3_addPoint_42 : decode cX3_addPoint 42 = .ok (.putfield 18, 3) := by decide +kernel
theorem dX3_addPoint_45 : decode cX3_addPoint 45 = .ok (.return_, 1) := by decide +kernel
theorem dX3_subAtLevel_0 : decode cX3_subAtLevel 0 = .ok (.aload_n 0, 1) := by decide +kernel
theorem dX3_subAtLevel_1 : decode cX3_subAtLevel 1 = .ok (.getfield 15, 3) := by decide +kernel
theorem dX3_subAtLevel_4 : decode cX3_subAtLevel 4 = .ok (.iconst 0, 1) := by decide +kernel
theorem dX3_subAtLevel_5 : decode cX3_subAtLevel 5 = .ok (.iaload, 1) := by decide +kernel
theorem dX3_subAtLevel_6 : decode cX3_subAtLevel 6 = .ok (.istore_n 2, 1) := by decide +kernel
theorem dX3_subAtLevel_7 : decode cX3_subAtLevel 7 = .ok (.iconst 1, 1) := by decide +kernel
theorem dX3_subAtLevel_8 : decode cX3_subAtLevel 8 = .ok (.istore_n 3, 1) := by decide +kernel
theorem dX3_subAtLevel_9 : decode cX3_subAtLevel 9 = .ok (.iload_n 3, 1) := by decide +kernel
theorem dX3_subAtLevel_10 : decode cX3_subAtLevel 10 = .ok (.aload_n 0, 1) := by decide +kernel
theorem dX3_subAtLevel_11 : decode cX3_subAtLevel 11 = .ok (.getfield 18, 3) := by decide +kernel
theorem dX3_subAtLevel_14 : decode cX3_subAtLevel 14 = .ok (.if_icmp .ge 101, 3) := by decide +kernel
theorem dX3_subAtLevel_17 : decode cX3_subAtLevel 17 = .ok (.iload_n 3, 1) := by decide +kernel
theorem dX3_subAtLevel_18 : decode cX3_subAtLevel 18 = .ok (.iconst 5, 1) := by decide +kernel
theorem dX3_subAtLevel_19 : decode cX3_subAtLevel 19 = .ok (.if_icmp .ge 96, 3) := by decide +kernel
theorem dX3_subAtLevel_22 : decode cX3_subAtLevel 22 = .ok (.iload_n 1, 1) := by decide +kernel
theorem dX3_subAtLevel_23 : decode cX3_subAtLevel 23 = .ok (.aload_n 0, 1) := by decide +kernel
theorem dX3_subAtLevel_24 : decode cX3_subAtLevel 24 = .ok (.getfield 9, 3) := by decide +kernel
theorem dX3_subAtLevel_27 : decode cX3_subAtLevel 27 = .ok (.iload_n 3, 1) := by decide +kernel
theorem dX3_subAtLevel_28 : decode cX3_subAtLevel 28 = .ok (.iconst 1, 1) := by decide +kernel
theorem dX3_subAtLevel_29 : decode cX3_subAtLevel 29 = .ok (.isub, 1) := by decide +kernel
theorem dX3_subAtLevel_30 : decode cX3_subAtLevel 30 = .ok (.iaload, 1) := by decide +kernel
theorem dX3_subAtLevel_31 : decode cX3_subAtLevel 31 = .ok (.isub, 1) := by decide +kernel
theorem dX3_subAtLevel_32 : decode cX3_subAtLevel 32 = .ok (.istore 4, 2) := by decide +kernel
theorem dX3_subAtLevel_34 : decode cX3_subAtLevel 34 = .ok (.aload_n 0, 1) := by decide +kernel
theorem dX3_subAtLevel_35 : decode cX3_subAtLevel 35 = .ok (.getfield 9, 3) := by decide +kernel
theorem dX3_subAtLevel_38 : decode cX3_subAtLevel 38 = .ok (.iload_n 3, 1) := by decide +kernel
theorem dX3_subAtLevel_39 : decode cX3_subAtLevel 39 = .ok (.iaload, 1) := by decide +kernel
theorem dX3_subAtLevel_40 : decode cX3_subAtLevel 40 = .ok (.aload_n 0, 1) := by decide +kernel
theorem dX3_subAtLevel_41 : decode cX3_subAtLevel 41 = .ok (.getfield 9, 3) := by decide +kernel
theorem dX3_subAtLevel_44 : decode cX3_subAtLevel 44 = .ok (.iload_n 3, 1) := by decide +kernel
theorem dX3_subAtLevel_45 : decode cX3_subAtLevel 45 = .ok (.iconst 1, 1) := by decide +kernel
theorem dX3_subAtLevel_46 : decode cX3_subAtLevel 46 = .ok (.isub, 1) := by decide +kernel
theorem dX3_subAtLevel_47 : decode cX3_subAtLevel 47 = .ok (.iaload, 1) := by decide +kernel
theorem dX3_subAtLevel_48 : decode cX3_subAtLevel 48 = .ok (.isub, 1) := by decide +kernel
theorem dX3_subAtLevel_49 : decode cX3_subAtLevel 49 = .ok (.istore 5, 2) := by decide +kernel
theorem dX3_subAtLevel_51 : decode cX3_subAtLevel 51 = .ok (.iload 4, 2) := by decide +kernel
theorem dX3_subAtLevel_53 : decode cX3_subAtLevel 53 = .ok (.iload 5, 2) := by decide +kernel
theorem dX3_subAtLevel_55 : decode cX3_subAtLevel 55 = .ok (.if_icmp .lt 13, 3) := by decide +kernel
theorem dX3_subAtLevel_58 : decode cX3_subAtLevel 58 = .ok (.aload_n 0, 1) := by decide +kernel
theorem dX3_subAtLevel_59 : decode cX3_subAtLevel 59 = .ok (.getfield 15, 3) := by decide +kernel
theorem dX3_subAtLevel_62 : decode cX3_subAtLevel 62 = .ok (.iload_n 3, 1) := by decide +kernel
theorem dX3_subAtLevel_63 : decode cX3_subAtLevel 63 = .ok (.iaload, 1) := by decide +kernel
theorem dX3_subAtLevel_64 : decode cX3_subAtLevel 64 = .ok (.istore_n 2, 1) := by decide +kernel
theorem dX3_subAtLevel_65 : decode cX3_subAtLevel 65 = .ok (.goto 44, 3) := by decide +kernel
theorem dX3_subAtLevel_68 : decode cX3_subAtLevel 68 = .ok (.iload 4, 2) := by decide +kernel
theorem dX3_subAtLevel_70 : decode cX3_subAtLevel 70 = .ok (.ifCond .le 39, 3) := by decide +kernel
theorem dX3_subAtLevel_73 : decode cX3_subAtLevel 73 = .ok (.iload 5, 2) := by decide +kernel
theorem dX3_subAtLevel_75 : decode cX3_subAtLevel 75 = .ok (.ifCond .le 34, 3) := by decide +kernel
theorem dX3_subAtLevel_78 : decode cX3_subAtLevel 78 = .ok (.aload_n 0, 1) := by decide +kernel
theorem dX3_subAtLevel_79 : decode cX3_subAtLevel 79 = .ok (.getfield 15, 3) := by decide +kernel
theorem dX3_subAtLevel_82 : decode cX3_subAtLevel 82 = .ok (.iload_n 3, 1) := by decide +kernel
theorem dX3_subAtLevel_83 : decode cX3_subAtLevel 83 = .ok (.iconst 1, 1) := by decide +kernel
theorem dX3_subAtLevel_84 : decode cX3_subAtLevel 84 = .ok (.isub, 1) := by decide +kernel
theorem dX3_subAtLevel_85 : decode cX3_subAtLevel 85 = .ok (.iaload, 1) := by decide +kernel
theorem dX3_subAtLevel_86 : decode cX3_subAtLevel 86 = .ok (.iload 4, 2) := by decide +kernel
theorem dX3_subAtLevel_88 : decode cX3_subAtLevel 88 = .ok (.aload_n 0, 1) := by decide +kernel
theorem dX3_subAtLevel_89 : decode cX3_subAtLevel 89 = .ok (.getfield 15, 3) := by decide +kernel
theorem dX3_subAtLevel_92 : decode cX3_subAtLevel 92 = .ok (.iload_n 3, 1) := by decide +kernel
theorem dX3_subAtLevel_93 : decode cX3_subAtLevel 93 = .ok (.iaload, 1) := by decide +kernel
theorem dX3_subAtLevel_94 : decode cX3_subAtLevel 94 = .ok (.aload_n 0, 1) := by decide +kernel
theorem dX3_subAtLevel_95 : decode cX3_subAtLevel 95 = .ok (.getfield 15, 3) := by decide +kernel
theorem dX3_subAtLevel_98 : decode cX3_subAtLevel 98 = .ok (.iload_n 3, 1) := by decide +kernel
theorem dX3_subAtLevel_99 : decode cX3_subAtLevel 99 = .ok (.iconst 1, 1) := by decide +kernel
theorem dX3_subAtLevel_100 : decode cX3_subAtLevel 100 = .ok (.isub, 1) := by decide +kernel
theorem dX3_subAtLevel_101 : decode cX3_subAtLevel 101 = .ok (.iaload, 1) := by decide +kernel
theorem dX3_subAtLevel_102 : decode cX3_subAtLevel 102 = .ok (.isub, 1) := by decide +kernel
theorem dX3_subAtLevel_103 : decode cX3_subAtLevel 103 = .ok (.imul, 1) := by decide +kernel
theorem dX3_subAtLevel_104 : decode cX3_subAtLevel 104 = .ok (.iload 5, 2) := by decide +kernel
theorem dX3_subAtLevel_106 : decode cX3_subAtLevel 106 = .ok (.idiv, 1) := by decide +kernel
theorem dX3_subAtLevel_107 : decode cX3_subAtLevel 107 = .ok (.iadd, 1) := by decide +kernel
theorem dX3_subAtLevel_108 : decode cX3_subAtLevel 108 = .ok (.istore_n 2, 1) := by decide +kernel
theorem dX3_subAtLevel_109 : decode cX3_subAtLevel 109 = .ok (.iinc 3 1, 3) := by decide +kernel
theorem dX3_subAtLevel_112 : decode cX3_subAtLevel 112 = .ok (.goto (-103), 3) := by decide +kernel
theorem dX3_subAtLevel_115 : decode cX3_subAtLevel 115 = .ok (.iload_n 2, 1) := by decide +kernel
theorem dX3_subAtLevel_116 : decode cX3_subAtLevel 116 = .ok (.ireturn, 1) := by decide +kernel
theorem dX4_init_0 : decode cX4_init 0 = .ok (.aload_n 0, 1) := by decide +kernel
theorem dX4_init_1 : decode cX4_init 1 = .ok (.invokespecial 3, 3) := by decide +kernel
theorem dX4_init_4 : decode cX4_init 4 = .ok (.aload_n 0, 1) := by decide +kernel
theorem dX4_init_5 : decode cX4_init 5 = .ok (.sipush 640, 3) := by decide +kernel
theorem dX4_init_8 : decode cX4_init 8 = .ok (.newarray .byte, 2) := by decide +kernel
theorem dX4_init_10 : decode cX4_init 10 = .ok (.putfield 9, 3) := by decide +kernel
theorem dX4_init_13 : decode cX4_init 13 = .ok (.return_, 1) := by decide +kernel
theorem dX4_hasRoom_0 : decode cX4_hasRoom 0 = .ok (.aload_n 0, 1) := by decide +kernel
theorem dX4_hasRoom_1 : decode cX4_hasRoom 1 = .ok (.getfield 15, 3) := by decide +kernel
theorem dX4_hasRoom_4 : decode cX4_hasRoom 4 = .ok (.iload_n 1, 1) := by decide +kernel
theorem dX4_hasRoom_5 : decode cX4_hasRoom 5 = .ok (.iadd, 1) := by decide +kernel
theorem dX4_hasRoom_6 : decode cX4_hasRoom 6 = .ok (.sipush 640, 3) := by decide +kernel
theorem dX4_hasRoom_9 : decode cX4_hasRoom 9 = .ok (.if_icmp .gt 7, 3) := by decide +kernel
theorem dX4_hasRoom_12 : decode cX4_hasRoom 12 = .ok (.iconst 1, 1) := by decide +kernel
theorem dX4_hasRoom_13 : decode cX4_hasRoom 13 = .ok (.goto 4, 3) := by decide +kernel
theorem dX4_hasRoom_16 : decode cX4_hasRoom 16 = .ok (.iconst 0, 1) := by decide +kernel
theorem dX4_hasRoom_17 : decode cX4_hasRoom 17 = .ok (.ireturn, 1) := by decide +kernel
theorem dX4_append_0 : decode cX4_append 0 = .ok (.bipush 24, 2) := by decide +kernel
theorem dX4_append_2 : decode cX4_append 2 = .ok (.istore_n 2, 1) := by decide +kernel
theorem dX4_append_3 : decode cX4_append 3 = .ok (.iload_n 2, 1) := by decide +kernel
theorem dX4_append_4 : decode cX4_append 4 = .ok (.ifCond .lt 49, 3) := by decide +kernel
theorem dX4_append_7 : decode cX4_append 7 = .ok (.aload_n 0, 1) := by decide +kernel
theorem dX4_append_8 : decode cX4_append 8 = .ok (.getfield 15, 3) := by decide +kernel
theorem dX4_append_11 : decode cX4_append 11 = .ok (.ifCond .lt 36, 3) := by decide +kernel
theorem dX4_append_14 : decode cX4_append 14 = .ok (.aload_n 0, 1) := by decide +kernel
theorem dX4_append_15 : decode cX4_append 15 = .ok (.getfield 15, 3) := by decide +kernel
theorem dX4_append_18 : decode cX4_append 18 = .ok (.sipush 640, 3) := by decide +kernel
theorem dX4_append_21 : decode cX4_append 21 = .ok (.if_icmp .ge 26, 3) := by decide +kernel
theorem dX4_append_24 : decode cX4_append 24 = .ok (.aload_n 0, 1) := by decide +kernel
theorem dX4_append_25 : decode cX4_append 25 = .ok (.getfield 9, 3) := by decide +kernel
theorem dX4_append_28 : decode cX4_append 28 = .ok (.aload_n 0, 1) := by decide +kernel
theorem dX4_append_29 : decode cX4_append 29 = .ok (.getfield 15, 3) := by decide +kernel
theorem dX4_append_32 : decode cX4_append 32 = .ok (.iload_n 1, 1) := by decide +kernel
theorem dX4_append_33 : decode cX4_append 33 = .ok (.iload_n 2, 1) := by decide +kernel
theorem dX4_append_34 : decode cX4_append 34 = .ok (.ishr, 1) := by decide +kernel
theorem dX4_append_35 : decode cX4_append 35 = .ok (.i2b, 1) := by decide +kernel
theorem dX4_append_36 : decode cX4_append 36 = .ok (.bastore, 1) := by decide +kernel
theorem dX4_append_37 : decode cX4_append 37 = .ok (.aload_n 0, 1) := by decide +kernel
theorem dX4_append_38 : decode cX4_append 38 = .ok (.dup, 1) := by decide +kernel
theorem dX4_append_39 : decode cX4_append 39 = .ok (.getfield 15, 3) := by decide +kernel
theorem dX4_append_42 : decode cX4_append 42 = .ok (.iconst 1, 1) := by decide +kernel
theorem dX4_append_43 : decode cX4_append 43 = .ok (.iadd, 1) := by decide +kernel
theorem dX4_append_44 : decode cX4_append 44 = .ok (.putfield 15, 3) := by decide +kernel
theorem dX4_append_47 : decode cX4_append 47 = .ok (.iinc 2 (-8), 3) := by decide +kernel
theorem dX4_append_50 : decode cX4_append 50 = .ok (.goto (-47), 3) := by decide +kernel
theorem dX4_append_53 : decode cX4_append 53 = .ok (.return_, 1) := by decide +kernel
theorem dX4_cutTo_0 : decode cX4_cutTo 0 = .ok (.iload_n 1, 1) := by decide +kernel
theorem dX4_cutTo_1 : decode cX4_cutTo 1 = .ok (.ifCond .lt 11, 3) := by decide +kernel
theorem dX4_cutTo_4 : decode cX4_cutTo 4 = .ok (.iload_n 1, 1) := by decide +kernel
theorem dX4_cutTo_5 : decode cX4_cutTo 5 = .ok (.aload_n 0, 1) := by decide +kernel
theorem dX4_cutTo_6 : decode cX4_cutTo 6 = .ok (.getfield 15, 3) := by decide +kernel
theorem dX4_cutTo_9 : decode cX4_cutTo 9 = .ok (.if_icmp .le 5, 3) := by decide +kernel
theorem dX4_cutTo_12 : decode cX4_cutTo 12 = .ok (.iconst 0, 1) := by decide +kernel
theorem dX4_cutTo_13 : decode cX4_cutTo 13 = .ok (.ireturn, 1) := by decide +kernel
theorem dX4_cutTo_14 : decode cX4_cutTo 14 = .ok (.aload_n 0, 1) := by decide +kernel
theorem dX4_cutTo_15 : decode cX4_cutTo 15 = .ok (.iload_n 1, 1) := by decide +kernel
theorem dX4_cutTo_16 : decode cX4_cutTo 16 = .ok (.putfield 15, 3) := by decide +kernel
theorem dX4_cutTo_19 : decode cX4_cutTo 19 = .ok (.iconst 1, 1) := by decide +kernel
theorem dX4_cutTo_20 : decode cX4_cutTo 20 = .ok (.ireturn, 1) := by decide +kernel
theorem dX4_byteAt_0 : decode cX4_byteAt 0 = .ok (.iload_n 1, 1) := by decide +kernel
theorem dX4_byteAt_1 : decode cX4_byteAt 1 = .ok (.ifCond .lt 18, 3) := by decide +kernel
theorem dX4_byteAt_4 : decode cX4_byteAt 4 = .ok (.iload_n 1, 1) := by decide +kernel
theorem dX4_byteAt_5 : decode cX4_byteAt 5 = .ok (.aload_n 0, 1) := by decide +kernel
theorem dX4_byteAt_6 : decode cX4_byteAt 6 = .ok (.getfield 15, 3) := by decide +kernel
theorem dX4_byteAt_9 : decode cX4_byteAt 9 = .ok (.if_icmp .ge 10, 3) := by decide +kernel
theorem dX4_byteAt_12 : decode cX4_byteAt 12 = .ok (.iload_n 1, 1) := by decide +kernel
theorem dX4_byteAt_13 : decode cX4_byteAt 13 = .ok (.sipush 640, 3) := by decide +kernel
theorem dX4_byteAt_16 : decode cX4_byteAt 16 = .ok (.if_icmp .lt 5, 3) := by decide +kernel
theorem dX4_byteAt_19 : decode cX4_byteAt 19 = .ok (.iconst (-1), 1) := by decide +kernel
theorem dX4_byteAt_20 : decode cX4_byteAt 20 = .ok (.ireturn, 1) := by decide +kernel
theorem dX4_byteAt_21 : decode cX4_byteAt 21 = .ok (.aload_n 0, 1) := by decide +kernel
theorem dX4_byteAt_22 : decode cX4_byteAt 22 = .ok (.getfield 9, 3) := by decide +kernel
theorem dX4_byteAt_25 : decode cX4_byteAt 25 = .ok (.iload_n 1, 1) := by decide +kernel
theorem dX4_byteAt_26 : decode cX4_byteAt 26 = .ok (.baload, 1) := by decide +kernel
theorem dX4_byteAt_27 : decode cX4_byteAt 27 = .ok (.sipush 255, 3) := by decide +kernel
theorem dX4_byteAt_30 : decode cX4_byteAt 30 = .ok (.iand, 1) := by decide +kernel
theorem dX4_byteAt_31 : decode cX4_byteAt 31 = .ok (.ireturn, 1) := by decide +kernel
theorem dX5_init_0 : decode cX5_init 0 = .ok (.aload_n 0, 1) := by decide +kernel
theorem dX5_init_1 : decode cX5_init 1 = .ok (.invokespecial 3, 3) := by decide +kernel
theorem dX5_init_4 : decode cX5_init 4 = .ok (.aload_n 0, 1) := by decide +kernel
theorem dX5_init_5 : decode cX5_init 5 = .ok (.new 9, 3) := by decide +kernel
theorem dX5_init_8 : decode cX5_init 8 = .ok (.dup, 1) := by decide +kernel
theorem dX5_init_9 : decode cX5_init 9 = .ok (.aload_n 1, 1) := by decide +kernel
theorem dX5_init_10 : decode cX5_init 10 = .ok (.invokespecial 11, 3) := by decide +kernel
theorem dX5_init_13 : decode cX5_init 13 = .ok (.putfield 14, 3) := by decide +kernel
theorem dX5_init_16 : decode cX5_init 16 = .ok (.return_, 1) := by decide +kernel
theorem dX5_begin_0 : decode cX5_begin 0 = .ok (.aload_n 0, 1) := by decide +kernel
theorem dX5_begin_1 : decode cX5_begin 1 = .ok (.iconst 0, 1) := by decide +kernel
theorem dX5_begin_2 : decode cX5_begin 2 = .ok (.putfield 20, 3) := by decide +kernel
theorem dX5_begin_5 : decode cX5_begin 5 = .ok (.aload_n 0, 1) := by decide +kernel
theorem dX5_begin_6 : decode cX5_begin 6 = .ok (.iconst 0, 1) := by decide +kernel
theorem dX5_begin_7 : decode cX5_begin 7 = .ok (.putfield 24, 3) := by decide +kernel
theorem dX5_begin_10 : decode cX5_begin 10 = .ok (.aload_n 0, 1) := by decide +kernel
theorem dX5_begin_11 : decode cX5_begin 11 = .ok (.iconst 0, 1) := by decide +kernel
theorem dX5_begin_12 : decode cX5_begin 12 = .ok (.putfield 27, 3) := by decide +kernel
theorem dX5_begin_15 : decode cX5_begin 15 = .ok (.aload_n 0, 1) := by decide +kernel
theorem dX5_begin_16 : decode cX5_begin 16 = .ok (.iconst 0, 1) := by decide +kernel
theorem dX5_begin_17 : decode cX5_begin 17 = .ok (.putfield 30, 3) := by decide +kernel
theorem dX5_begin_20 : decode cX5_begin 20 = .ok (.aload_n 0, 1) := by decide +kernel
theorem dX5_begin_21 : decode cX5_begin 21 = .ok (.getfield 14, 3) := by decide +kernel
theorem dX5_begin_24 : decode cX5_begin 24 = .ok (.invokevirtual 33, 3) := by decide +kernel
theorem dX5_begin_27 : decode cX5_begin 27 = .ok (.return_, 1) := by decide +kernel
theorem dX5_readsBands_0 : decode cX5_readsBands 0 = .ok (.aload_n 0, 1) := by decide +kernel
theorem dX5_readsBands_1 : decode cX5_readsBands 1 = .ok (.ldc 36, 2) := by decide +kernel
theorem dX5_readsBands_3 : decode cX5_readsBands 3 = .ok (.invokevirtual 38, 3) := by decide +kernel
theorem dX5_readsBands_6 : decode cX5_readsBands 6 = .ok (.ifCond .ne 5, 3) := by decide +kernel
theorem dX5_readsBands_9 : decode cX5_readsBands 9 = .ok (.iconst 0, 1) := by decide +kernel
theorem dX5_readsBands_10 : decode cX5_readsBands 10 = .ok (.ireturn, 1) := by decide +kernel
theorem dX5_readsBands_11 : decode cX5_readsBands 11 = .ok (.iconst 1, 1) := by decide +kernel
theorem dX5_readsBands_12 : decode cX5_readsBands 12 = .ok (.istore_n 2, 1) := by decide +kernel
theorem dX5_readsBands_13 : decode cX5_readsBands 13 = .ok (.iconst 0, 1) := by decide +kernel
theorem dX5_readsBands_14 : decode cX5_readsBands 14 = .ok (.istore_n 3, 1) := by decide +kernel
theorem dX5_readsBands_15 : decode cX5_readsBands 15 = .ok (.iload_n 3, 1) := by decide +kernel
theorem dX5_readsBands_16 : decode cX5_readsBands 16 = .ok (.iconst 3, 1) := by decide +kernel
theorem dX5_readsBands_17 : decode cX5_readsBands 17 = .ok (.if_icmp .ge 38, 3) := by decide +kernel
theorem dX5_readsBands_20 : decode cX5_readsBands 20 = .ok (.aload_n 0, 1) := by decide +kernel
theorem dX5_readsBands_21 : decode cX5_readsBands 21 = .ok (.iload_n 2, 1) := by decide +kernel
theorem dX5_readsBands_22 : decode cX5_readsBands 22 = .ok (.sipush 500, 3) := by decide +kernel
theorem dX5_readsBands_25 : decode cX5_readsBands 25 = .ok (.invokevirtual 42, 3) := by decide +kernel
theorem dX5_readsBands_28 : decode cX5_readsBands 28 = .ok (.ifCond .ne 5, 3) := by decide +kernel
theorem dX5_readsBands_31 : decode cX5_readsBands 31 = .ok (.iconst 0, 1) := by decide +kernel
theorem dX5_readsBands_32 : decode cX5_readsBands 32 = .ok (.ireturn, 1) := by decide +kernel
theorem dX5_readsBands_33 : decode cX5_readsBands 33 = .ok (.aload_n 1, 1) := by decide +kernel
theorem dX5_readsBands_34 : decode cX5_readsBands 34 = .ok (.iload_n 3, 1) := by decide +kernel
theorem dX5_readsBands_35 : decode cX5_readsBands 35 = .ok (.aload_n 0, 1) := by decide +kernel
theorem dX5_readsBands_36 : decode cX5_readsBands 36 = .ok (.getfield 46, 3) := by decide +kernel
theorem dX5_readsBands_39 : decode cX5_readsBands 39 = .ok (.invokevirtual 49, 3) := by decide +kernel
theorem dX5_readsBands_42 : decode cX5_readsBands 42 = .ok (.aload_n 0, 1) := by decide +kernel
theorem dX5_readsBands_43 : decode cX5_readsBands 43 = .ok (.getfield 46, 3) := by decide +kernel
theorem dX5_readsBands_46 : decode cX5_readsBands 46 = .ok (.iconst 1, 1) := by decide +kernel
theorem dX5_readsBands_47 : decode cX5_readsBands 47 = .ok (.iadd, 1) := by decide +kernel
theorem dX5_readsBands_48 : decode cX5_readsBands 48 = .ok (.istore_n 2, 1) := by decide +kernel
theorem dX5_readsBands_49 : decode cX5_readsBands 49 = .ok (.iinc 3 1, 3) := by decide +kernel
theorem dX5_readsBands_52 : decode cX5_readsBands 52 = .ok (.goto (-37), 3) := by decide +kernel
theorem dX5_readsBands_55 : decode cX5_readsBands 55 = .ok (.aload_n 0, 1) := by decide +kernel
theorem dX5_readsBands_56 : decode cX5_readsBands 56 = .ok (.invokevirtual 55, 3) := by decide +kernel
theorem dX5_readsBands_59 : decode cX5_readsBands 59 = .ok (.ireturn, 1) := by decide +kernel
theorem dX5_readsShare_0 : decode cX5_readsShare 0 = .ok (.aload_n 0, 1) := by decide +kernel
theorem dX5_readsShare_1 : decode cX5_readsShare 1 = .ok (.ldc 59, 2) := by decide +kernel
theorem dX5_readsShare_3 : decode cX5_readsShare 3 = .ok (.invokevirtual 38, 3) := by decide +kernel
theorem dX5_readsShare_6 : decode cX5_readsShare 6 = .ok (.ifCond .eq 13, 3) := by decide +kernel
theorem dX5_readsShare_9 : decode cX5_readsShare 9 = .ok (.aload_n 0, 1) := by decide +kernel
theorem dX5_readsShare_10 : decode cX5_readsShare 10 = .ok (.iconst 0, 1) := by decide +kernel
theorem dX5_readsShare_11 : decode cX5_readsShare 11 = .ok (.bipush 100, 2) := by decide +kernel
theorem dX5_readsShare_13 : decode cX5_readsShare 13 = .ok (.invokevirtual 42, 3) := by decide +kernel
theorem dX5_readsShare_16 : decode cX5_readsShare 16 = .ok (.ifCond .ne 5, 3) := by decide +kernel
theorem dX5_readsShare_19 : decode cX5_readsShare 19 = .ok (.iconst 0, 1) := by decide +kernel
theorem dX5_readsShare_20 : decode cX5_readsShare 20 = .ok (.ireturn, 1) := by decide +kernel
theorem dX5_readsShare_21 : decode cX5_readsShare 21 = .ok (.aload_n 1, 1) := by decide +kernel
theorem dX5_readsShare_22 : decode cX5_readsShare 22 = .ok (.aload_n 0, 1) := by decide +kernel
theorem dX5_readsShare_23 : decode cX5_readsShare 23 = .ok (.getfield 46, 3) := by decide +kernel
theorem dX5_readsShare_26 : decode cX5_readsShare 26 = .ok (.putfield 61, 3) := by decide +kernel
theorem dX5_readsShare_29 : decode cX5_readsShare 29 = .ok (.aload_n 0, 1) := by decide +kernel
theorem dX5_readsShare_30 : decode cX5_readsShare 30 = .ok (.invokevirtual 55, 3) := by decide +kernel
theorem dX5_readsShare_33 : decode cX5_readsShare 33 = .ok (.ireturn, 1) := by decide +kernel
theorem dX5_readsSubstances_0 : decode cX5_readsSubstances 0 = .ok (.iconst 0, 1) := by decide +kernel
theorem dX5_readsSubstances_1 : decode cX5_readsSubstances 1 = .ok (.istore_n 2, 1) := by decide +kernel
theorem dX5_readsSubstances_2 : decode cX5_readsSubstances 2 = .ok (.iload_n 2, 1) := by decide +kernel
theorem dX5_readsSubstances_3 : decode cX5_readsSubstances 3 = .ok (.iconst 3, 1) := by decide +kernel
theorem dX5_readsSubstances_4 : decode cX5_readsSubstances 4 = .ok (.if_icmp .ge 37, 3) := by decide +kernel
theorem dX5_readsSubstances_7 : decode cX5_readsSubstances 7 = .ok (.iload_n 2, 1) := by decide +kernel
theorem dX5_readsSubstances_8 : decode cX5_readsSubstances 8 = .ok (.ifCond .le 17, 3) := by decide +kernel
theorem dX5_readsSubstances_11 : decode cX5_readsSubstances 11 = .ok (.aload_n 0, 1) := by decide +kernel
theorem dX5_readsSubstances_12 : decode cX5_readsSubstances 12 = .ok (.getfield 14, 3) := by decide +kernel
theorem dX5_readsSubstances_15 : decode cX5_readsSubstances 15 = .ok (.ldc 64, 2) := by decide +kernel
theorem dX5_readsSubstances_17 : decode cX5_readsSubstances 17 = .ok (.invokevirtual 66, 3) := by decide +kernel
theorem dX5_readsSubstances_20 : decode cX5_readsSubstances 20 = .ok (.ifCond .ne 5, 3) := by decide +kernel
theorem dX5_readsSubstances_23 : decode cX5_readsSubstances 23 = .ok (.iconst 1, 1) := by decide +kernel
theorem dX5_readsSubstances_24 : decode cX5_readsSubstances 24 = .ok (.ireturn, 1) := by decide +kernel
theorem dX5_readsSubstances_25 : decode cX5_readsSubstances 25 = .ok (.aload_n 0, 1) := by decide +kernel
theorem dX5_readsSubstances_26 : decode cX5_readsSubstances 26 = .ok (.aload_n 1, 1) := by decide +kernel
theorem dX5_readsSubstances_27 : decode cX5_readsSubstances 27 = .ok (.invokevirtual 69, 3) := by decide +kernel
theorem dX5_readsSubstances_30 : decode cX5_readsSubstances 30 = .ok (.ifCond .ne 5, 3) := by decide +kernel
theorem dX5_readsSubstances_33 : decode cX5_readsSubstances 33 = .ok (.iconst 0, 1) := by decide +kernel
theorem dX5_readsSubstances_34 : decode cX5_readsSubstances 34 = .ok (.ireturn, 1) := by decide +kernel
theorem dX5_readsSubstances_35 : decode cX5_readsSubstances 35 = .ok (.iinc 2 1, 3) := by decide +kernel
theorem dX5_readsSubstances_38 : decode cX5_readsSubstances 38 = .ok (.goto (-36), 3) := by decide +kernel
theorem dX5_readsSubstances_41 : decode cX5_readsSubstances 41 = .ok (.aload_n 0, 1) := by decide +kernel
theorem dX5_readsSubstances_42 : decode cX5_readsSubstances 42 = .ok (.getfield 14, 3) := by decide +kernel
theorem dX5_readsSubstances_45 : decode cX5_readsSubstances 45 = .ok (.ldc 64, 2) := by decide +kernel
theorem dX5_readsSubstances_47 : decode cX5_readsSubstances 47 = .ok (.invokevirtual 66, 3) := by decide +kernel
theorem dX5_readsSubstances_50 : decode cX5_readsSubstances 50 = .ok (.ifCond .eq 11, 3) := by decide +kernel
theorem dX5_readsSubstances_53 : decode cX5_readsSubstances 53 = .ok (.aload_n 0, 1) := by decide +kernel
theorem dX5_readsSubstances_54 : decode cX5_readsSubstances 54 = .ok (.iconst 3, 1) := by decide +kernel
theorem dX5_readsSubstances_55 : decode cX5_readsSubstances 55 = .ok (.invokevirtual 73, 3) := by decide +kernel
theorem dX5_readsSubstances_58 : decode cX5_readsSubstances 58 = .ok (.ifCond .eq 7, 3) := by decide +kernel
theorem dX5_readsSubstances_61 : decode cX5_readsSubstances 61 = .ok (.iconst 1, 1) := by decide +kernel
theorem dX5_readsSubstances_62 : decode cX5_readsSubstances 62 = .ok (.goto 4, 3) := by decide +kernel
theorem dX5_readsSubstances_65 : decode cX5_readsSubstances 65 = .ok (.iconst 0, 1) := by decide +kernel
theorem dX5_readsSubstances_66 : decode cX5_readsSubstances 66 = .ok (.ireturn, 1) := by decide +kernel
theorem dX5_readsSubstance_0 : decode cX5_readsSubstance 0 = .ok (.aload_n 0, 1) := by decide +kernel
theorem dX5_readsSubstance_1 : decode cX5_readsSubstance 1 = .ok (.ldc 64, 2) := by decide +kernel
theorem dX5_readsSubstance_3 : decode cX5_readsSubstance 3 = .ok (.invokevirtual 38, 3) := by decide +kernel
theorem dX5_readsSubstance_6 : decode cX5_readsSubstance 6 = .ok (.ifCond .eq 13, 3) := by decide +kernel
theorem dX5_readsSubstance_9 : decode cX5_readsSubstance 9 = .ok (.aload_n 0, 1) := by decide +kernel
theorem dX5_readsSubstance_10 : decode cX5_readsSubstance 10 = .ok (.iconst 1, 1) := by decide +kernel
theorem dX5_readsSubstance_11 : decode cX5_readsSubstance 11 = .ok (.bipush 12, 2) := by decide +kernel
theorem dX5_readsSubstance_13 : decode cX5_readsSubstance 13 = .ok (.invokevirtual 42, 3) := by decide +kernel
theorem dX5_readsSubstance_16 : decode cX5_readsSubstance 16 = .ok (.ifCond .ne 5, 3) := by decide +kernel
theorem dX5_readsSubstance_19 : decode cX5_readsSubstance 19 = .ok (.iconst 0, 1) := by decide +kernel
theorem dX5_readsSubstance_20 : decode cX5_readsSubstance 20 = .ok (.ireturn, 1) := by decide +kernel
theorem dX5_readsSubstance_21 : decode cX5_readsSubstance 21 = .ok (.aload_n 0, 1) := by decide +kernel
theorem dX5_readsSubstance_22 : decode cX5_readsSubstance 22 = .ok (.getfield 46, 3) := by decide +kernel
theorem dX5_readsSubstance_25 : decode cX5_readsSubstance 25 = .ok (.istore_n 2, 1) := by decide +kernel
theorem dX5_readsSubstance_26 : decode cX5_readsSubstance 26 = .ok (.aload_n 0, 1) := by decide +kernel
theorem dX5_readsSubstance_27 : decode cX5_readsSubstance 27 = .ok (.iconst 1, 1) := by decide +kernel
theorem dX5_readsSubstance_28 : decode cX5_readsSubstance 28 = .ok (.iload_n 2, 1) := by decide +kernel
theorem dX5_readsSubstance_29 : decode cX5_readsSubstance 29 = .ok (.invokevirtual 42, 3) := by decide +kernel
theorem dX5_readsSubstance_32 : decode cX5_readsSubstance 32 = .ok (.ifCond .ne 5, 3) := by decide +kernel
theorem dX5_readsSubstance_35 : decode cX5_readsSubstance 35 = .ok (.iconst 0, 1) := by decide +kernel
theorem dX5_readsSubstance_36 : decode cX5_readsSubstance 36 = .ok (.ireturn, 1) := by decide +kernel
theorem dX5_readsSubstance_37 : decode cX5_readsSubstance 37 = .ok (.aload_n 1, 1) := by decide +kernel
theorem dX5_readsSubstance_38 : decode cX5_readsSubstance 38 = .ok (.iload_n 2, 1) := by decide +kernel
theorem dX5_readsSubstance_39 : decode cX5_readsSubstance 39 = .ok (.aload_n 0, 1) := by decide +kernel
theorem dX5_readsSubstance_40 : decode cX5_readsSubstance 40 = .ok (.getfield 46, 3) := by decide +kernel
theorem dX5_readsSubstance_43 : decode cX5_readsSubstance 43 = .ok (.invokevirtual 77, 3) := by decide +kernel
theorem dX5_readsSubstance_46 : decode cX5_readsSubstance 46 = .ok (.astore_n 3, 1) := by decide +kernel
theorem dX5_readsSubstance_47 : decode cX5_readsSubstance 47 = .ok (.aload_n 3, 1) := by decide +kernel
theorem dX5_readsSubstance_48 : decode cX5_readsSubstance 48 = .ok (.ifnull 22, 3) := by decide +kernel
theorem dX5_readsSubstance_51 : decode cX5_readsSubstance 51 = .ok (.aload_n 0, 1) := by decide +kernel
theorem dX5_readsSubstance_52 : decode cX5_readsSubstance 52 = .ok (.aload_n 3, 1) := by decide +kernel
theorem dX5_readsSubstance_53 : decode cX5_readsSubstance 53 = .ok (.invokevirtual 81, 3) := by decide +kernel
theorem dX5_readsSubstance_56 : decode cX5_readsSubstance 56 = .ok (.ifCond .eq 14, 3) := by decide +kernel
theorem dX5_readsSubstance_59 : decode cX5_readsSubstance 59 = .ok (.aload_n 0, 1) := by decide +kernel
theorem dX5_readsSubstance_60 : decode cX5_readsSubstance 60 = .ok (.invokevirtual 55, 3) := by decide +kernel
theorem dX5_readsSubstance_63 : decode cX5_readsSubstance 63 = .ok (.ifCond .eq 7, 3) := by decide +kernel
theorem dX5_readsSubstance_66 : decode cX5_readsSubstance 66 = .ok (.iconst 1, 1) := by decide +kernel
theorem dX5_readsSubstance_67 : decode cX5_readsSubstance 67 = .ok (.goto 4, 3) := by decide +kernel
theorem dX5_readsSubstance_70 : decode cX5_readsSubstance 70 = .ok (.iconst 0, 1) := by decide +kernel
theorem dX5_readsSubstance_71 : decode cX5_readsSubstance 71 = .ok (.ireturn, 1) := by decide +kernel
theorem dX5_readsPoints_0 : decode cX5_readsPoints 0 = .ok (.iconst 0, 1) := by decide +kernel
theorem dX5_readsPoints_1 : decode cX5_readsPoints 1 = .ok (.istore_n 2, 1) := by decide +kernel
theorem dX5_readsPoints_2 : decode cX5_readsPoints 2 = .ok (.iconst 0, 1) := by decide +kernel
theorem dX5_readsPoints_3 : decode cX5_readsPoints 3 = .ok (.istore_n 3, 1) := by decide +kernel
theorem dX5_readsPoints_4 : decode cX5_readsPoints 4 = .ok (.iconst 0, 1) := by decide +kernel
theorem dX5_readsPoints_5 : decode cX5_readsPoints 5 = .ok (.istore 4, 2) := by decide +kernel
theorem dX5_readsPoints_7 : decode cX5_readsPoints 7 = .ok (.iload 4, 2) := by decide +kernel
theorem dX5_readsPoints_9 : decode cX5_readsPoints 9 = .ok (.iconst 5, 1) := by decide +kernel
theorem dX5_readsPoints_10 : decode cX5_readsPoints 10 = .ok (.if_icmp .ge 80, 3) := by decide +kernel
theorem dX5_readsPoints_13 : decode cX5_readsPoints 13 = .ok (.iload 4, 2) := by decide +kernel
theorem dX5_readsPoints_15 : decode cX5_readsPoints 15 = .ok (.iconst 2, 1) := by decide +kernel
theorem dX5_readsPoints_16 : decode cX5_readsPoints 16 = .ok (.if_icmp .lt 16, 3) := by decide +kernel
theorem dX5_readsPoints_19 : decode cX5_readsPoints 19 = .ok (.aload_n 0, 1) := by decide +kernel
theorem dX5_readsPoints_20 : decode cX5_readsPoints 20 = .ok (.getfield 14, 3) := by decide +kernel
theorem dX5_readsPoints_23 : decode cX5_readsPoints 23 = .ok (.getfield 85, 3) := by decide +kernel
theorem dX5_readsPoints_26 : decode cX5_readsPoints 26 = .ok (.iconst 3, 1) := by decide +kernel
theorem dX5_readsPoints_27 : decode cX5_readsPoints 27 = .ok (.if_icmp .ne 5, 3) := by decide +kernel
theorem dX5_readsPoints_30 : decode cX5_readsPoints 30 = .ok (.iconst 1, 1) := by decide +kernel
theorem dX5_readsPoints_31 : decode cX5_readsPoints 31 = .ok (.ireturn, 1) := by decide +kernel
theorem dX5_readsPoints_32 : decode cX5_readsPoints 32 = .ok (.aload_n 0, 1) := by decide +kernel
theorem dX5_readsPoints_33 : decode cX5_readsPoints 33 = .ok (.iload_n 2, 1) := by decide +kernel
theorem dX5_readsPoints_34 : decode cX5_readsPoints 34 = .ok (.sipush 999, 3) := by decide +kernel
theorem dX5_readsPoints_37 : decode cX5_readsPoints 37 = .ok (.invokevirtual 42, 3) := by decide +kernel
theorem dX5_readsPoints_40 : decode cX5_readsPoints 40 = .ok (.ifCond .ne 5, 3) := by decide +kernel
theorem dX5_readsPoints_43 : decode cX5_readsPoints 43 = .ok (.iconst 0, 1) := by decide +kernel
theorem dX5_readsPoints_44 : decode cX5_readsPoints 44 = .ok (.ireturn, 1) := by decide +kernel
theorem dX5_readsPoints_45 : decode cX5_readsPoints 45 = .ok (.aload_n 0, 1) := by decide +kernel
theorem dX5_readsPoints_46 : decode cX5_readsPoints 46 = .ok (.getfield 46, 3) := by decide +kernel
theorem dX5_readsPoints_49 : decode cX5_readsPoints 49 = .ok (.istore 5, 2) := by decide +kernel
theorem dX5_readsPoints_51 : decode cX5_readsPoints 51 = .ok (.aload_n 0, 1) := by decide +kernel
theorem dX5_readsPoints_52 : decode cX5_readsPoints 52 = .ok (.iload_n 3, 1) := by decide +kernel
theorem dX5_readsPoints_53 : decode cX5_readsPoints 53 = .ok (.sipush 500, 3) := by decide +kernel
theorem dX5_readsPoints_56 : decode cX5_readsPoints 56 = .ok (.invokevirtual 42, 3) := by decide +kernel
theorem dX5_readsPoints_59 : decode cX5_readsPoints 59 = .ok (.ifCond .ne 5, 3) := by decide +kernel
theorem dX5_readsPoints_62 : decode cX5_readsPoints 62 = .ok (.iconst 0, 1) := by decide +kernel
theorem dX5_readsPoints_63 : decode cX5_readsPoints 63 = .ok (.ireturn, 1) := by decide +kernel
theorem dX5_readsPoints_64 : decode cX5_readsPoints 64 = .ok (.aload_n 1, 1) := by decide +kernel
theorem dX5_readsPoints_65 : decode cX5_readsPoints 65 = .ok (.iload 5, 2) := by decide +kernel
theorem dX5_readsPoints_67 : decode cX5_readsPoints 67 = .ok (.aload_n 0, 1) := by decide +kernel
theorem dX5_readsPoints_68 : decode cX5_readsPoints 68 = .ok (.getfield 46, 3) := by decide +kernel
theorem dX5_readsPoints_71 : decode cX5_readsPoints 71 = .ok (.invokevirtual 88, 3) := by decide +kernel
theorem dX5_readsPoints_74 : decode cX5_readsPoints 74 = .ok (.iload 5, 2) := by decide +kernel
theorem dX5_readsPoints_76 : decode cX5_readsPoints 76 = .ok (.iconst 1, 1) := by decide +kernel
theorem dX5_readsPoints_77 : decode cX5_readsPoints 77 = .ok (.iadd, 1) := by decide +kernel
theorem dX5_readsPoints_78 : decode cX5_readsPoints 78 = .ok (.istore_n 2, 1) := by decide +kernel
theorem dX5_readsPoints_79 : decode cX5_readsPoints 79 = .ok (.aload_n 0, 1) := by decide +kernel
theorem dX5_readsPoints_80 : decode cX5_readsPoints 80 = .ok (.getfield 46, 3) := by decide +kernel
theorem dX5_readsPoints_83 : decode cX5_readsPoints 83 = .ok (.istore_n 3, 1) := by decide +kernel
theorem dX5_readsPoints_84 : decode cX5_readsPoints 84 = .ok (.iinc 4 1, 3) := by decide +kernel
theorem dX5_readsPoints_87 : decode cX5_readsPoints 87 = .ok (.goto (-80), 3) := by decide +kernel
theorem dX5_readsPoints_90 : decode cX5_readsPoints 90 = .ok (.aload_n 0, 1) := by decide +kernel
theorem dX5_readsPoints_91 : decode cX5_readsPoints 91 = .ok (.getfield 14, 3) := by decide +kernel
theorem dX5_readsPoints_94 : decode cX5_readsPoints 94 = .ok (.getfield 85, 3) := by decide +kernel
theorem dX5_readsPoints_97 : decode cX5_readsPoints 97 = .ok (.iconst 3, 1) := by decide +kernel
theorem dX5_readsPoints_98 : decode cX5_readsPoints 98 = .ok (.if_icmp .eq 22, 3) := by decide +kernel
theorem dX5_readsPoints_101 : decode cX5_readsPoints 101 = .ok (.aload_n 0, 1) := by decide +kernel
theorem dX5_readsPoints_102 : decode cX5_readsPoints 102 = .ok (.iload_n 2, 1) := by decide +kernel
theorem dX5_readsPoints_103 : decode cX5_readsPoints 103 = .ok (.sipush 999, 3) := by decide +kernel
theorem dX5_readsPoints_106 : decode cX5_readsPoints 106 = .ok (.invokevirtual 93, 3) := by decide +kernel
theorem dX5_readsPoints_109 : decode cX5_readsPoints 109 = .ok (.ifCond .eq 15, 3) := by decide +kernel
theorem dX5_readsPoints_112 : decode cX5_readsPoints 112 = .ok (.aload_n 0, 1) := by decide +kernel
theorem dX5_readsPoints_113 : decode cX5_readsPoints 113 = .ok (.iconst 3, 1) := by decide +kernel
theorem dX5_readsPoints_114 : decode cX5_readsPoints 114 = .ok (.invokevirtual 73, 3) := by decide +kernel
theorem dX5_readsPoints_117 : decode cX5_readsPoints 117 = .ok (.ifCond .eq 7, 3) := by decide +kernel
theorem dX5_readsPoints_120 : decode cX5_readsPoints 120 = .ok (.iconst 1, 1) := by decide +kernel
theorem dX5_readsPoints_121 : decode cX5_readsPoints 121 = .ok (.goto 4, 3) := by decide +kernel
theorem dX5_readsPoints_124 : decode cX5_readsPoints 124 = .ok (.iconst 0, 1) := by decide +kernel
theorem dX5_readsPoints_125 : decode cX5_readsPoints 125 = .ok (.ireturn, 1) := by decide +kernel
theorem dX5_readsStations_0 : decode cX5_readsStations 0 = .ok (.iconst 0, 1) := by decide +kernel
theorem dX5_readsStations_1 : decode cX5_readsStations 1 = .ok (.istore_n 2, 1) := by decide +kernel
theorem dX5_readsStations_2 : decode cX5_readsStations 2 = .ok (.iload_n 2, 1) := by decide +kernel
theorem dX5_readsStations_3 : decode cX5_readsStations 3 = .ok (.iconst 4, 1) := by decide +kernel
theorem dX5_readsStations_4 : decode cX5_readsStations 4 = .ok (.if_icmp .ge 64, 3) := by decide +kernel
theorem dX5_readsStations_7 : decode cX5_readsStations 7 = .ok (.iload_n 2, 1) := by decide +kernel
theorem dX5_readsStations_8 : decode cX5_readsStations 8 = .ok (.ifCond .le 17, 3) := by decide +kernel
theorem dX5_readsStations_11 : decode cX5_readsStations 11 = .ok (.aload_n 0, 1) := by decide +kernel
theorem dX5_readsStations_12 : decode cX5_readsStations 12 = .ok (.getfield 14, 3) := by decide +kernel
theorem dX5_readsStations_15 : decode cX5_readsStations 15 = .ok (.ldc 96, 2) := by decide +kernel
theorem dX5_readsStations_17 : decode cX5_readsStations 17 = .ok (.invokevirtual 66, 3) := by decide +kernel
theorem dX5_readsStations_20 : decode cX5_readsStations 20 = .ok (.ifCond .ne 5, 3) := by decide +kernel
theorem dX5_readsStations_23 : decode cX5_readsStations 23 = .ok (.iconst 1, 1) := by decide +kernel
theorem dX5_readsStations_24 : decode cX5_readsStations 24 = .ok (.ireturn, 1) := by decide +kernel
theorem dX5_readsStations_25 : decode cX5_readsStations 25 = .ok (.aload_n 0, 1) := by decide +kernel
theorem dX5_readsStations_26 : decode cX5_readsStations 26 = .ok (.ldc 96, 2) := by decide +kernel
theorem dX5_readsStations_28 : decode cX5_readsStations 28 = .ok (.invokevirtual 38, 3) := by decide +kernel
theorem dX5_readsStations_31 : decode cX5_readsStations 31 = .ok (.ifCond .eq 12, 3) := by decide +kernel
theorem dX5_readsStations_34 : decode cX5_readsStations 34 = .ok (.aload_n 0, 1) := by decide +kernel
theorem dX5_readsStations_35 : decode cX5_readsStations 35 = .ok (.iconst 0, 1) := by decide +kernel
theorem dX5_readsStations_36 : decode cX5_readsStations 36 = .ok (.iconst 2, 1) := by decide +kernel
theorem dX5_readsStations_37 : decode cX5_readsStations 37 = .ok (.invokevirtual 42, 3) := by decide +kernel
theorem dX5_readsStations_40 : decode cX5_readsStations 40 = .ok (.ifCond .ne 5, 3) := by decide +kernel
theorem dX5_readsStations_43 : decode cX5_readsStations 43 = .ok (.iconst 0, 1) := by decide +kernel
theorem dX5_readsStations_44 : decode cX5_readsStations 44 = .ok (.ireturn, 1) := by decide +kernel
theorem dX5_readsStations_45 : decode cX5_readsStations 45 = .ok (.aload_n 1, 1) := by decide +kernel
theorem dX5_readsStations_46 : decode cX5_readsStations 46 = .ok (.aload_n 0, 1) := by decide +kernel
theorem dX5_readsStations_47 : decode cX5_readsStations 47 = .ok (.getfield 46, 3) := by decide +kernel
theorem dX5_readsStations_50 : decode cX5_readsStations 50 = .ok (.invokevirtual 98, 3) := by decide +kernel
theorem dX5_readsStations_53 : decode cX5_readsStations 53 = .ok (.aload_n 0, 1) := by decide +kernel
theorem dX5_readsStations_54 : decode cX5_readsStations 54 = .ok (.invokevirtual 55, 3) := by decide +kernel
theorem dX5_readsStations_57 : decode cX5_readsStations 57 = .ok (.ifCond .ne 5, 3) := by decide +kernel
theorem dX5_readsStations_60 : decode cX5_readsStations 60 = .ok (.iconst 0, 1) := by decide +kernel
theorem dX5_readsStations_61 : decode cX5_readsStations 61 = .ok (.ireturn, 1) := by decide +kernel
theorem dX5_readsStations_62 : decode cX5_readsStations 62 = .ok (.iinc 2 1, 3) := by decide +kernel
theorem dX5_readsStations_65 : decode cX5_readsStations 65 = .ok (.goto (-63), 3) := by decide +kernel
theorem dX5_readsStations_68 : decode cX5_readsStations 68 = .ok (.aload_n 0, 1) := by decide +kernel
theorem dX5_readsStations_69 : decode cX5_readsStations 69 = .ok (.getfield 14, 3) := by decide +kernel
theorem dX5_readsStations_72 : decode cX5_readsStations 72 = .ok (.ldc 96, 2) := by decide +kernel
theorem dX5_readsStations_74 : decode cX5_readsStations 74 = .ok (.invokevirtual 66, 3) := by decide +kernel
theorem dX5_readsStations_77 : decode cX5_readsStations 77 = .ok (.ifCond .eq 11, 3) := by decide +kernel
theorem dX5_readsStations_80 : decode cX5_readsStations 80 = .ok (.aload_n 0, 1) := by decide +kernel
theorem dX5_readsStations_81 : decode cX5_readsStations 81 = .ok (.iconst 3, 1) := by decide +kernel
theorem dX5_readsStations_82 : decode cX5_readsStations 82 = .ok (.invokevirtual 73, 3) := by decide +kernel
theorem dX5_readsStations_85 : decode cX5_readsStations 85 = .ok (.ifCond .eq 7, 3) := by decide +kernel
theorem dX5_readsStations_88 : decode cX5_readsStations 88 = .ok (.iconst 1, 1) := by decide +kernel
theorem dX5_readsStations_89 : decode cX5_readsStations 89 = .ok (.goto 4, 3) := by decide +kernel
theorem dX5_readsStations_92 : decode cX5_readsStations 92 = .ok (.iconst 0, 1) := by decide +kernel
theorem dX5_readsStations_93 : decode cX5_readsStations 93 = .ok (.ireturn, 1) := by decide +kernel
theorem dX5_readsAllSeries_0 : decode cX5_readsAllSeries 0 = .ok (.iconst 0, 1) := by decide +kernel
theorem dX5_readsAllSeries_1 : decode cX5_readsAllSeries 1 = .ok (.istore_n 2, 1) := by decide +kernel
theorem dX5_readsAllSeries_2 : decode cX5_readsAllSeries 2 = .ok (.iload_n 2, 1) := by decide +kernel
theorem dX5_readsAllSeries_3 : decode cX5_readsAllSeries 3 = .ok (.bipush 12, 2) := by decide +kernel
theorem dX5_readsAllSeries_5 : decode cX5_readsAllSeries 5 = .ok (.if_icmp .ge 32, 3) := by decide +kernel
theorem dX5_readsAllSeries_8 : decode cX5_readsAllSeries 8 = .ok (.aload_n 0, 1) := by decide +kernel
theorem dX5_readsAllSeries_9 : decode cX5_readsAllSeries 9 = .ok (.getfield 14, 3) := by decide +kernel
theorem dX5_readsAllSeries_12 : decode cX5_readsAllSeries 12 = .ok (.getfield 85, 3) := by decide +kernel
theorem dX5_readsAllSeries_15 : decode cX5_readsAllSeries 15 = .ok (.iconst 4, 1) := by decide +kernel
theorem dX5_readsAllSeries_16 : decode cX5_readsAllSeries 16 = .ok (.if_icmp .ne 5, 3) := by decide +kernel
theorem dX5_readsAllSeries_19 : decode cX5_readsAllSeries 19 = .ok (.iconst 1, 1) := by decide +kernel
theorem dX5_readsAllSeries_20 : decode cX5_readsAllSeries 20 = .ok (.ireturn, 1) := by decide +kernel
theorem dX5_readsAllSeries_21 : decode cX5_readsAllSeries 21 = .ok (.aload_n 0, 1) := by decide +kernel
theorem dX5_readsAllSeries_22 : decode cX5_readsAllSeries 22 = .ok (.aload_n 1, 1) := by decide +kernel
theorem dX5_readsAllSeries_23 : decode cX5_readsAllSeries 23 = .ok (.invokevirtual 102, 3) := by decide +kernel
theorem dX5_readsAllSeries_26 : decode cX5_readsAllSeries 26 = .ok (.ifCond .ne 5, 3) := by decide +kernel
theorem dX5_readsAllSeries_29 : decode cX5_readsAllSeries 29 = .ok (.iconst 0, 1) := by decide +kernel
theorem dX5_readsAllSeries_30 : decode cX5_readsAllSeries 30 = .ok (.ireturn, 1) := by decide +kernel
theorem dX5_readsAllSeries_31 : decode cX5_readsAllSeries 31 = .ok (.iinc 2 1, 3) := by decide +kernel
theorem dX5_readsAllSeries_34 : decode cX5_readsAllSeries 34 = .ok (.goto (-32), 3) := by decide +kernel
theorem dX5_readsAllSeries_37 : decode cX5_readsAllSeries 37 = .ok (.aload_n 0, 1) := by decide +kernel
theorem dX5_readsAllSeries_38 : decode cX5_readsAllSeries 38 = .ok (.getfield 14, 3) := by decide +kernel
theorem dX5_readsAllSeries_41 : decode cX5_readsAllSeries 41 = .ok (.getfield 85, 3) := by decide +kernel
theorem dX5_readsAllSeries_44 : decode cX5_readsAllSeries 44 = .ok (.iconst 4, 1) := by decide +kernel
theorem dX5_readsAllSeries_45 : decode cX5_readsAllSeries 45 = .ok (.if_icmp .eq 11, 3) := by decide +kernel
theorem dX5_readsAllSeries_48 : decode cX5_readsAllSeries 48 = .ok (.aload_n 0, 1) := by decide +kernel
theorem dX5_readsAllSeries_49 : decode cX5_readsAllSeries 49 = .ok (.aload_n 1, 1) := by decide +kernel
theorem dX5_readsAllSeries_50 : decode cX5_readsAllSeries 50 = .ok (.invokevirtual 102, 3) := by decide +kernel
theorem dX5_readsAllSeries_53 : decode cX5_readsAllSeries 53 = .ok (.ifCond .eq 7, 3) := by decide +kernel
theorem dX5_readsAllSeries_56 : decode cX5_readsAllSeries 56 = .ok (.iconst 1, 1) := by decide +kernel
theorem dX5_readsAllSeries_57 : decode cX5_readsAllSeries 57 = .ok (.goto 4, 3) := by decide +kernel
theorem dX5_readsAllSeries_60 : decode cX5_readsAllSeries 60 = .ok (.iconst 0, 1) := by decide +kernel
theorem dX5_readsAllSeries_61 : decode cX5_readsAllSeries 61 = .ok (.ireturn, 1) := by decide +kernel
theorem dX5_readsSeries_0 : decode cX5_readsSeries 0 = .ok (.aload_n 0, 1) := by decide +kernel
theorem dX5_readsSeries_1 : decode cX5_readsSeries 1 = .ok (.ldc 105, 2) := by decide +kernel
theorem dX5_readsSeries_3 : decode cX5_readsSeries 3 = .ok (.invokevirtual 38, 3) := by decide +kernel
theorem dX5_readsSeries_6 : decode cX5_readsSeries 6 = .ok (.ifCond .eq 17, 3) := by decide +kernel
theorem dX5_readsSeries_9 : decode cX5_readsSeries 9 = .ok (.aload_n 0, 1) := by decide +kernel
theorem dX5_readsSeries_10 : decode cX5_readsSeries 10 = .ok (.iconst 0, 1) := by decide +kernel
theorem dX5_readsSeries_11 : decode cX5_readsSeries 11 = .ok (.aload_n 1, 1) := by decide +kernel
theorem dX5_readsSeries_12 : decode cX5_readsSeries 12 = .ok (.getfield 107, 3) := by decide +kernel
theorem dX5_readsSeries_15 : decode cX5_readsSeries 15 = .ok (.iconst 1, 1) := by decide +kernel
theorem dX5_readsSeries_16 : decode cX5_readsSeries 16 = .ok (.isub, 1) := by decide +kernel
theorem dX5_readsSeries_17 : decode cX5_readsSeries 17 = .ok (.invokevirtual 42, 3) := by decide +kernel
theorem dX5_readsSeries_20 : decode cX5_readsSeries 20 = .ok (.ifCond .ne 5, 3) := by decide +kernel
theorem dX5_readsSeries_23 : decode cX5_readsSeries 23 = .ok (.iconst 0, 1) := by decide +kernel
theorem dX5_readsSeries_24 : decode cX5_readsSeries 24 = .ok (.ireturn, 1) := by decide +kernel
theorem dX5_readsSeries_25 : decode cX5_readsSeries 25 = .ok (.aload_n 0, 1) := by decide +kernel
theorem dX5_readsSeries_26 : decode cX5_readsSeries 26 = .ok (.getfield 46, 3) := by decide +kernel
theorem dX5_readsSeries_29 : decode cX5_readsSeries 29 = .ok (.istore_n 2, 1) := by decide +kernel
theorem dX5_readsSeries_30 : decode cX5_readsSeries 30 = .ok (.aload_n 0, 1) := by decide +kernel
theorem dX5_readsSeries_31 : decode cX5_readsSeries 31 = .ok (.iconst 0, 1) := by decide +kernel
theorem dX5_readsSeries_32 : decode cX5_readsSeries 32 = .ok (.aload_n 1, 1) := by decide +kernel
theorem dX5_readsSeries_33 : decode cX5_readsSeries 33 = .ok (.getfield 110, 3) := by decide +kernel
theorem dX5_readsSeries_36 : decode cX5_readsSeries 36 = .ok (.iconst 1, 1) := by decide +kernel
theorem dX5_readsSeries_37 : decode cX5_readsSeries 37 = .ok (.isub, 1) := by decide +kernel
theorem dX5_readsSeries_38 : decode cX5_readsSeries 38 = .ok (.invokevirtual 93, 3) := by decide +kernel
theorem dX5_readsSeries_41 : decode cX5_readsSeries 41 = .ok (.ifCond .ne 5, 3) := by decide +kernel
theorem dX5_readsSeries_44 : decode cX5_readsSeries 44 = .ok (.iconst 0, 1) := by decide +kernel
theorem dX5_readsSeries_45 : decode cX5_readsSeries 45 = .ok (.ireturn, 1) := by decide +kernel
theorem dX5_readsSeries_46 : decode cX5_readsSeries 46 = .ok (.aload_n 0, 1) := by decide +kernel
theorem dX5_readsSeries_47 : decode cX5_readsSeries 47 = .ok (.getfield 14, 3) := by decide +kernel
theorem dX5_readsSeries_50 : decode cX5_readsSeries 50 = .ok (.getfield 113, 3) := by decide +kernel
theorem dX5_readsSeries_53 : decode cX5_readsSeries 53 = .ok (.istore_n 3, 1) := by decide +kernel
theorem dX5_readsSeries_54 : decode cX5_readsSeries 54 = .ok (.iconst 1, 1) := by decide +kernel
theorem dX5_readsSeries_55 : decode cX5_readsSeries 55 = .ok (.iload_n 2, 1) := by decide +kernel
theorem dX5_readsSeries_56 : decode cX5_readsSeries 56 = .ok (.iconst 3, 1) := by decide +kernel
theorem dX5_readsSeries_57 : decode cX5_readsSeries 57 = .ok (.imul, 1) := by decide +kernel
theorem dX5_readsSeries_58 : decode cX5_readsSeries 58 = .ok (.iload_n 3, 1) := by decide +kernel
theorem dX5_readsSeries_59 : decode cX5_readsSeries 59 = .ok (.iadd, 1) := by decide +kernel
theorem dX5_readsSeries_60 : decode cX5_readsSeries 60 = .ok (.ishl, 1) := by decide +kernel
theorem dX5_readsSeries_61 : decode cX5_readsSeries 61 = .ok (.istore 4, 2) := by decide +kernel
theorem dX5_readsSeries_63 : decode cX5_readsSeries 63 = .ok (.aload_n 0, 1) := by decide +kernel
theorem dX5_readsSeries_64 : decode cX5_readsSeries 64 = .ok (.getfield 30, 3) := by decide +kernel
theorem dX5_readsSeries_67 : decode cX5_readsSeries 67 = .ok (.iload 4, 2) := by decide +kernel
theorem dX5_readsSeries_69 : decode cX5_readsSeries 69 = .ok (.iand, 1) := by decide +kernel
theorem dX5_readsSeries_70 : decode cX5_readsSeries 70 = .ok (.ifCond .eq 9, 3) := by decide +kernel
theorem dX5_readsSeries_73 : decode cX5_readsSeries 73 = .ok (.aload_n 0, 1) := by decide +kernel
theorem dX5_readsSeries_74 : decode cX5_readsSeries 74 = .ok (.iconst 2, 1) := by decide +kernel
theorem dX5_readsSeries_75 : decode cX5_readsSeries 75 = .ok (.invokevirtual 73, 3) := by decide +kernel
theorem dX5_readsSeries_78 : decode cX5_readsSeries 78 = .ok (.ireturn, 1) := by decide +kernel
theorem dX5_readsSeries_79 : decode cX5_readsSeries 79 = .ok (.aload_n 0, 1) := by decide +kernel
theorem dX5_readsSeries_80 : decode cX5_readsSeries 80 = .ok (.dup, 1) := by decide +kernel
theorem dX5_readsSeries_81 : decode cX5_readsSeries 81 = .ok (.getfield 30, 3) := by decide +kernel
theorem dX5_readsSeries_84 : decode cX5_readsSeries 84 = .ok (.iload 4, 2) := by decide +kernel
theorem dX5_readsSeries_86 : decode cX5_readsSeries 86 = .ok (.ior, 1) := by decide +kernel
theorem dX5_readsSeries_87 : decode cX5_readsSeries 87 = .ok (.putfield 30, 3) := by decide +kernel
theorem dX5_readsSeries_90 : decode cX5_readsSeries 90 = .ok (.aload_n 0, 1) := by decide +kernel
theorem dX5_readsSeries_91 : decode cX5_readsSeries 91 = .ok (.getfield 14, 3) := by decide +kernel
theorem dX5_readsSeries_94 : decode cX5_readsSeries 94 = .ok (.invokevirtual 116, 3) := by decide +kernel
theorem dX5_readsSeries_97 : decode cX5_readsSeries 97 = .ok (.aload_n 0, 1) := by decide +kernel
theorem dX5_readsSeries_98 : decode cX5_readsSeries 98 = .ok (.aload_n 1, 1) := by decide +kernel
theorem dX5_readsSeries_99 : decode cX5_readsSeries 99 = .ok (.iload_n 2, 1) := by decide +kernel
theorem dX5_readsSeries_100 : decode cX5_readsSeries 100 = .ok (.iload_n 3, 1) := by decide +kernel
theorem dX5_readsSeries_101 : decode cX5_readsSeries 101 = .ok (.invokevirtual 119, 3) := by decide +kernel
theorem dX5_readsSeries_104 : decode cX5_readsSeries 104 = .ok (.ifCond .eq 14, 3) := by decide +kernel
theorem dX5_readsSeries_107 : decode cX5_readsSeries 107 = .ok (.aload_n 0, 1) := by decide +kernel
theorem dX5_readsSeries_108 : decode cX5_readsSeries 108 = .ok (.invokevirtual 55, 3) := by decide +kernel
theorem dX5_readsSeries_111 : decode cX5_readsSeries 111 = .ok (.ifCond .eq 7, 3) := by decide +kernel
theorem dX5_readsSeries_114 : decode cX5_readsSeries 114 = .ok (.iconst 1, 1) := by decide +kernel
theorem dX5_readsSeries_115 : decode cX5_readsSeries 115 = .ok (.goto 4, 3) := by decide +kernel
theorem dX5_readsSeries_118 : decode cX5_readsSeries 118 = .ok (.iconst 0, 1) := by decide +kernel
theorem dX5_readsSeries_119 : decode cX5_readsSeries 119 = .ok (.ireturn, 1) := by decide +kernel
theorem dX5_readsReads_0 : decode cX5_readsReads 0 = .ok (.iconst 0, 1) := by decide +kernel
theorem dX5_readsReads_1 : decode cX5_readsReads 1 = .ok (.istore 4, 2) := by decide +kernel
theorem dX5_readsReads_3 : decode cX5_readsReads 3 = .ok (.iload 4, 2) := by decide +kernel
theorem dX5_readsReads_5 : decode cX5_readsReads 5 = .ok (.bipush 24, 2) := by decide +kernel
theorem dX5_readsReads_7 : decode cX5_readsReads 7 = .ok (.if_icmp .ge 88, 3) := by decide +kernel
theorem dX5_readsReads_10 : decode cX5_readsReads 10 = .ok (.iload 4, 2) := by decide +kernel
theorem dX5_readsReads_12 : decode cX5_readsReads 12 = .ok (.ifCond .le 16, 3) := by decide +kernel
theorem dX5_readsReads_15 : decode cX5_readsReads 15 = .ok (.aload_n 0, 1) := by decide +kernel
theorem dX5_readsReads_16 : decode cX5_readsReads 16 = .ok (.getfield 14, 3) := by decide +kernel
theorem dX5_readsReads_19 : decode cX5_readsReads 19 = .ok (.getfield 85, 3) := by decide +kernel
theorem dX5_readsReads_22 : decode cX5_readsReads 22 = .ok (.iconst 3, 1) := by decide +kernel
theorem dX5_readsReads_23 : decode cX5_readsReads 23 = .ok (.if_icmp .ne 5, 3) := by decide +kernel
theorem dX5_readsReads_26 : decode cX5_readsReads 26 = .ok (.iconst 1, 1) := by decide +kernel
theorem dX5_readsReads_27 : decode cX5_readsReads 27 = .ok (.ireturn, 1) := by decide +kernel
theorem dX5_readsReads_28 : decode cX5_readsReads 28 = .ok (.aload_n 0, 1) := by decide +kernel
theorem dX5_readsReads_29 : decode cX5_readsReads 29 = .ok (.invokevirtual 123, 3) := by decide +kernel
theorem dX5_readsReads_32 : decode cX5_readsReads 32 = .ok (.ifCond .ne 5, 3) := by decide +kernel
theorem dX5_readsReads_35 : decode cX5_readsReads 35 = .ok (.iconst 0, 1) := by decide +kernel
theorem dX5_readsReads_36 : decode cX5_readsReads 36 = .ok (.ireturn, 1) := by decide +kernel
theorem dX5_readsReads_37 : decode cX5_readsReads 37 = .ok (.aload_n 1, 1) := by decide +kernel
theorem dX5_readsReads_38 : decode cX5_readsReads 38 = .ok (.aload_n 1, 1) := by decide +kernel
theorem dX5_readsReads_39 : decode cX5_readsReads 39 = .ok (.getfield 126, 3) := by decide +kernel
theorem dX5_readsReads_42 : decode cX5_readsReads 42 = .ok (.iload 4, 2) := by decide +kernel
theorem dX5_readsReads_44 : decode cX5_readsReads 44 = .ok (.iconst 1, 1) := by decide +kernel
theorem dX5_readsReads_45 : decode cX5_readsReads 45 = .ok (.iadd, 1) := by decide +kernel
theorem dX5_readsReads_46 : decode cX5_readsReads 46 = .ok (.invokestatic 129, 3) := by decide +kernel
theorem dX5_readsReads_49 : decode cX5_readsReads 49 = .ok (.putfield 126, 3) := by decide +kernel
theorem dX5_readsReads_52 : decode cX5_readsReads 52 = .ok (.aload_n 1, 1) := by decide +kernel
theorem dX5_readsReads_53 : decode cX5_readsReads 53 = .ok (.iload_n 2, 1) := by decide +kernel
theorem dX5_readsReads_54 : decode cX5_readsReads 54 = .ok (.iload_n 3, 1) := by decide +kernel
theorem dX5_readsReads_55 : decode cX5_readsReads 55 = .ok (.iload 4, 2) := by decide +kernel
theorem dX5_readsReads_57 : decode cX5_readsReads 57 = .ok (.aload_n 0, 1) := by decide +kernel
theorem dX5_readsReads_58 : decode cX5_readsReads 58 = .ok (.getfield 14, 3) := by decide +kernel
theorem dX5_readsReads_61 : decode cX5_readsReads 61 = .ok (.getfield 85, 3) := by decide +kernel
theorem dX5_readsReads_64 : decode cX5_readsReads 64 = .ok (.iconst 2, 1) := by decide +kernel
theorem dX5_readsReads_65 : decode cX5_readsReads 65 = .ok (.if_icmp .ne 13, 3) := by decide +kernel
theorem dX5_readsReads_68 : decode cX5_readsReads 68 = .ok (.aload_n 0, 1) := by decide +kernel
theorem dX5_readsReads_69 : decode cX5_readsReads 69 = .ok (.getfield 14, 3) := by decide +kernel
theorem dX5_readsReads_72 : decode cX5_readsReads 72 = .ok (.getfield 113, 3) := by decide +kernel
theorem dX5_readsReads_75 : decode cX5_readsReads 75 = .ok (.goto 4, 3) := by decide +kernel
theorem dX5_readsReads_78 : decode cX5_readsReads 78 = .ok (.iconst (-1), 1) := by decide +kernel
theorem dX5_readsReads_79 : decode cX5_readsReads 79 = .ok (.invokevirtual 135, 3) := by decide +kernel
theorem dX5_readsReads_82 : decode cX5_readsReads 82 = .ok (.aload_n 0, 1) := by decide +kernel
theorem dX5_readsReads_83 : decode cX5_readsReads 83 = .ok (.getfield 14, 3) := by decide +kernel
theorem dX5_readsReads_86 : decode cX5_readsReads 86 = .ok (.invokevirtual 116, 3) := by decide +kernel
theorem dX5_readsReads_89 : decode cX5_readsReads 89 = .ok (.iinc 4 1, 3) := by decide +kernel
theorem dX5_readsReads_92 : decode cX5_readsReads 92 = .ok (.goto (-89), 3) := by decide +kernel
theorem dX5_readsReads_95 : decode cX5_readsReads 95 = .ok (.aload_n 0, 1) := by decide +kernel
theorem dX5_readsReads_96 : decode cX5_readsReads 96 = .ok (.getfield 14, 3) := by decide +kernel
theorem dX5_readsReads_99 : decode cX5_readsReads 99 = .ok (.getfield 85, 3) := by decide +kernel
theorem dX5_readsReads_102 : decode cX5_readsReads 102 = .ok (.iconst 3, 1) := by decide +kernel
theorem dX5_readsReads_103 : decode cX5_readsReads 103 = .ok (.if_icmp .eq 18, 3) := by decide +kernel
theorem dX5_readsReads_106 : decode cX5_readsReads 106 = .ok (.aload_n 0, 1) := by decide +kernel
theorem dX5_readsReads_107 : decode cX5_readsReads 107 = .ok (.invokevirtual 123, 3) := by decide +kernel
theorem dX5_readsReads_110 : decode cX5_readsReads 110 = .ok (.ifCond .eq 15, 3) := by decide +kernel
theorem dX5_readsReads_113 : decode cX5_readsReads 113 = .ok (.aload_n 0, 1) := by decide +kernel
theorem dX5_readsReads_114 : decode cX5_readsReads 114 = .ok (.iconst 3, 1) := by decide +kernel
theorem dX5_readsReads_115 : decode cX5_readsReads 115 = .ok (.invokevirtual 73, 3) := by decide +kernel
theorem dX5_readsReads_118 : decode cX5_readsReads 118 = .ok (.ifCond .eq 7, 3) := by decide +kernel
theorem dX5_readsReads_121 : decode cX5_readsReads 121 = .ok (.iconst 1, 1) := by decide +kernel
theorem dX5_readsReads_122 : decode cX5_readsReads 122 = .ok (.goto 4, 3) := by decide +kernel
theorem dX5_readsReads_125 : decode cX5_readsReads 125 = .ok (.iconst 0, 1) := by decide +kernel
theorem dX5_readsReads_126 : decode cX5_readsReads 126 = .ok (.ireturn, 1) := by decide +kernel
theorem dX5_isRead_0 : decode cX5_isRead 0 = .ok (.aload_n 0, 1) := by decide +kernel
theorem dX5_isRead_1 : decode cX5_isRead 1 = .ok (.getfield 14, 3) := by decide +kernel
theorem dX5_isRead_4 : decode cX5_isRead 4 = .ok (.ldc 139, 2) := by decide +kernel
theorem dX5_isRead_6 : decode cX5_isRead 6 = .ok (.invokevirtual 66, 3) := by decide +kernel
theorem dX5_isRead_9 : decode cX5_isRead 9 = .ok (.ifCond .ne 14, 3) := by decide +kernel
theorem dX5_isRead_12 : decode cX5_isRead 12 = .ok (.aload_n 0, 1) := by decide +kernel
theorem dX5_isRead_13 : decode cX5_isRead 13 = .ok (.iconst 0, 1) := by decide +kernel
theorem dX5_isRead_14 : decode cX5_isRead 14 = .ok (.sipush 999, 3) := by decide +kernel
theorem dX5_isRead_17 : decode cX5_isRead 17 = .ok (.invokevirtual 93, 3) := by decide +kernel
theorem dX5_isRead_20 : decode cX5_isRead 20 = .ok (.ifCond .eq 7, 3) := by decide +kernel
theorem dX5_isRead_23 : decode cX5_isRead 23 = .ok (.iconst 1, 1) := by decide +kernel
theorem dX5_isRead_24 : decode cX5_isRead 24 = .ok (.goto 4, 3) := by decide +kernel
theorem dX5_isRead_27 : decode cX5_isRead 27 = .ok (.iconst 0, 1) := by decide +kernel
theorem dX5_isRead_28 : decode cX5_isRead 28 = .ok (.ireturn, 1) := by decide +kernel
theorem dX5_takesWord_0 : decode cX5_takesWord 0 = .ok (.aload_n 0, 1) := by decide +kernel
theorem dX5_takesWord_1 : decode cX5_takesWord 1 = .ok (.getfield 14, 3) := by decide +kernel
theorem dX5_takesWord_4 : decode cX5_takesWord 4 = .ok (.aload_n 1, 1) := by decide +kernel
theorem dX5_takesWord_5 : decode cX5_takesWord 5 = .ok (.invokevirtual 66, 3) := by decide +kernel
theorem dX5_takesWord_8 : decode cX5_takesWord 8 = .ok (.ifCond .ne 9, 3) := by decide +kernel
theorem dX5_takesWord_11 : decode cX5_takesWord 11 = .ok (.aload_n 0, 1) := by decide +kernel
theorem dX5_takesWord_12 : decode cX5_takesWord 12 = .ok (.iconst 1, 1) := by decide +kernel
theorem dX5_takesWord_13 : decode cX5_takesWord 13 = .ok (.invokevirtual 73, 3) := by decide +kernel
theorem dX5_takesWord_16 : decode cX5_takesWord 16 = .ok (.ireturn, 1) := by decide +kernel
theorem dX5_takesWord_17 : decode cX5_takesWord 17 = .ok (.aload_n 0, 1) := by decide +kernel
theorem dX5_takesWord_18 : decode cX5_takesWord 18 = .ok (.getfield 14, 3) := by decide +kernel
theorem dX5_takesWord_21 : decode cX5_takesWord 21 = .ok (.invokevirtual 116, 3) := by decide +kernel
theorem dX5_takesWord_24 : decode cX5_takesWord 24 = .ok (.iconst 1, 1) := by decide +kernel
theorem dX5_takesWord_25 : decode cX5_takesWord 25 = .ok (.ireturn, 1) := by decide +kernel
theorem dX5_takesNumber_0 : decode cX5_takesNumber 0 = .ok (.aload_n 0, 1) := by decide +kernel
theorem dX5_takesNumber_1 : decode cX5_takesNumber 1 = .ok (.iload_n 1, 1) := by decide +kernel
theorem dX5_takesNumber_2 : decode cX5_takesNumber 2 = .ok (.iload_n 2, 1) := by decide +kernel
theorem dX5_takesNumber_3 : decode cX5_takesNumber 3 = .ok (.invokevirtual 93, 3) := by decide +kernel
theorem dX5_takesNumber_6 : decode cX5_takesNumber 6 = .ok (.ifCond .ne 5, 3) := by decide +kernel
theorem dX5_takesNumber_9 : decode cX5_takesNumber 9 = .ok (.iconst 0, 1) := by decide +kernel
theorem dX5_takesNumber_10 : decode cX5_takesNumber 10 = .ok (.ireturn, 1) := by decide +kernel
theorem dX5_takesNumber_11 : decode cX5_takesNumber 11 = .ok (.aload_n 0, 1) := by decide +kernel
theorem dX5_takesNumber_12 : decode cX5_takesNumber 12 = .ok (.aload_n 0, 1) := by decide +kernel
theorem dX5_takesNumber_13 : decode cX5_takesNumber 13 = .ok (.getfield 14, 3) := by decide +kernel
theorem dX5_takesNumber_16 : decode cX5_takesNumber 16 = .ok (.getfield 113, 3) := by decide +kernel
theorem dX5_takesNumber_19 : decode cX5_takesNumber 19 = .ok (.putfield 46, 3) := by decide +kernel
theorem dX5_takesNumber_22 : decode cX5_takesNumber 22 = .ok (.aload_n 0, 1) := by decide +kernel
theorem dX5_takesNumber_23 : decode cX5_takesNumber 23 = .ok (.getfield 14, 3) := by decide +kernel
theorem dX5_takesNumber_26 : decode cX5_takesNumber 26 = .ok (.invokevirtual 116, 3) := by decide +kernel
theorem dX5_takesNumber_29 : decode cX5_takesNumber 29 = .ok (.iconst 1, 1) := by decide +kernel
theorem dX5_takesNumber_30 : decode cX5_takesNumber 30 = .ok (.ireturn, 1) := by decide +kernel
theorem dX5_isNumberWithin_0 : decode cX5_isNumberWithin 0 = .ok (.aload_n 0, 1) := by decide +kernel
theorem dX5_isNumberWithin_1 : decode cX5_isNumberWithin 1 = .ok (.getfield 14, 3) := by decide +kernel
theorem dX5_isNumberWithin_4 : decode cX5_isNumberWithin 4 = .ok (.getfield 85, 3) := by decide +kernel
theorem dX5_isNumberWithin_7 : decode cX5_isNumberWithin 7 = .ok (.iconst 2, 1) := by decide +kernel
theorem dX5_isNumberWithin_8 : decode cX5_isNumberWithin 8 = .ok (.if_icmp .eq 9, 3) := by decide +kernel
