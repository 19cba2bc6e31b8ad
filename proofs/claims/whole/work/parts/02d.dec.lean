theorem dX6_watch_32 : decode cX6_watch 32 = .ok (.iload_n 1, 1) := by decide +kernel
theorem dX6_watch_33 : decode cX6_watch 33 = .ok (.invokevirtual 272, 3) := by decide +kernel
theorem dX6_watch_36 : decode cX6_watch 36 = .ok (.ireturn, 1) := by decide +kernel
theorem dX6_feel_0 : decode cX6_feel 0 = .ok (.iload_n 1, 1) := by decide +kernel
theorem dX6_feel_1 : decode cX6_feel 1 = .ok (.iconst 0, 1) := by decide +kernel
theorem dX6_feel_2 : decode cX6_feel 2 = .ok (.bipush 50, 2) := by decide +kernel
theorem dX6_feel_4 : decode cX6_feel 4 = .ok (.invokestatic 76, 3) := by decide +kernel
theorem dX6_feel_7 : decode cX6_feel 7 = .ok (.ifCond .ne 13, 3) := by decide +kernel
theorem dX6_feel_10 : decode cX6_feel 10 = .ok (.iload_n 2, 1) := by decide +kernel
theorem dX6_feel_11 : decode cX6_feel 11 = .ok (.iconst 0, 1) := by decide +kernel
theorem dX6_feel_12 : decode cX6_feel 12 = .ok (.bipush 50, 2) := by decide +kernel
theorem dX6_feel_14 : decode cX6_feel 14 = .ok (.invokestatic 76, 3) := by decide +kernel
theorem dX6_feel_17 : decode cX6_feel 17 = .ok (.ifCond .eq 6, 3) := by decide +kernel
theorem dX6_feel_20 : decode cX6_feel 20 = .ok (.ldc 80, 2) := by decide +kernel
theorem dX6_feel_22 : decode cX6_feel 22 = .ok (.ireturn, 1) := by decide +kernel
theorem dX6_feel_23 : decode cX6_feel 23 = .ok (.aload_n 0, 1) := by decide +kernel
theorem dX6_feel_24 : decode cX6_feel 24 = .ok (.getfield 65, 3) := by decide +kernel
theorem dX6_feel_27 : decode cX6_feel 27 = .ok (.getfield 147, 3) := by decide +kernel
theorem dX6_feel_30 : decode cX6_feel 30 = .ok (.bipush 6, 2) := by decide +kernel
theorem dX6_feel_32 : decode cX6_feel 32 = .ok (.if_icmp .lt 6, 3) := by decide +kernel
theorem dX6_feel_35 : decode cX6_feel 35 = .ok (.ldc 84, 2) := by decide +kernel
theorem dX6_feel_37 : decode cX6_feel 37 = .ok (.ireturn, 1) := by decide +kernel
theorem dX6_feel_38 : decode cX6_feel 38 = .ok (.aload_n 0, 1) := by decide +kernel
theorem dX6_feel_39 : decode cX6_feel 39 = .ok (.getfield 65, 3) := by decide +kernel
theorem dX6_feel_42 : decode cX6_feel 42 = .ok (.iload_n 1, 1) := by decide +kernel
theorem dX6_feel_43 : decode cX6_feel 43 = .ok (.iload_n 2, 1) := by decide +kernel
theorem dX6_feel_44 : decode cX6_feel 44 = .ok (.isub, 1) := by decide +kernel
theorem dX6_feel_45 : decode cX6_feel 45 = .ok (.invokestatic 275, 3) := by decide +kernel
theorem dX6_feel_48 : decode cX6_feel 48 = .ok (.iload_n 3, 1) := by decide +kernel
theorem dX6_feel_49 : decode cX6_feel 49 = .ok (.invokevirtual 280, 3) := by decide +kernel
theorem dX6_feel_52 : decode cX6_feel 52 = .ok (.ireturn, 1) := by decide +kernel
theorem dX6_reach_0 : decode cX6_reach 0 = .ok (.iload_n 1, 1) := by decide +kernel
theorem dX6_reach_1 : decode cX6_reach 1 = .ok (.tableswitch 65 0 3 #[31, 41, 49, 57], 31) := by decide +kernel
theorem dX6_reach_32 : decode cX6_reach 32 = .ok (.aload_n 0, 1) := by decide +kernel
theorem dX6_reach_33 : decode cX6_reach 33 = .ok (.getfield 65, 3) := by decide +kernel
theorem dX6_reach_36 : decode cX6_reach 36 = .ok (.bipush 51, 2) := by decide +kernel
theorem dX6_reach_38 : decode cX6_reach 38 = .ok (.invokevirtual 284, 3) := by decide +kernel
theorem dX6_reach_41 : decode cX6_reach 41 = .ok (.ireturn, 1) := by decide +kernel
theorem dX6_reach_42 : decode cX6_reach 42 = .ok (.aload_n 0, 1) := by decide +kernel
theorem dX6_reach_43 : decode cX6_reach 43 = .ok (.getfield 65, 3) := by decide +kernel
theorem dX6_reach_46 : decode cX6_reach 46 = .ok (.invokevirtual 287, 3) := by decide +kernel
theorem dX6_reach_49 : decode cX6_reach 49 = .ok (.ireturn, 1) := by decide +kernel
theorem dX6_reach_50 : decode cX6_reach 50 = .ok (.aload_n 0, 1) := by decide +kernel
theorem dX6_reach_51 : decode cX6_reach 51 = .ok (.getfield 65, 3) := by decide +kernel
theorem dX6_reach_54 : decode cX6_reach 54 = .ok (.invokevirtual 290, 3) := by decide +kernel
theorem dX6_reach_57 : decode cX6_reach 57 = .ok (.ireturn, 1) := by decide +kernel
theorem dX6_reach_58 : decode cX6_reach 58 = .ok (.aload_n 0, 1) := by decide +kernel
theorem dX6_reach_59 : decode cX6_reach 59 = .ok (.getfield 65, 3) := by decide +kernel
theorem dX6_reach_62 : decode cX6_reach 62 = .ok (.invokevirtual 293, 3) := by decide +kernel
theorem dX6_reach_65 : decode cX6_reach 65 = .ok (.ireturn, 1) := by decide +kernel
theorem dX6_reach_66 : decode cX6_reach 66 = .ok (.ldc 80, 2) := by decide +kernel
theorem dX6_reach_68 : decode cX6_reach 68 = .ok (.ireturn, 1) := by decide +kernel
theorem dX6_write_0 : decode cX6_write 0 = .ok (.aload_n 0, 1) := by decide +kernel
theorem dX6_write_1 : decode cX6_write 1 = .ok (.getfield 19, 3) := by decide +kernel
theorem dX6_write_4 : decode cX6_write 4 = .ok (.iload_n 1, 1) := by decide +kernel
theorem dX6_write_5 : decode cX6_write 5 = .ok (.invokevirtual 156, 3) := by decide +kernel
theorem dX6_write_8 : decode cX6_write 8 = .ok (.ifCond .ne 6, 3) := by decide +kernel
theorem dX6_write_11 : decode cX6_write 11 = .ok (.ldc 160, 2) := by decide +kernel
theorem dX6_write_13 : decode cX6_write 13 = .ok (.ireturn, 1) := by decide +kernel
theorem dX6_write_14 : decode cX6_write 14 = .ok (.iload_n 2, 1) := by decide +kernel
theorem dX6_write_15 : decode cX6_write 15 = .ok (.iconst 0, 1) := by decide +kernel
theorem dX6_write_16 : decode cX6_write 16 = .ok (.sipush 9999, 3) := by decide +kernel
theorem dX6_write_19 : decode cX6_write 19 = .ok (.invokestatic 76, 3) := by decide +kernel
theorem dX6_write_22 : decode cX6_write 22 = .ok (.ifCond .eq 6, 3) := by decide +kernel
theorem dX6_write_25 : decode cX6_write 25 = .ok (.ldc 80, 2) := by decide +kernel
theorem dX6_write_27 : decode cX6_write 27 = .ok (.ireturn, 1) := by decide +kernel
theorem dX6_write_28 : decode cX6_write 28 = .ok (.aload_n 0, 1) := by decide +kernel
theorem dX6_write_29 : decode cX6_write 29 = .ok (.getfield 65, 3) := by decide +kernel
theorem dX6_write_32 : decode cX6_write 32 = .ok (.getfield 150, 3) := by decide +kernel
theorem dX6_write_35 : decode cX6_write 35 = .ok (.bipush 15, 2) := by decide +kernel
theorem dX6_write_37 : decode cX6_write 37 = .ok (.if_icmp .lt 6, 3) := by decide +kernel
theorem dX6_write_40 : decode cX6_write 40 = .ok (.ldc 84, 2) := by decide +kernel
theorem dX6_write_42 : decode cX6_write 42 = .ok (.ireturn, 1) := by decide +kernel
theorem dX6_write_43 : decode cX6_write 43 = .ok (.aload_n 0, 1) := by decide +kernel
theorem dX6_write_44 : decode cX6_write 44 = .ok (.getfield 65, 3) := by decide +kernel
theorem dX6_write_47 : decode cX6_write 47 = .ok (.iload_n 1, 1) := by decide +kernel
theorem dX6_write_48 : decode cX6_write 48 = .ok (.iload_n 2, 1) := by decide +kernel
theorem dX6_write_49 : decode cX6_write 49 = .ok (.invokevirtual 296, 3) := by decide +kernel
theorem dX6_write_52 : decode cX6_write 52 = .ok (.ireturn, 1) := by decide +kernel
theorem dX6_tear_0 : decode cX6_tear 0 = .ok (.aload_n 0, 1) := by decide +kernel
theorem dX6_tear_1 : decode cX6_tear 1 = .ok (.getfield 65, 3) := by decide +kernel
theorem dX6_tear_4 : decode cX6_tear 4 = .ok (.getfield 144, 3) := by decide +kernel
theorem dX6_tear_7 : decode cX6_tear 7 = .ok (.aload_n 0, 1) := by decide +kernel
theorem dX6_tear_8 : decode cX6_tear 8 = .ok (.getfield 65, 3) := by decide +kernel
theorem dX6_tear_11 : decode cX6_tear 11 = .ok (.getfield 147, 3) := by decide +kernel
theorem dX6_tear_14 : decode cX6_tear 14 = .ok (.iadd, 1) := by decide +kernel
theorem dX6_tear_15 : decode cX6_tear 15 = .ok (.aload_n 0, 1) := by decide +kernel
theorem dX6_tear_16 : decode cX6_tear 16 = .ok (.getfield 65, 3) := by decide +kernel
theorem dX6_tear_19 : decode cX6_tear 19 = .ok (.getfield 150, 3) := by decide +kernel
theorem dX6_tear_22 : decode cX6_tear 22 = .ok (.iadd, 1) := by decide +kernel
theorem dX6_tear_23 : decode cX6_tear 23 = .ok (.istore_n 1, 1) := by decide +kernel
theorem dX6_tear_24 : decode cX6_tear 24 = .ok (.aload_n 0, 1) := by decide +kernel
theorem dX6_tear_25 : decode cX6_tear 25 = .ok (.getfield 65, 3) := by decide +kernel
theorem dX6_tear_28 : decode cX6_tear 28 = .ok (.invokevirtual 100, 3) := by decide +kernel
theorem dX6_tear_31 : decode cX6_tear 31 = .ok (.iload_n 1, 1) := by decide +kernel
theorem dX6_tear_32 : decode cX6_tear 32 = .ok (.ireturn, 1) := by decide +kernel
theorem dX6_judge_0 : decode cX6_judge 0 = .ok (.aload_n 0, 1) := by decide +kernel
theorem dX6_judge_1 : decode cX6_judge 1 = .ok (.getfield 65, 3) := by decide +kernel
theorem dX6_judge_4 : decode cX6_judge 4 = .ok (.aload_n 0, 1) := by decide +kernel
theorem dX6_judge_5 : decode cX6_judge 5 = .ok (.getfield 29, 3) := by decide +kernel
theorem dX6_judge_8 : decode cX6_judge 8 = .ok (.invokevirtual 299, 3) := by decide +kernel
theorem dX6_judge_11 : decode cX6_judge 11 = .ok (.ireturn, 1) := by decide +kernel
theorem dX6_seed_0 : decode cX6_seed 0 = .ok (.iload_n 1, 1) := by decide +kernel
theorem dX6_seed_1 : decode cX6_seed 1 = .ok (.ifCond .ge 6, 3) := by decide +kernel
theorem dX6_seed_4 : decode cX6_seed 4 = .ok (.ldc 80, 2) := by decide +kernel
theorem dX6_seed_6 : decode cX6_seed 6 = .ok (.ireturn, 1) := by decide +kernel
theorem dX6_seed_7 : decode cX6_seed 7 = .ok (.aload_n 0, 1) := by decide +kernel
theorem dX6_seed_8 : decode cX6_seed 8 = .ok (.getfield 72, 3) := by decide +kernel
theorem dX6_seed_11 : decode cX6_seed 11 = .ok (.istore_n 2, 1) := by decide +kernel
theorem dX6_seed_12 : decode cX6_seed 12 = .ok (.aload_n 0, 1) := by decide +kernel
theorem dX6_seed_13 : decode cX6_seed 13 = .ok (.iload_n 1, 1) := by decide +kernel
theorem dX6_seed_14 : decode cX6_seed 14 = .ok (.putfield 72, 3) := by decide +kernel
theorem dX6_seed_17 : decode cX6_seed 17 = .ok (.iload_n 2, 1) := by decide +kernel
theorem dX6_seed_18 : decode cX6_seed 18 = .ok (.ireturn, 1) := by decide +kernel
theorem dX6_keep_0 : decode cX6_keep 0 = .ok (.iload_n 1, 1) := by decide +kernel
theorem dX6_keep_1 : decode cX6_keep 1 = .ok (.iconst 0, 1) := by decide +kernel
theorem dX6_keep_2 : decode cX6_keep 2 = .ok (.iconst 1, 1) := by decide +kernel
theorem dX6_keep_3 : decode cX6_keep 3 = .ok (.invokestatic 76, 3) := by decide +kernel
theorem dX6_keep_6 : decode cX6_keep 6 = .ok (.ifCond .eq 6, 3) := by decide +kernel
theorem dX6_keep_9 : decode cX6_keep 9 = .ok (.ldc 160, 2) := by decide +kernel
theorem dX6_keep_11 : decode cX6_keep 11 = .ok (.ireturn, 1) := by decide +kernel
theorem dX6_keep_12 : decode cX6_keep 12 = .ok (.aload_n 0, 1) := by decide +kernel
theorem dX6_keep_13 : decode cX6_keep 13 = .ok (.getfield 43, 3) := by decide +kernel
theorem dX6_keep_16 : decode cX6_keep 16 = .ok (.iload_n 1, 1) := by decide +kernel
theorem dX6_keep_17 : decode cX6_keep 17 = .ok (.aaload, 1) := by decide +kernel
theorem dX6_keep_18 : decode cX6_keep 18 = .ok (.aload_n 0, 1) := by decide +kernel
theorem dX6_keep_19 : decode cX6_keep 19 = .ok (.getfield 29, 3) := by decide +kernel
theorem dX6_keep_22 : decode cX6_keep 22 = .ok (.invokevirtual 238, 3) := by decide +kernel
theorem dX6_keep_25 : decode cX6_keep 25 = .ok (.aload_n 0, 1) := by decide +kernel
theorem dX6_keep_26 : decode cX6_keep 26 = .ok (.getfield 47, 3) := by decide +kernel
theorem dX6_keep_29 : decode cX6_keep 29 = .ok (.iload_n 1, 1) := by decide +kernel
theorem dX6_keep_30 : decode cX6_keep 30 = .ok (.aload_n 0, 1) := by decide +kernel
theorem dX6_keep_31 : decode cX6_keep 31 = .ok (.getfield 72, 3) := by decide +kernel
theorem dX6_keep_34 : decode cX6_keep 34 = .ok (.iastore, 1) := by decide +kernel
theorem dX6_keep_35 : decode cX6_keep 35 = .ok (.aload_n 0, 1) := by decide +kernel
theorem dX6_keep_36 : decode cX6_keep 36 = .ok (.getfield 51, 3) := by decide +kernel
theorem dX6_keep_39 : decode cX6_keep 39 = .ok (.iload_n 1, 1) := by decide +kernel
theorem dX6_keep_40 : decode cX6_keep 40 = .ok (.iconst 1, 1) := by decide +kernel
theorem dX6_keep_41 : decode cX6_keep 41 = .ok (.bastore, 1) := by decide +kernel
theorem dX6_keep_42 : decode cX6_keep 42 = .ok (.aload_n 0, 1) := by decide +kernel
theorem dX6_keep_43 : decode cX6_keep 43 = .ok (.getfield 39, 3) := by decide +kernel
theorem dX6_keep_46 : decode cX6_keep 46 = .ok (.invokevirtual 97, 3) := by decide +kernel
theorem dX6_keep_49 : decode cX6_keep 49 = .ok (.iconst 1, 1) := by decide +kernel
theorem dX6_keep_50 : decode cX6_keep 50 = .ok (.ireturn, 1) := by decide +kernel
theorem dX6_goBack_0 : decode cX6_goBack 0 = .ok (.iload_n 1, 1) := by decide +kernel
theorem dX6_goBack_1 : decode cX6_goBack 1 = .ok (.iconst 0, 1) := by decide +kernel
theorem dX6_goBack_2 : decode cX6_goBack 2 = .ok (.iconst 1, 1) := by decide +kernel
theorem dX6_goBack_3 : decode cX6_goBack 3 = .ok (.invokestatic 76, 3) := by decide +kernel
theorem dX6_goBack_6 : decode cX6_goBack 6 = .ok (.ifCond .eq 6, 3) := by decide +kernel
theorem dX6_goBack_9 : decode cX6_goBack 9 = .ok (.ldc 160, 2) := by decide +kernel
theorem dX6_goBack_11 : decode cX6_goBack 11 = .ok (.ireturn, 1) := by decide +kernel
theorem dX6_goBack_12 : decode cX6_goBack 12 = .ok (.aload_n 0, 1) := by decide +kernel
theorem dX6_goBack_13 : decode cX6_goBack 13 = .ok (.getfield 51, 3) := by decide +kernel
theorem dX6_goBack_16 : decode cX6_goBack 16 = .ok (.iload_n 1, 1) := by decide +kernel
theorem dX6_goBack_17 : decode cX6_goBack 17 = .ok (.baload, 1) := by decide +kernel
theorem dX6_goBack_18 : decode cX6_goBack 18 = .ok (.ifCond .ne 6, 3) := by decide +kernel
theorem dX6_goBack_21 : decode cX6_goBack 21 = .ok (.ldc 201, 2) := by decide +kernel
theorem dX6_goBack_23 : decode cX6_goBack 23 = .ok (.ireturn, 1) := by decide +kernel
theorem dX6_goBack_24 : decode cX6_goBack 24 = .ok (.aload_n 0, 1) := by decide +kernel
theorem dX6_goBack_25 : decode cX6_goBack 25 = .ok (.getfield 29, 3) := by decide +kernel
theorem dX6_goBack_28 : decode cX6_goBack 28 = .ok (.aload_n 0, 1) := by decide +kernel
theorem dX6_goBack_29 : decode cX6_goBack 29 = .ok (.getfield 43, 3) := by decide +kernel
theorem dX6_goBack_32 : decode cX6_goBack 32 = .ok (.iload_n 1, 1) := by decide +kernel
theorem dX6_goBack_33 : decode cX6_goBack 33 = .ok (.aaload, 1) := by decide +kernel
theorem dX6_goBack_34 : decode cX6_goBack 34 = .ok (.invokevirtual 238, 3) := by decide +kernel
theorem dX6_goBack_37 : decode cX6_goBack 37 = .ok (.aload_n 0, 1) := by decide +kernel
theorem dX6_goBack_38 : decode cX6_goBack 38 = .ok (.aload_n 0, 1) := by decide +kernel
theorem dX6_goBack_39 : decode cX6_goBack 39 = .ok (.getfield 47, 3) := by decide +kernel
theorem dX6_goBack_42 : decode cX6_goBack 42 = .ok (.iload_n 1, 1) := by decide +kernel
theorem dX6_goBack_43 : decode cX6_goBack 43 = .ok (.iaload, 1) := by decide +kernel
theorem dX6_goBack_44 : decode cX6_goBack 44 = .ok (.putfield 72, 3) := by decide +kernel
theorem dX6_goBack_47 : decode cX6_goBack 47 = .ok (.aload_n 0, 1) := by decide +kernel
theorem dX6_goBack_48 : decode cX6_goBack 48 = .ok (.getfield 39, 3) := by decide +kernel
theorem dX6_goBack_51 : decode cX6_goBack 51 = .ok (.invokevirtual 97, 3) := by decide +kernel
theorem dX6_goBack_54 : decode cX6_goBack 54 = .ok (.iconst 1, 1) := by decide +kernel
theorem dX6_goBack_55 : decode cX6_goBack 55 = .ok (.ireturn, 1) := by decide +kernel
theorem dX6_isOutside_0 : decode cX6_isOutside 0 = .ok (.iload_n 0, 1) := by decide +kernel
theorem dX6_isOutside_1 : decode cX6_isOutside 1 = .ok (.iload_n 1, 1) := by decide +kernel
theorem dX6_isOutside_2 : decode cX6_isOutside 2 = .ok (.if_icmp .lt 8, 3) := by decide +kernel
theorem dX6_isOutside_5 : decode cX6_isOutside 5 = .ok (.iload_n 0, 1) := by decide +kernel
theorem dX6_isOutside_6 : decode cX6_isOutside 6 = .ok (.iload_n 2, 1) := by decide +kernel
theorem dX6_isOutside_7 : decode cX6_isOutside 7 = .ok (.if_icmp .le 7, 3) := by decide +kernel
theorem dX6_isOutside_10 : decode cX6_isOutside 10 = .ok (.iconst 1, 1) := by decide +kernel
theorem dX6_isOutside_11 : decode cX6_isOutside 11 = .ok (.goto 4, 3) := by decide +kernel
theorem dX6_isOutside_14 : decode cX6_isOutside 14 = .ok (.iconst 0, 1) := by decide +kernel
theorem dX6_isOutside_15 : decode cX6_isOutside 15 = .ok (.ireturn, 1) := by decide +kernel
theorem dX6_has_0 : decode cX6_has 0 = .ok (.iload_n 0, 1) := by decide +kernel
theorem dX6_has_1 : decode cX6_has 1 = .ok (.iload_n 1, 1) := by decide +kernel
theorem dX6_has_2 : decode cX6_has 2 = .ok (.ishr, 1) := by decide +kernel
theorem dX6_has_3 : decode cX6_has 3 = .ok (.iconst 1, 1) := by decide +kernel
theorem dX6_has_4 : decode cX6_has 4 = .ok (.iand, 1) := by decide +kernel
theorem dX6_has_5 : decode cX6_has 5 = .ok (.iconst 1, 1) := by decide +kernel
theorem dX6_has_6 : decode cX6_has 6 = .ok (.if_icmp .ne 7, 3) := by decide +kernel
theorem dX6_has_9 : decode cX6_has 9 = .ok (.iconst 1, 1) := by decide +kernel
theorem dX6_has_10 : decode cX6_has 10 = .ok (.goto 4, 3) := by decide +kernel
theorem dX6_has_13 : decode cX6_has 13 = .ok (.iconst 0, 1) := by decide +kernel
theorem dX6_has_14 : decode cX6_has 14 = .ok (.ireturn, 1) := by decide +kernel
theorem dX6_figuresOf_0 : decode cX6_figuresOf 0 = .ok (.iconst 0, 1) := by decide +kernel
theorem dX6_figuresOf_1 : decode cX6_figuresOf 1 = .ok (.istore_n 1, 1) := by decide +kernel
theorem dX6_figuresOf_2 : decode cX6_figuresOf 2 = .ok (.iload_n 0, 1) := by decide +kernel
theorem dX6_figuresOf_3 : decode cX6_figuresOf 3 = .ok (.istore_n 2, 1) := by decide +kernel
theorem dX6_figuresOf_4 : decode cX6_figuresOf 4 = .ok (.iload_n 2, 1) := by decide +kernel
theorem dX6_figuresOf_5 : decode cX6_figuresOf 5 = .ok (.ifCond .le 14, 3) := by decide +kernel
theorem dX6_figuresOf_8 : decode cX6_figuresOf 8 = .ok (.iinc 1 1, 3) := by decide +kernel
theorem dX6_figuresOf_11 : decode cX6_figuresOf 11 = .ok (.iload_n 2, 1) := by decide +kernel
theorem dX6_figuresOf_12 : decode cX6_figuresOf 12 = .ok (.bipush 10, 2) := by decide +kernel
theorem dX6_figuresOf_14 : decode cX6_figuresOf 14 = .ok (.idiv, 1) := by decide +kernel
theorem dX6_figuresOf_15 : decode cX6_figuresOf 15 = .ok (.istore_n 2, 1) := by decide +kernel
theorem dX6_figuresOf_16 : decode cX6_figuresOf 16 = .ok (.goto (-12), 3) := by decide +kernel
theorem dX6_figuresOf_19 : decode cX6_figuresOf 19 = .ok (.iload_n 1, 1) := by decide +kernel
theorem dX6_figuresOf_20 : decode cX6_figuresOf 20 = .ok (.ireturn, 1) := by decide +kernel
theorem dX6_refusalOfHours_0 : decode cX6_refusalOfHours 0 = .ok (.iload_n 1, 1) := by decide +kernel
theorem dX6_refusalOfHours_1 : decode cX6_refusalOfHours 1 = .ok (.iconst 1, 1) := by decide +kernel
theorem dX6_refusalOfHours_2 : decode cX6_refusalOfHours 2 = .ok (.bipush 60, 2) := by decide +kernel
theorem dX6_refusalOfHours_4 : decode cX6_refusalOfHours 4 = .ok (.invokestatic 76, 3) := by decide +kernel
theorem dX6_refusalOfHours_7 : decode cX6_refusalOfHours 7 = .ok (.ifCond .eq 6, 3) := by decide +kernel
theorem dX6_refusalOfHours_10 : decode cX6_refusalOfHours 10 = .ok (.ldc 80, 2) := by decide +kernel
theorem dX6_refusalOfHours_12 : decode cX6_refusalOfHours 12 = .ok (.ireturn, 1) := by decide +kernel
theorem dX6_refusalOfHours_13 : decode cX6_refusalOfHours 13 = .ok (.aload_n 0, 1) := by decide +kernel
theorem dX6_refusalOfHours_14 : decode cX6_refusalOfHours 14 = .ok (.getfield 19, 3) := by decide +kernel
theorem dX6_refusalOfHours_17 : decode cX6_refusalOfHours 17 = .ok (.getfield 218, 3) := by decide +kernel
theorem dX6_refusalOfHours_20 : decode cX6_refusalOfHours 20 = .ok (.ifCond .ne 6, 3) := by decide +kernel
theorem dX6_refusalOfHours_23 : decode cX6_refusalOfHours 23 = .ok (.ldc 201, 2) := by decide +kernel
theorem dX6_refusalOfHours_25 : decode cX6_refusalOfHours 25 = .ok (.ireturn, 1) := by decide +kernel
theorem dX6_refusalOfHours_26 : decode cX6_refusalOfHours 26 = .ok (.aload_n 0, 1) := by decide +kernel
theorem dX6_refusalOfHours_27 : decode cX6_refusalOfHours 27 = .ok (.getfield 29, 3) := by decide +kernel
theorem dX6_refusalOfHours_30 : decode cX6_refusalOfHours 30 = .ok (.getfield 113, 3) := by decide +kernel
theorem dX6_refusalOfHours_33 : decode cX6_refusalOfHours 33 = .ok (.sipush 9000, 3) := by decide +kernel
theorem dX6_refusalOfHours_36 : decode cX6_refusalOfHours 36 = .ok (.if_icmp .le 8, 3) := by decide +kernel
theorem dX6_refusalOfHours_39 : decode cX6_refusalOfHours 39 = .ok (.ldc 84, 2) := by decide +kernel
theorem dX6_refusalOfHours_41 : decode cX6_refusalOfHours 41 = .ok (.goto 4, 3) := by decide +kernel
theorem dX6_refusalOfHours_44 : decode cX6_refusalOfHours 44 = .ok (.iconst 0, 1) := by decide +kernel
theorem dX6_refusalOfHours_45 : decode cX6_refusalOfHours 45 = .ok (.ireturn, 1) := by decide +kernel
theorem dX6_drawOf_0 : decode cX6_drawOf 0 = .ok (.aload_n 0, 1) := by decide +kernel
theorem dX6_drawOf_1 : decode cX6_drawOf 1 = .ok (.aload_n 0, 1) := by decide +kernel
theorem dX6_drawOf_2 : decode cX6_drawOf 2 = .ok (.getfield 72, 3) := by decide +kernel
theorem dX6_drawOf_5 : decode cX6_drawOf 5 = .ok (.ldc_w 303, 3) := by decide +kernel
theorem dX6_drawOf_8 : decode cX6_drawOf 8 = .ok (.imul, 1) := by decide +kernel
theorem dX6_drawOf_9 : decode cX6_drawOf 9 = .ok (.sipush 12345, 3) := by decide +kernel
theorem dX6_drawOf_12 : decode cX6_drawOf 12 = .ok (.iadd, 1) := by decide +kernel
theorem dX6_drawOf_13 : decode cX6_drawOf 13 = .ok (.ldc_w 304, 3) := by decide +kernel
theorem dX6_drawOf_16 : decode cX6_drawOf 16 = .ok (.iand, 1) := by decide +kernel
theorem dX6_drawOf_17 : decode cX6_drawOf 17 = .ok (.putfield 72, 3) := by decide +kernel
theorem dX6_drawOf_20 : decode cX6_drawOf 20 = .ok (.iload_n 1, 1) := by decide +kernel
theorem dX6_drawOf_21 : decode cX6_drawOf 21 = .ok (.ifCond .le 16, 3) := by decide +kernel
theorem dX6_drawOf_24 : decode cX6_drawOf 24 = .ok (.aload_n 0, 1) := by decide +kernel
theorem dX6_drawOf_25 : decode cX6_drawOf 25 = .ok (.getfield 72, 3) := by decide +kernel
theorem dX6_drawOf_28 : decode cX6_drawOf 28 = .ok (.ldc_w 305, 3) := by decide +kernel
theorem dX6_drawOf_31 : decode cX6_drawOf 31 = .ok (.idiv, 1) := by decide +kernel
theorem dX6_drawOf_32 : decode cX6_drawOf 32 = .ok (.iload_n 1, 1) := by decide +kernel
theorem dX6_drawOf_33 : decode cX6_drawOf 33 = .ok (.irem, 1) := by decide +kernel
theorem dX6_drawOf_34 : decode cX6_drawOf 34 = .ok (.goto 4, 3) := by decide +kernel
theorem dX6_drawOf_37 : decode cX6_drawOf 37 = .ok (.iconst 0, 1) := by decide +kernel
theorem dX6_drawOf_38 : decode cX6_drawOf 38 = .ok (.ireturn, 1) := by decide +kernel
theorem dX6_doByDraw_0 : decode cX6_doByDraw 0 = .ok (.aload_n 0, 1) := by decide +kernel
theorem dX6_doByDraw_1 : decode cX6_doByDraw 1 = .ok (.iconst 5, 1) := by decide +kernel
theorem dX6_doByDraw_2 : decode cX6_doByDraw 2 = .ok (.invokevirtual 306, 3) := by decide +kernel
theorem dX6_doByDraw_5 : decode cX6_doByDraw 5 = .ok (.istore_n 1, 1) := by decide +kernel
theorem dX6_doByDraw_6 : decode cX6_doByDraw 6 = .ok (.iload_n 1, 1) := by decide +kernel
theorem dX6_doByDraw_7 : decode cX6_doByDraw 7 = .ok (.ifCond .ne 40, 3) := by decide +kernel
theorem dX6_doByDraw_10 : decode cX6_doByDraw 10 = .ok (.aload_n 0, 1) := by decide +kernel
theorem dX6_doByDraw_11 : decode cX6_doByDraw 11 = .ok (.aload_n 0, 1) := by decide +kernel
theorem dX6_doByDraw_12 : decode cX6_doByDraw 12 = .ok (.getfield 19, 3) := by decide +kernel
theorem dX6_doByDraw_15 : decode cX6_doByDraw 15 = .ok (.getfield 101, 3) := by decide +kernel
theorem dX6_doByDraw_18 : decode cX6_doByDraw 18 = .ok (.invokevirtual 306, 3) := by decide +kernel
theorem dX6_doByDraw_21 : decode cX6_doByDraw 21 = .ok (.istore_n 2, 1) := by decide +kernel
theorem dX6_doByDraw_22 : decode cX6_doByDraw 22 = .ok (.aload_n 0, 1) := by decide +kernel
theorem dX6_doByDraw_23 : decode cX6_doByDraw 23 = .ok (.getfield 29, 3) := by decide +kernel
theorem dX6_doByDraw_26 : decode cX6_doByDraw 26 = .ok (.bipush (-2), 2) := by decide +kernel
theorem dX6_doByDraw_28 : decode cX6_doByDraw 28 = .ok (.iload_n 2, 1) := by decide +kernel
theorem dX6_doByDraw_29 : decode cX6_doByDraw 29 = .ok (.bipush 9, 2) := by decide +kernel
theorem dX6_doByDraw_31 : decode cX6_doByDraw 31 = .ok (.aload_n 0, 1) := by decide +kernel
theorem dX6_doByDraw_32 : decode cX6_doByDraw 32 = .ok (.getfield 29, 3) := by decide +kernel
theorem dX6_doByDraw_35 : decode cX6_doByDraw 35 = .ok (.getfield 116, 3) := by decide +kernel
theorem dX6_doByDraw_38 : decode cX6_doByDraw 38 = .ok (.invokestatic 309, 3) := by decide +kernel
theorem dX6_doByDraw_41 : decode cX6_doByDraw 41 = .ok (.invokevirtual 206, 3) := by decide +kernel
theorem dX6_doByDraw_44 : decode cX6_doByDraw 44 = .ok (.goto 68, 3) := by decide +kernel
theorem dX6_doByDraw_47 : decode cX6_doByDraw 47 = .ok (.iload_n 1, 1) := by decide +kernel
theorem dX6_doByDraw_48 : decode cX6_doByDraw 48 = .ok (.iconst 1, 1) := by decide +kernel
theorem dX6_doByDraw_49 : decode cX6_doByDraw 49 = .ok (.if_icmp .ne 32, 3) := by decide +kernel
theorem dX6_doByDraw_52 : decode cX6_doByDraw 52 = .ok (.aload_n 0, 1) := by decide +kernel
theorem dX6_doByDraw_53 : decode cX6_doByDraw 53 = .ok (.aload_n 0, 1) := by decide +kernel
theorem dX6_doByDraw_54 : decode cX6_doByDraw 54 = .ok (.getfield 19, 3) := by decide +kernel
theorem dX6_doByDraw_57 : decode cX6_doByDraw 57 = .ok (.getfield 101, 3) := by decide +kernel
theorem dX6_doByDraw_60 : decode cX6_doByDraw 60 = .ok (.invokevirtual 306, 3) := by decide +kernel
theorem dX6_doByDraw_63 : decode cX6_doByDraw 63 = .ok (.istore_n 2, 1) := by decide +kernel
theorem dX6_doByDraw_64 : decode cX6_doByDraw 64 = .ok (.aload_n 0, 1) := by decide +kernel
theorem dX6_doByDraw_65 : decode cX6_doByDraw 65 = .ok (.getfield 29, 3) := by decide +kernel
theorem dX6_doByDraw_68 : decode cX6_doByDraw 68 = .ok (.iload_n 2, 1) := by decide +kernel
theorem dX6_doByDraw_69 : decode cX6_doByDraw 69 = .ok (.aload_n 0, 1) := by decide +kernel
theorem dX6_doByDraw_70 : decode cX6_doByDraw 70 = .ok (.bipush 20, 2) := by decide +kernel
theorem dX6_doByDraw_72 : decode cX6_doByDraw 72 = .ok (.invokevirtual 306, 3) := by decide +kernel
theorem dX6_doByDraw_75 : decode cX6_doByDraw 75 = .ok (.invokevirtual 214, 3) := by decide +kernel
theorem dX6_doByDraw_78 : decode cX6_doByDraw 78 = .ok (.goto 34, 3) := by decide +kernel
theorem dX6_doByDraw_81 : decode cX6_doByDraw 81 = .ok (.iload_n 1, 1) := by decide +kernel
theorem dX6_doByDraw_82 : decode cX6_doByDraw 82 = .ok (.iconst 2, 1) := by decide +kernel
theorem dX6_doByDraw_83 : decode cX6_doByDraw 83 = .ok (.if_icmp .ne 29, 3) := by decide +kernel
theorem dX6_doByDraw_86 : decode cX6_doByDraw 86 = .ok (.aload_n 0, 1) := by decide +kernel
theorem dX6_doByDraw_87 : decode cX6_doByDraw 87 = .ok (.bipush 51, 2) := by decide +kernel
theorem dX6_doByDraw_89 : decode cX6_doByDraw 89 = .ok (.invokevirtual 306, 3) := by decide +kernel
theorem dX6_doByDraw_92 : decode cX6_doByDraw 92 = .ok (.istore_n 2, 1) := by decide +kernel
theorem dX6_doByDraw_93 : decode cX6_doByDraw 93 = .ok (.aload_n 0, 1) := by decide +kernel
theorem dX6_doByDraw_94 : decode cX6_doByDraw 94 = .ok (.getfield 29, 3) := by decide +kernel
theorem dX6_doByDraw_97 : decode cX6_doByDraw 97 = .ok (.aload_n 0, 1) := by decide +kernel
theorem dX6_doByDraw_98 : decode cX6_doByDraw 98 = .ok (.getfield 19, 3) := by decide +kernel
theorem dX6_doByDraw_101 : decode cX6_doByDraw 101 = .ok (.iload_n 2, 1) := by decide +kernel
theorem dX6_doByDraw_102 : decode cX6_doByDraw 102 = .ok (.aload_n 0, 1) := by decide +kernel
theorem dX6_doByDraw_103 : decode cX6_doByDraw 103 = .ok (.bipush 10, 2) := by decide +kernel
theorem dX6_doByDraw_105 : decode cX6_doByDraw 105 = .ok (.invokevirtual 306, 3) := by decide +kernel
theorem dX6_doByDraw_108 : decode cX6_doByDraw 108 = .ok (.invokevirtual 222, 3) := by decide +kernel
theorem dX6_doByDraw_111 : decode cX6_doByDraw 111 = .ok (.pop, 1) := by decide +kernel
theorem dX6_doByDraw_112 : decode cX6_doByDraw 112 = .ok (.return_, 1) := by decide +kernel
theorem dX6_birdsWithNets_0 : decode cX6_birdsWithNets 0 = .ok (.aload_n 0, 1) := by decide +kernel
theorem dX6_birdsWithNets_1 : decode cX6_birdsWithNets 1 = .ok (.getfield 33, 3) := by decide +kernel
theorem dX6_birdsWithNets_4 : decode cX6_birdsWithNets 4 = .ok (.aload_n 0, 1) := by decide +kernel
theorem dX6_birdsWithNets_5 : decode cX6_birdsWithNets 5 = .ok (.getfield 29, 3) := by decide +kernel
theorem dX6_birdsWithNets_8 : decode cX6_birdsWithNets 8 = .ok (.invokevirtual 238, 3) := by decide +kernel
theorem dX6_birdsWithNets_11 : decode cX6_birdsWithNets 11 = .ok (.aload_n 0, 1) := by decide +kernel
theorem dX6_birdsWithNets_12 : decode cX6_birdsWithNets 12 = .ok (.getfield 33, 3) := by decide +kernel
theorem dX6_birdsWithNets_15 : decode cX6_birdsWithNets 15 = .ok (.dup, 1) := by decide +kernel
theorem dX6_birdsWithNets_16 : decode cX6_birdsWithNets 16 = .ok (.getfield 123, 3) := by decide +kernel
theorem dX6_birdsWithNets_19 : decode cX6_birdsWithNets 19 = .ok (.iload_n 1, 1) := by decide +kernel
theorem dX6_birdsWithNets_20 : decode cX6_birdsWithNets 20 = .ok (.ior, 1) := by decide +kernel
theorem dX6_birdsWithNets_21 : decode cX6_birdsWithNets 21 = .ok (.putfield 123, 3) := by decide +kernel
theorem dX6_birdsWithNets_24 : decode cX6_birdsWithNets 24 = .ok (.iconst 0, 1) := by decide +kernel
theorem dX6_birdsWithNets_25 : decode cX6_birdsWithNets 25 = .ok (.istore_n 3, 1) := by decide +kernel
theorem dX6_birdsWithNets_26 : decode cX6_birdsWithNets 26 = .ok (.iload_n 3, 1) := by decide +kernel
theorem dX6_birdsWithNets_27 : decode cX6_birdsWithNets 27 = .ok (.iload_n 2, 1) := by decide +kernel
theorem dX6_birdsWithNets_28 : decode cX6_birdsWithNets 28 = .ok (.if_icmp .ge 20, 3) := by decide +kernel
theorem dX6_birdsWithNets_31 : decode cX6_birdsWithNets 31 = .ok (.aload_n 0, 1) := by decide +kernel
theorem dX6_birdsWithNets_32 : decode cX6_birdsWithNets 32 = .ok (.getfield 33, 3) := by decide +kernel
theorem dX6_birdsWithNets_35 : decode cX6_birdsWithNets 35 = .ok (.aload_n 0, 1) := by decide +kernel
theorem dX6_birdsWithNets_36 : decode cX6_birdsWithNets 36 = .ok (.getfield 19, 3) := by decide +kernel
theorem dX6_birdsWithNets_39 : decode cX6_birdsWithNets 39 = .ok (.invokevirtual 229, 3) := by decide +kernel
theorem dX6_birdsWithNets_42 : decode cX6_birdsWithNets 42 = .ok (.iinc 3 1, 3) := by decide +kernel
theorem dX6_birdsWithNets_45 : decode cX6_birdsWithNets 45 = .ok (.goto (-19), 3) := by decide +kernel
theorem dX6_birdsWithNets_48 : decode cX6_birdsWithNets 48 = .ok (.aload_n 0, 1) := by decide +kernel
theorem dX6_birdsWithNets_49 : decode cX6_birdsWithNets 49 = .ok (.getfield 33, 3) := by decide +kernel
theorem dX6_birdsWithNets_52 : decode cX6_birdsWithNets 52 = .ok (.invokevirtual 119, 3) := by decide +kernel
theorem dX6_birdsWithNets_55 : decode cX6_birdsWithNets 55 = .ok (.ireturn, 1) := by decide +kernel
theorem dX6_richest_0 : decode cX6_richest 0 = .ok (.iconst (-1), 1) := by decide +kernel
theorem dX6_richest_1 : decode cX6_richest 1 = .ok (.istore_n 1, 1) := by decide +kernel
theorem dX6_richest_2 : decode cX6_richest 2 = .ok (.iconst (-1), 1) := by decide +kernel
theorem dX6_richest_3 : decode cX6_richest 3 = .ok (.istore_n 2, 1) := by decide +kernel
theorem dX6_richest_4 : decode cX6_richest 4 = .ok (.iconst 0, 1) := by decide +kernel
theorem dX6_richest_5 : decode cX6_richest 5 = .ok (.istore_n 3, 1) := by decide +kernel
theorem dX6_richest_6 : decode cX6_richest 6 = .ok (.iload_n 3, 1) := by decide +kernel
theorem dX6_richest_7 : decode cX6_richest 7 = .ok (.aload_n 0, 1) := by decide +kernel
theorem dX6_richest_8 : decode cX6_richest 8 = .ok (.getfield 19, 3) := by decide +kernel
theorem dX6_richest_11 : decode cX6_richest 11 = .ok (.getfield 101, 3) := by decide +kernel
theorem dX6_richest_14 : decode cX6_richest 14 = .ok (.if_icmp .ge 34, 3) := by decide +kernel
theorem dX6_richest_17 : decode cX6_richest 17 = .ok (.aload_n 0, 1) := by decide +kernel
theorem dX6_richest_18 : decode cX6_richest 18 = .ok (.getfield 29, 3) := by decide +kernel
theorem dX6_richest_21 : decode cX6_richest 21 = .ok (.getfield 164, 3) := by decide +kernel
theorem dX6_richest_24 : decode cX6_richest 24 = .ok (.iload_n 3, 1) := by decide +kernel
theorem dX6_richest_25 : decode cX6_richest 25 = .ok (.iaload, 1) := by decide +kernel
theorem dX6_richest_26 : decode cX6_richest 26 = .ok (.iload_n 2, 1) := by decide +kernel
theorem dX6_richest_27 : decode cX6_richest 27 = .ok (.if_icmp .le 15, 3) := by decide +kernel
theorem dX6_richest_30 : decode cX6_richest 30 = .ok (.aload_n 0, 1) := by decide +kernel
theorem dX6_richest_31 : decode cX6_richest 31 = .ok (.getfield 29, 3) := by decide +kernel
theorem dX6_richest_34 : decode cX6_richest 34 = .ok (.getfield 164, 3) := by decide +kernel
theorem dX6_richest_37 : decode cX6_richest 37 = .ok (.iload_n 3, 1) := by decide +kernel
theorem dX6_richest_38 : decode cX6_richest 38 = .ok (.iaload, 1) := by decide +kernel
theorem dX6_richest_39 : decode cX6_richest 39 = .ok (.istore_n 2, 1) := by decide +kernel
theorem dX6_richest_40 : decode cX6_richest 40 = .ok (.iload_n 3, 1) := by decide +kernel
theorem dX6_richest_41 : decode cX6_richest 41 = .ok (.istore_n 1, 1) := by decide +kernel
theorem dX6_richest_42 : decode cX6_richest 42 = .ok (.iinc 3 1, 3) := by decide +kernel
theorem dX6_richest_45 : decode cX6_richest 45 = .ok (.goto (-39), 3) := by decide +kernel
theorem dX6_richest_48 : decode cX6_richest 48 = .ok (.iload_n 1, 1) := by decide +kernel
theorem dX6_richest_49 : decode cX6_richest 49 = .ok (.ireturn, 1) := by decide +kernel
theorem dX6_rings_0 : decode cX6_rings 0 = .ok (.iconst 0, 1) := by decide +kernel
theorem dX6_rings_1 : decode cX6_rings 1 = .ok (.istore_n 1, 1) := by decide +kernel
theorem dX6_rings_2 : decode cX6_rings 2 = .ok (.iload_n 1, 1) := by decide +kernel
theorem dX6_rings_3 : decode cX6_rings 3 = .ok (.aload_n 0, 1) := by decide +kernel
theorem dX6_rings_4 : decode cX6_rings 4 = .ok (.getfield 19, 3) := by decide +kernel
theorem dX6_rings_7 : decode cX6_rings 7 = .ok (.getfield 101, 3) := by decide +kernel
theorem dX6_rings_10 : decode cX6_rings 10 = .ok (.if_icmp .ge 20, 3) := by decide +kernel
theorem dX6_rings_13 : decode cX6_rings 13 = .ok (.aload_n 0, 1) := by decide +kernel
theorem dX6_rings_14 : decode cX6_rings 14 = .ok (.getfield 69, 3) := by decide +kernel
theorem dX6_rings_17 : decode cX6_rings 17 = .ok (.iload_n 1, 1) := by decide +kernel
theorem dX6_rings_18 : decode cX6_rings 18 = .ok (.aload_n 0, 1) := by decide +kernel
theorem dX6_rings_19 : decode cX6_rings 19 = .ok (.iload_n 1, 1) := by decide +kernel
theorem dX6_rings_20 : decode cX6_rings 20 = .ok (.invokevirtual 312, 3) := by decide +kernel
theorem dX6_rings_23 : decode cX6_rings 23 = .ok (.iastore, 1) := by decide +kernel
theorem dX6_rings_24 : decode cX6_rings 24 = .ok (.iinc 1 1, 3) := by decide +kernel
theorem dX6_rings_27 : decode cX6_rings 27 = .ok (.goto (-25), 3) := by decide +kernel
theorem dX6_rings_30 : decode cX6_rings 30 = .ok (.iconst 0, 1) := by decide +kernel
theorem dX6_rings_31 : decode cX6_rings 31 = .ok (.istore_n 1, 1) := by decide +kernel
theorem dX6_rings_32 : decode cX6_rings 32 = .ok (.iload_n 1, 1) := by decide +kernel
theorem dX6_rings_33 : decode cX6_rings 33 = .ok (.aload_n 0, 1) := by decide +kernel
theorem dX6_rings_34 : decode cX6_rings 34 = .ok (.getfield 19, 3) := by decide +kernel
theorem dX6_rings_37 : decode cX6_rings 37 = .ok (.getfield 101, 3) := by decide +kernel
theorem dX6_rings_40 : decode cX6_rings 40 = .ok (.if_icmp .ge 56, 3) := by decide +kernel
theorem dX6_rings_43 : decode cX6_rings 43 = .ok (.iconst 0, 1) := by decide +kernel
theorem dX6_rings_44 : decode cX6_rings 44 = .ok (.istore_n 2, 1) := by decide +kernel
theorem dX6_rings_45 : decode cX6_rings 45 = .ok (.iload_n 2, 1) := by decide +kernel
theorem dX6_rings_46 : decode cX6_rings 46 = .ok (.aload_n 0, 1) := by decide +kernel
theorem dX6_rings_47 : decode cX6_rings 47 = .ok (.getfield 19, 3) := by decide +kernel
theorem dX6_rings_50 : decode cX6_rings 50 = .ok (.getfield 101, 3) := by decide +kernel
theorem dX6_rings_53 : decode cX6_rings 53 = .ok (.if_icmp .ge 37, 3) := by decide +kernel
theorem dX6_rings_56 : decode cX6_rings 56 = .ok (.aload_n 0, 1) := by decide +kernel
theorem dX6_rings_57 : decode cX6_rings 57 = .ok (.getfield 69, 3) := by decide +kernel
theorem dX6_rings_60 : decode cX6_rings 60 = .ok (.iload_n 2, 1) := by decide +kernel
theorem dX6_rings_61 : decode cX6_rings 61 = .ok (.iaload, 1) := by decide +kernel
theorem dX6_rings_62 : decode cX6_rings 62 = .ok (.iload_n 1, 1) := by decide +kernel
theorem dX6_rings_63 : decode cX6_rings 63 = .ok (.invokestatic 315, 3) := by decide +kernel
theorem dX6_rings_66 : decode cX6_rings 66 = .ok (.ifCond .eq 18, 3) := by decide +kernel
theorem dX6_rings_69 : decode cX6_rings 69 = .ok (.aload_n 0, 1) := by decide +kernel
theorem dX6_rings_70 : decode cX6_rings 70 = .ok (.getfield 69, 3) := by decide +kernel
theorem dX6_rings_73 : decode cX6_rings 73 = .ok (.iload_n 2, 1) := by decide +kernel
theorem dX6_rings_74 : decode cX6_rings 74 = .ok (.dup2, 1) := by decide +kernel
theorem dX6_rings_75 : decode cX6_rings 75 = .ok (.iaload, 1) := by decide +kernel
theorem dX6_rings_76 : decode cX6_rings 76 = .ok (.aload_n 0, 1) := by decide +kernel
theorem dX6_rings_77 : decode cX6_rings 77 = .ok (.getfield 69, 3) := by decide +kernel
theorem dX6_rings_80 : decode cX6_rings 80 = .ok (.iload_n 1, 1) := by decide +kernel
theorem dX6_rings_81 : decode cX6_rings 81 = .ok (.iaload, 1) := by decide +kernel
theorem dX6_rings_82 : decode cX6_rings 82 = .ok (.ior, 1) := by decide +kernel
theorem dX6_rings_83 : decode cX6_rings 83 = .ok (.iastore, 1) := by decide +kernel
theorem dX6_rings_84 : decode cX6_rings 84 = .ok (.iinc 2 1, 3) := by decide +kernel
theorem dX6_rings_87 : decode cX6_rings 87 = .ok (.goto (-42), 3) := by decide +kernel
theorem dX6_rings_90 : decode cX6_rings 90 = .ok (.iinc 1 1, 3) := by decide +kernel
theorem dX6_rings_93 : decode cX6_rings 93 = .ok (.goto (-61), 3) := by decide +kernel
theorem dX6_rings_96 : decode cX6_rings 96 = .ok (.iconst 0, 1) := by decide +kernel
theorem dX6_rings_97 : decode cX6_rings 97 = .ok (.istore_n 1, 1) := by decide +kernel
theorem dX6_rings_98 : decode cX6_rings 98 = .ok (.iconst 0, 1) := by decide +kernel
theorem dX6_rings_99 : decode cX6_rings 99 = .ok (.istore_n 2, 1) := by decide +kernel
theorem dX6_rings_100 : decode cX6_rings 100 = .ok (.iload_n 2, 1) := by decide +kernel
theorem dX6_rings_101 : decode cX6_rings 101 = .ok (.aload_n 0, 1) := by decide +kernel
theorem dX6_rings_102 : decode cX6_rings 102 = .ok (.getfield 19, 3) := by decide +kernel
theorem dX6_rings_105 : decode cX6_rings 105 = .ok (.getfield 101, 3) := by decide +kernel
theorem dX6_rings_108 : decode cX6_rings 108 = .ok (.if_icmp .ge 22, 3) := by decide +kernel
theorem dX6_rings_111 : decode cX6_rings 111 = .ok (.iload_n 1, 1) := by decide +kernel
theorem dX6_rings_112 : decode cX6_rings 112 = .ok (.aload_n 0, 1) := by decide +kernel
theorem dX6_rings_113 : decode cX6_rings 113 = .ok (.getfield 69, 3) := by decide +kernel
theorem dX6_rings_116 : decode cX6_rings 116 = .ok (.iload_n 2, 1) := by decide +kernel
theorem dX6_rings_117 : decode cX6_rings 117 = .ok (.iaload, 1) := by decide +kernel
theorem dX6_rings_118 : decode cX6_rings 118 = .ok (.iconst 1, 1) := by decide +kernel
theorem dX6_rings_119 : decode cX6_rings 119 = .ok (.iload_n 2, 1) := by decide +kernel
theorem dX6_rings_120 : decode cX6_rings 120 = .ok (.ishl, 1) := by decide +kernel
theorem dX6_rings_121 : decode cX6_rings 121 = .ok (.iand, 1) := by decide +kernel
theorem dX6_rings_122 : decode cX6_rings 122 = .ok (.ior, 1) := by decide +kernel
theorem dX6_rings_123 : decode cX6_rings 123 = .ok (.istore_n 1, 1) := by decide +kernel
theorem dX6_rings_124 : decode cX6_rings 124 = .ok (.iinc 2 1, 3) := by decide +kernel
theorem dX6_rings_127 : decode cX6_rings 127 = .ok (.goto (-27), 3) := by decide +kernel
theorem dX6_rings_130 : decode cX6_rings 130 = .ok (.iload_n 1, 1) := by decide +kernel
theorem dX6_rings_131 : decode cX6_rings 131 = .ok (.ireturn, 1) := by decide +kernel
theorem dX6_creditorsOf_0 : decode cX6_creditorsOf 0 = .ok (.iconst 0, 1) := by decide +kernel
theorem dX6_creditorsOf_1 : decode cX6_creditorsOf 1 = .ok (.istore_n 2, 1) := by decide +kernel
theorem dX6_creditorsOf_2 : decode cX6_creditorsOf 2 = .ok (.iconst 0, 1) := by decide +kernel
theorem dX6_creditorsOf_3 : decode cX6_creditorsOf 3 = .ok (.istore_n 3, 1) := by decide +kernel
theorem dX6_creditorsOf_4 : decode cX6_creditorsOf 4 = .ok (.iload_n 3, 1) := by decide +kernel
theorem dX6_creditorsOf_5 : decode cX6_creditorsOf 5 = .ok (.aload_n 0, 1) := by decide +kernel
theorem dX6_creditorsOf_6 : decode cX6_creditorsOf 6 = .ok (.getfield 19, 3) := by decide +kernel
theorem dX6_creditorsOf_9 : decode cX6_creditorsOf 9 = .ok (.getfield 110, 3) := by decide +kernel
theorem dX6_creditorsOf_12 : decode cX6_creditorsOf 12 = .ok (.if_icmp .ge 48, 3) := by decide +kernel
theorem dX6_creditorsOf_15 : decode cX6_creditorsOf 15 = .ok (.aload_n 0, 1) := by decide +kernel
theorem dX6_creditorsOf_16 : decode cX6_creditorsOf 16 = .ok (.getfield 19, 3) := by decide +kernel
theorem dX6_creditorsOf_19 : decode cX6_creditorsOf 19 = .ok (.getfield 189, 3) := by decide +kernel
theorem dX6_creditorsOf_22 : decode cX6_creditorsOf 22 = .ok (.iload_n 3, 1) := by decide +kernel
theorem dX6_creditorsOf_23 : decode cX6_creditorsOf 23 = .ok (.iaload, 1) := by decide +kernel
theorem dX6_creditorsOf_24 : decode cX6_creditorsOf 24 = .ok (.iload_n 1, 1) := by decide +kernel
theorem dX6_creditorsOf_25 : decode cX6_creditorsOf 25 = .ok (.if_icmp .ne 29, 3) := by decide +kernel
theorem dX6_creditorsOf_28 : decode cX6_creditorsOf 28 = .ok (.aload_n 0, 1) := by decide +kernel
theorem dX6_creditorsOf_29 : decode cX6_creditorsOf 29 = .ok (.getfield 29, 3) := by decide +kernel
theorem dX6_creditorsOf_32 : decode cX6_creditorsOf 32 = .ok (.getfield 195, 3) := by decide +kernel
theorem dX6_creditorsOf_35 : decode cX6_creditorsOf 35 = .ok (.iload_n 3, 1) := by decide +kernel
theorem dX6_creditorsOf_36 : decode cX6_creditorsOf 36 = .ok (.iaload, 1) := by decide +kernel
theorem dX6_creditorsOf_37 : decode cX6_creditorsOf 37 = .ok (.ifCond .le 17, 3) := by decide +kernel
theorem dX6_creditorsOf_40 : decode cX6_creditorsOf 40 = .ok (.iload_n 2, 1) := by decide +kernel
theorem dX6_creditorsOf_41 : decode cX6_creditorsOf 41 = .ok (.iconst 1, 1) := by decide +kernel
theorem dX6_creditorsOf_42 : decode cX6_creditorsOf 42 = .ok (.aload_n 0, 1) := by decide +kernel
theorem dX6_creditorsOf_43 : decode cX6_creditorsOf 43 = .ok (.getfield 19, 3) := by decide +kernel
theorem dX6_creditorsOf_46 : decode cX6_creditorsOf 46 = .ok (.getfield 192, 3) := by decide +kernel
theorem dX6_creditorsOf_49 : decode cX6_creditorsOf 49 = .ok (.iload_n 3, 1) := by decide +kernel
theorem dX6_creditorsOf_50 : decode cX6_creditorsOf 50 = .ok (.iaload, 1) := by decide +kernel
theorem dX6_creditorsOf_51 : decode cX6_creditorsOf 51 = .ok (.ishl, 1) := by decide +kernel
theorem dX6_creditorsOf_52 : decode cX6_creditorsOf 52 = .ok (.ior, 1) := by decide +kernel
theorem dX6_creditorsOf_53 : decode cX6_creditorsOf 53 = .ok (.istore_n 2, 1) := by decide +kernel
theorem dX6_creditorsOf_54 : decode cX6_creditorsOf 54 = .ok (.iinc 3 1, 3) := by decide +kernel
theorem dX6_creditorsOf_57 : decode cX6_creditorsOf 57 = .ok (.goto (-53), 3) := by decide +kernel
theorem dX6_creditorsOf_60 : decode cX6_creditorsOf 60 = .ok (.iload_n 2, 1) := by decide +kernel
theorem dX6_creditorsOf_61 : decode cX6_creditorsOf 61 = .ok (.ireturn, 1) := by decide +kernel
theorem dX6_owedBy_0 : decode cX6_owedBy 0 = .ok (.iconst 0, 1) := by decide +kernel
theorem dX6_owedBy_1 : decode cX6_owedBy 1 = .ok (.istore_n 2, 1) := by decide +kernel
theorem dX6_owedBy_2 : decode cX6_owedBy 2 = .ok (.iconst 0, 1) := by decide +kernel
theorem dX6_owedBy_3 : decode cX6_owedBy 3 = .ok (.istore_n 3, 1) := by decide +kernel
theorem dX6_owedBy_4 : decode cX6_owedBy 4 = .ok (.iload_n 3, 1) := by decide +kernel
theorem dX6_owedBy_5 : decode cX6_owedBy 5 = .ok (.aload_n 0, 1) := by decide +kernel
theorem dX6_owedBy_6 : decode cX6_owedBy 6 = .ok (.getfield 19, 3) := by decide +kernel
theorem dX6_owedBy_9 : decode cX6_owedBy 9 = .ok (.getfield 110, 3) := by decide +kernel
theorem dX6_owedBy_12 : decode cX6_owedBy 12 = .ok (.if_icmp .ge 38, 3) := by decide +kernel
theorem dX6_owedBy_15 : decode cX6_owedBy 15 = .ok (.iload_n 2, 1) := by decide +kernel
theorem dX6_owedBy_16 : decode cX6_owedBy 16 = .ok (.aload_n 0, 1) := by decide +kernel
theorem dX6_owedBy_17 : decode cX6_owedBy 17 = .ok (.getfield 19, 3) := by decide +kernel
theorem dX6_owedBy_20 : decode cX6_owedBy 20 = .ok (.getfield 189, 3) := by decide +kernel
theorem dX6_owedBy_23 : decode cX6_owedBy 23 = .ok (.iload_n 3, 1) := by decide +kernel
theorem dX6_owedBy_24 : decode cX6_owedBy 24 = .ok (.iaload, 1) := by decide +kernel
theorem dX6_owedBy_25 : decode cX6_owedBy 25 = .ok (.iload_n 1, 1) := by decide +kernel
theorem dX6_owedBy_26 : decode cX6_owedBy 26 = .ok (.if_icmp .ne 15, 3) := by decide +kernel
theorem dX6_owedBy_29 : decode cX6_owedBy 29 = .ok (.aload_n 0, 1) := by decide +kernel
theorem dX6_owedBy_30 : decode cX6_owedBy 30 = .ok (.getfield 29, 3) := by decide +kernel
theorem dX6_owedBy_33 : decode cX6_owedBy 33 = .ok (.getfield 195, 3) := by decide +kernel
theorem dX6_owedBy_36 : decode cX6_owedBy 36 = .ok (.iload_n 3, 1) := by decide +kernel
theorem dX6_owedBy_37 : decode cX6_owedBy 37 = .ok (.iaload, 1) := by decide +kernel
theorem dX6_owedBy_38 : decode cX6_owedBy 38 = .ok (.goto 4, 3) := by decide +kernel
theorem dX6_owedBy_41 : decode cX6_owedBy 41 = .ok (.iconst 0, 1) := by decide +kernel
theorem dX6_owedBy_42 : decode cX6_owedBy 42 = .ok (.iadd, 1) := by decide +kernel
theorem dX6_owedBy_43 : decode cX6_owedBy 43 = .ok (.istore_n 2, 1) := by decide +kernel
theorem dX6_owedBy_44 : decode cX6_owedBy 44 = .ok (.iinc 3 1, 3) := by decide +kernel
theorem dX6_owedBy_47 : decode cX6_owedBy 47 = .ok (.goto (-43), 3) := by decide +kernel
theorem dX6_owedBy_50 : decode cX6_owedBy 50 = .ok (.iload_n 2, 1) := by decide +kernel
theorem dX6_owedBy_51 : decode cX6_owedBy 51 = .ok (.ireturn, 1) := by decide +kernel
theorem dX6_owedTo_0 : decode cX6_owedTo 0 = .ok (.iconst 0, 1) := by decide +kernel
theorem dX6_owedTo_1 : decode cX6_owedTo 1 = .ok (.istore_n 2, 1) := by decide +kernel
theorem dX6_owedTo_2 : decode cX6_owedTo 2 = .ok (.iconst 0, 1) := by decide +kernel
theorem dX6_owedTo_3 : decode cX6_owedTo 3 = .ok (.istore_n 3, 1) := by decide +kernel
theorem dX6_owedTo_4 : decode cX6_owedTo 4 = .ok (.iload_n 3, 1) := by decide +kernel
theorem dX6_owedTo_5 : decode cX6_owedTo 5 = .ok (.aload_n 0, 1) := by decide +kernel
theorem dX6_owedTo_6 : decode cX6_owedTo 6 = .ok (.getfield 19, 3) := by decide +kernel
theorem dX6_owedTo_9 : decode cX6_owedTo 9 = .ok (.getfield 110, 3) := by decide +kernel
theorem dX6_owedTo_12 : decode cX6_owedTo 12 = .ok (.if_icmp .ge 38, 3) := by decide +kernel
theorem dX6_owedTo_15 : decode cX6_owedTo 15 = .ok (.iload_n 2, 1) := by decide +kernel
theorem dX6_owedTo_16 : decode cX6_owedTo 16 = .ok (.aload_n 0, 1) := by decide +kernel
theorem dX6_owedTo_17 : decode cX6_owedTo 17 = .ok (.getfield 19, 3) := by decide +kernel
theorem dX6_owedTo_20 : decode cX6_owedTo 20 = .ok (.getfield 192, 3) := by decide +kernel
theorem dX6_owedTo_23 : decode cX6_owedTo 23 = .ok (.iload_n 3, 1) := by decide +kernel
theorem dX6_owedTo_24 : decode cX6_owedTo 24 = .ok (.iaload, 1) := by decide +kernel
theorem dX6_owedTo_25 : decode cX6_owedTo 25 = .ok (.iload_n 1, 1) := by decide +kernel
theorem dX6_owedTo_26 : decode cX6_owedTo 26 = .ok (.if_icmp .ne 15, 3) := by decide +kernel
theorem dX6_owedTo_29 : decode cX6_owedTo 29 = .ok (.aload_n 0, 1) := by decide +kernel
theorem dX6_owedTo_30 : decode cX6_owedTo 30 = .ok (.getfield 29, 3) := by decide +kernel
theorem dX6_owedTo_33 : decode cX6_owedTo 33 = .ok (.getfield 195, 3) := by decide +kernel
theorem dX6_owedTo_36 : decode cX6_owedTo 36 = .ok (.iload_n 3, 1) := by decide +kernel
theorem dX6_owedTo_37 : decode cX6_owedTo 37 = .ok (.iaload, 1) := by decide +kernel
theorem dX6_owedTo_38 : decode cX6_owedTo 38 = .ok (.goto 4, 3) := by decide +kernel
theorem dX6_owedTo_41 : decode cX6_owedTo 41 = .ok (.iconst 0, 1) := by decide +kernel
theorem dX6_owedTo_42 : decode cX6_owedTo 42 = .ok (.iadd, 1) := by decide +kernel
theorem dX6_owedTo_43 : decode cX6_owedTo 43 = .ok (.istore_n 2, 1) := by decide +kernel
theorem dX6_owedTo_44 : decode cX6_owedTo 44 = .ok (.iinc 3 1, 3) := by decide +kernel
theorem dX6_owedTo_47 : decode cX6_owedTo 47 = .ok (.goto (-43), 3) := by decide +kernel
theorem dX6_owedTo_50 : decode cX6_owedTo 50 = .ok (.iload_n 2, 1) := by decide +kernel
theorem dX6_owedTo_51 : decode cX6_owedTo 51 = .ok (.ireturn, 1) := by decide +kernel
theorem dX6_owedInAll_0 : decode cX6_owedInAll 0 = .ok (.iconst 0, 1) := by decide +kernel
theorem dX6_owedInAll_1 : decode cX6_owedInAll 1 = .ok (.istore_n 1, 1) := by decide +kernel
theorem dX6_owedInAll_2 : decode cX6_owedInAll 2 = .ok (.iconst 0, 1) := by decide +kernel
theorem dX6_owedInAll_3 : decode cX6_owedInAll 3 = .ok (.istore_n 2, 1) := by decide +kernel
theorem dX6_owedInAll_4 : decode cX6_owedInAll 4 = .ok (.iload_n 2, 1) := by decide +kernel
theorem dX6_owedInAll_5 : decode cX6_owedInAll 5 = .ok (.aload_n 0, 1) := by decide +kernel
theorem dX6_owedInAll_6 : decode cX6_owedInAll 6 = .ok (.getfield 19, 3) := by decide +kernel
theorem dX6_owedInAll_9 : decode cX6_owedInAll 9 = .ok (.getfield 110, 3) := by decide +kernel
theorem dX6_owedInAll_12 : decode cX6_owedInAll 12 = .ok (.if_icmp .ge 21, 3) := by decide +kernel
theorem dX6_owedInAll_15 : decode cX6_owedInAll 15 = .ok (.iload_n 1, 1) := by decide +kernel
theorem dX6_owedInAll_16 : decode cX6_owedInAll 16 = .ok (.aload_n 0, 1) := by decide +kernel
theorem dX6_owedInAll_17 : decode cX6_owedInAll 17 = .ok (.getfield 29, 3) := by decide +kernel
theorem dX6_owedInAll_20 : decode cX6_owedInAll 20 = .ok (.getfield 195, 3) := by decide +kernel
theorem dX6_owedInAll_23 : decode cX6_owedInAll 23 = .ok (.iload_n 2, 1) := by decide +kernel
theorem dX6_owedInAll_24 : decode cX6_owedInAll 24 = .ok (.iaload, 1) := by decide +kernel
theorem dX6_owedInAll_25 : decode cX6_owedInAll 25 = .ok (.iadd, 1) := by decide +kernel
theorem dX6_owedInAll_26 : decode cX6_owedInAll 26 = .ok (.istore_n 1, 1) := by decide +kernel
theorem dX6_owedInAll_27 : decode cX6_owedInAll 27 = .ok (.iinc 2 1, 3) := by decide +kernel
theorem dX6_owedInAll_30 : decode cX6_owedInAll 30 = .ok (.goto (-26), 3) := by decide +kernel
theorem dX6_owedInAll_33 : decode cX6_owedInAll 33 = .ok (.iload_n 1, 1) := by decide +kernel
theorem dX6_owedInAll_34 : decode cX6_owedInAll 34 = .ok (.ireturn, 1) := by decide +kernel
theorem dX6_suspects_0 : decode cX6_suspects 0 = .ok (.iconst 0, 1) := by decide +kernel
theorem dX6_suspects_1 : decode cX6_suspects 1 = .ok (.istore_n 1, 1) := by decide +kernel
theorem dX6_suspects_2 : decode cX6_suspects 2 = .ok (.iconst 0, 1) := by decide +kernel
theorem dX6_suspects_3 : decode cX6_suspects 3 = .ok (.istore_n 2, 1) := by decide +kernel
theorem dX6_suspects_4 : decode cX6_suspects 4 = .ok (.iload_n 2, 1) := by decide +kernel
theorem dX6_suspects_5 : decode cX6_suspects 5 = .ok (.aload_n 0, 1) := by decide +kernel
theorem dX6_suspects_6 : decode cX6_suspects 6 = .ok (.getfield 19, 3) := by decide +kernel
theorem dX6_suspects_9 : decode cX6_suspects 9 = .ok (.getfield 101, 3) := by decide +kernel
theorem dX6_suspects_12 : decode cX6_suspects 12 = .ok (.if_icmp .ge 37, 3) := by decide +kernel
theorem dX6_suspects_15 : decode cX6_suspects 15 = .ok (.aload_n 0, 1) := by decide +kernel
theorem dX6_suspects_16 : decode cX6_suspects 16 = .ok (.getfield 65, 3) := by decide +kernel
theorem dX6_suspects_19 : decode cX6_suspects 19 = .ok (.aload_n 0, 1) := by decide +kernel
theorem dX6_suspects_20 : decode cX6_suspects 20 = .ok (.getfield 29, 3) := by decide +kernel
theorem dX6_suspects_23 : decode cX6_suspects 23 = .ok (.aload_n 0, 1) := by decide +kernel
theorem dX6_suspects_24 : decode cX6_suspects 24 = .ok (.getfield 19, 3) := by decide +kernel
theorem dX6_suspects_27 : decode cX6_suspects 27 = .ok (.iload_n 2, 1) := by decide +kernel
theorem dX6_suspects_28 : decode cX6_suspects 28 = .ok (.invokevirtual 319, 3) := by decide +kernel
theorem dX6_suspects_31 : decode cX6_suspects 31 = .ok (.invokevirtual 323, 3) := by decide +kernel
theorem dX6_suspects_34 : decode cX6_suspects 34 = .ok (.ifCond .eq 9, 3) := by decide +kernel
theorem dX6_suspects_37 : decode cX6_suspects 37 = .ok (.iload_n 1, 1) := by decide +kernel
theorem dX6_suspects_38 : decode cX6_suspects 38 = .ok (.iconst 1, 1) := by decide +kernel
theorem dX6_suspects_39 : decode cX6_suspects 39 = .ok (.iload_n 2, 1) := by decide +kernel
theorem dX6_suspects_40 : decode cX6_suspects 40 = .ok (.ishl, 1) := by decide +kernel
theorem dX6_suspects_41 : decode cX6_suspects 41 = .ok (.ior, 1) := by decide +kernel
theorem dX6_suspects_42 : decode cX6_suspects 42 = .ok (.istore_n 1, 1) := by decide +kernel
theorem dX6_suspects_43 : decode cX6_suspects 43 = .ok (.iinc 2 1, 3) := by decide +kernel
theorem dX6_suspects_46 : decode cX6_suspects 46 = .ok (.goto (-42), 3) := by decide +kernel
theorem dX6_suspects_49 : decode cX6_suspects 49 = .ok (.iload_n 1, 1) := by decide +kernel
theorem dX6_suspects_50 : decode cX6_suspects 50 = .ok (.ireturn, 1) := by decide +kernel
theorem dX7_init_0 : decode cX7_init 0 = .ok (.aload_n 0, 1) := by decide +kernel
theorem dX7_init_1 : decode cX7_init 1 = .ok (.invokespecial 1, 3) := by decide +kernel
theorem dX7_init_4 : decode cX7_init 4 = .ok (.aload_n 0, 1) := by decide +kernel
theorem dX7_init_5 : decode cX7_init 5 = .ok (.bipush 52, 2) := by decide +kernel
theorem dX7_init_7 : decode cX7_init 7 = .ok (.newarray .int, 2) := by decide +kernel
theorem dX7_init_9 : decode cX7_init 9 = .ok (.putfield 7, 3) := by decide +kernel
theorem dX7_init_12 : decode cX7_init 12 = .ok (.aload_n 0, 1) := by decide +kernel
theorem dX7_init_13 : decode cX7_init 13 = .ok (.bipush 52, 2) := by decide +kernel
theorem dX7_init_15 : decode cX7_init 15 = .ok (.newarray .int, 2) := by decide +kernel
theorem dX7_init_17 : decode cX7_init 17 = .ok (.putfield 13, 3) := by decide +kernel
theorem dX7_init_20 : decode cX7_init 20 = .ok (.aload_n 0, 1) := by decide +kernel
theorem dX7_init_21 : decode cX7_init 21 = .ok (.bipush 48, 2) := by decide +kernel
theorem dX7_init_23 : decode cX7_init 23 = .ok (.newarray .int, 2) := by decide +kernel
theorem dX7_init_25 : decode cX7_init 25 = .ok (.putfield 16, 3) := by decide +kernel
theorem dX7_init_28 : decode cX7_init 28 = .ok (.aload_n 0, 1) := by decide +kernel
theorem dX7_init_29 : decode cX7_init 29 = .ok (.bipush 48, 2) := by decide +kernel
theorem dX7_init_31 : decode cX7_init 31 = .ok (.newarray .int, 2) := by decide +kernel
theorem dX7_init_33 : decode cX7_init 33 = .ok (.putfield 19, 3) := by decide +kernel
theorem dX7_init_36 : decode cX7_init 36 = .ok (.aload_n 0, 1) := by decide +kernel
theorem dX7_init_37 : decode cX7_init 37 = .ok (.sipush 768, 3) := by decide +kernel
theorem dX7_init_40 : decode cX7_init 40 = .ok (.newarray .int, 2) := by decide +kernel
theorem dX7_init_42 : decode cX7_init 42 = .ok (.putfield 22, 3) := by decide +kernel
theorem dX7_init_45 : decode cX7_init 45 = .ok (.aload_n 0, 1) := by decide +kernel
theorem dX7_init_46 : decode cX7_init 46 = .ok (.bipush 98, 2) := by decide +kernel
theorem dX7_init_48 : decode cX7_init 48 = .ok (.newarray .int, 2) := by decide +kernel
theorem dX7_init_50 : decode cX7_init 50 = .ok (.putfield 25, 3) := by decide +kernel
theorem dX7_init_53 : decode cX7_init 53 = .ok (.aload_n 0, 1) := by decide +kernel
theorem dX7_init_54 : decode cX7_init 54 = .ok (.iconst 2, 1) := by decide +kernel
theorem dX7_init_55 : decode cX7_init 55 = .ok (.newarray .boolean, 2) := by decide +kernel
theorem dX7_init_57 : decode cX7_init 57 = .ok (.putfield 28, 3) := by decide +kernel
theorem dX7_init_60 : decode cX7_init 60 = .ok (.aload_n 0, 1) := by decide +kernel
theorem dX7_init_61 : decode cX7_init 61 = .ok (.sipush 240, 3) := by decide +kernel
theorem dX7_init_64 : decode cX7_init 64 = .ok (.newarray .int, 2) := by decide +kernel
theorem dX7_init_66 : decode cX7_init 66 = .ok (.putfield 32, 3) := by decide +kernel
theorem dX7_init_69 : decode cX7_init 69 = .ok (.aload_n 0, 1) := by decide +kernel
theorem dX7_init_70 : decode cX7_init 70 = .ok (.iconst (-1), 1) := by decide +kernel
theorem dX7_init_71 : decode cX7_init 71 = .ok (.putfield 35, 3) := by decide +kernel
theorem dX7_init_74 : decode cX7_init 74 = .ok (.aload_n 0, 1) := by decide +kernel
theorem dX7_init_75 : decode cX7_init 75 = .ok (.bipush 6, 2) := by decide +kernel
theorem dX7_init_77 : decode cX7_init 77 = .ok (.newarray .int, 2) := by decide +kernel
theorem dX7_init_79 : decode cX7_init 79 = .ok (.putfield 39, 3) := by decide +kernel
theorem dX7_init_82 : decode cX7_init 82 = .ok (.aload_n 0, 1) := by decide +kernel
theorem dX7_init_83 : decode cX7_init 83 = .ok (.bipush 18, 2) := by decide +kernel
theorem dX7_init_85 : decode cX7_init 85 = .ok (.newarray .int, 2) := by decide +kernel
theorem dX7_init_87 : decode cX7_init 87 = .ok (.putfield 42, 3) := by decide +kernel
theorem dX7_init_90 : decode cX7_init 90 = .ok (.aload_n 0, 1) := by decide +kernel
theorem dX7_init_91 : decode cX7_init 91 = .ok (.bipush 30, 2) := by decide +kernel
theorem dX7_init_93 : decode cX7_init 93 = .ok (.newarray .int, 2) := by decide +kernel
theorem dX7_init_95 : decode cX7_init 95 = .ok (.putfield 45, 3) := by decide +kernel
theorem dX7_init_98 : decode cX7_init 98 = .ok (.aload_n 0, 1) := by decide +kernel
theorem dX7_init_99 : decode cX7_init 99 = .ok (.bipush 7, 2) := by decide +kernel
theorem dX7_init_101 : decode cX7_init 101 = .ok (.newarray .int, 2) := by decide +kernel
theorem dX7_init_103 : decode cX7_init 103 = .ok (.putfield 48, 3) := by decide +kernel
theorem dX7_init_106 : decode cX7_init 106 = .ok (.aload_n 0, 1) := by decide +kernel
theorem dX7_init_107 : decode cX7_init 107 = .ok (.sipush 512, 3) := by decide +kernel
theorem dX7_init_110 : decode cX7_init 110 = .ok (.newarray .int, 2) := by decide +kernel
theorem dX7_init_112 : decode cX7_init 112 = .ok (.putfield 51, 3) := by decide +kernel
theorem dX7_init_115 : decode cX7_init 115 = .ok (.aload_n 0, 1) := by decide +kernel
theorem dX7_init_116 : decode cX7_init 116 = .ok (.getfield 16, 3) := by decide +kernel
theorem dX7_init_119 : decode cX7_init 119 = .ok (.bipush 26, 2) := by decide +kernel
theorem dX7_init_121 : decode cX7_init 121 = .ok (.iconst (-1), 1) := by decide +kernel
theorem dX7_init_122 : decode cX7_init 122 = .ok (.iastore, 1) := by decide +kernel
theorem dX7_init_123 : decode cX7_init 123 = .ok (.return_, 1) := by decide +kernel
theorem dX7_in_0 : decode cX7_in 0 = .ok (.lload_n 0, 1) := by decide +kernel
theorem dX7_in_1 : decode cX7_in 1 = .ok (.lload_n 2, 1) := by decide +kernel
theorem dX7_in_2 : decode cX7_in 2 = .ok (.lcmp, 1) := by decide +kernel
theorem dX7_in_3 : decode cX7_in 3 = .ok (.ifCond .lt 14, 3) := by decide +kernel
theorem dX7_in_6 : decode cX7_in 6 = .ok (.lload_n 0, 1) := by decide +kernel
theorem dX7_in_7 : decode cX7_in 7 = .ok (.lload 4, 2) := by decide +kernel
theorem dX7_in_9 : decode cX7_in 9 = .ok (.lcmp, 1) := by decide +kernel
theorem dX7_in_10 : decode cX7_in 10 = .ok (.ifCond .gt 7, 3) := by decide +kernel
theorem dX7_in_13 : decode cX7_in 13 = .ok (.iconst 1, 1) := by decide +kernel
theorem dX7_in_14 : decode cX7_in 14 = .ok (.goto 4, 3) := by decide +kernel
theorem dX7_in_17 : decode cX7_in 17 = .ok (.iconst 0, 1) := by decide +kernel
theorem dX7_in_18 : decode cX7_in 18 = .ok (.ireturn, 1) := by decide +kernel
theorem dX7_has_0 : decode cX7_has 0 = .ok (.iload_n 0, 1) := by decide +kernel
theorem dX7_has_1 : decode cX7_has 1 = .ok (.iload_n 1, 1) := by decide +kernel
theorem dX7_has_2 : decode cX7_has 2 = .ok (.ishr, 1) := by decide +kernel
theorem dX7_has_3 : decode cX7_has 3 = .ok (.iconst 1, 1) := by decide +kernel
theorem dX7_has_4 : decode cX7_has 4 = .ok (.iand, 1) := by decide +kernel
theorem dX7_has_5 : decode cX7_has 5 = .ok (.iconst 1, 1) := by decide +kernel
theorem dX7_has_6 : decode cX7_has 6 = .ok (.if_icmp .ne 7, 3) := by decide +kernel
theorem dX7_has_9 : decode cX7_has 9 = .ok (.iconst 1, 1) := by decide +kernel
theorem dX7_has_10 : decode cX7_has 10 = .ok (.goto 4, 3) := by decide +kernel
theorem dX7_has_13 : decode cX7_has 13 = .ok (.iconst 0, 1) := by decide +kernel
theorem dX7_has_14 : decode cX7_has 14 = .ok (.ireturn, 1) := by decide +kernel
theorem dX7_bits_0 : decode cX7_bits 0 = .ok (.iconst 0, 1) := by decide +kernel
theorem dX7_bits_1 : decode cX7_bits 1 = .ok (.istore_n 1, 1) := by decide +kernel
theorem dX7_bits_2 : decode cX7_bits 2 = .ok (.iload_n 0, 1) := by decide +kernel
theorem dX7_bits_3 : decode cX7_bits 3 = .ok (.istore_n 2, 1) := by decide +kernel
theorem dX7_bits_4 : decode cX7_bits 4 = .ok (.iload_n 2, 1) := by decide +kernel
theorem dX7_bits_5 : decode cX7_bits 5 = .ok (.ifCond .eq 15, 3) := by decide +kernel
theorem dX7_bits_8 : decode cX7_bits 8 = .ok (.iinc 1 1, 3) := by decide +kernel
theorem dX7_bits_11 : decode cX7_bits 11 = .ok (.iload_n 2, 1) := by decide +kernel
theorem dX7_bits_12 : decode cX7_bits 12 = .ok (.iload_n 2, 1) := by decide +kernel
theorem dX7_bits_13 : decode cX7_bits 13 = .ok (.iconst 1, 1) := by decide +kernel
theorem dX7_bits_14 : decode cX7_bits 14 = .ok (.isub, 1) := by decide +kernel
theorem dX7_bits_15 : decode cX7_bits 15 = .ok (.iand, 1) := by decide +kernel
theorem dX7_bits_16 : decode cX7_bits 16 = .ok (.istore_n 2, 1) := by decide +kernel
theorem dX7_bits_17 : decode cX7_bits 17 = .ok (.goto (-13), 3) := by decide +kernel
theorem dX7_bits_20 : decode cX7_bits 20 = .ok (.iload_n 1, 1) := by decide +kernel
theorem dX7_bits_21 : decode cX7_bits 21 = .ok (.ireturn, 1) := by decide +kernel
theorem dX7_lesser_0 : decode cX7_lesser 0 = .ok (.iload_n 0, 1) := by decide +kernel
theorem dX7_lesser_1 : decode cX7_lesser 1 = .ok (.iload_n 1, 1) := by decide +kernel
theorem dX7_lesser_2 : decode cX7_lesser 2 = .ok (.if_icmp .ge 7, 3) := by decide +kernel
theorem dX7_lesser_5 : decode cX7_lesser 5 = .ok (.iload_n 0, 1) := by decide +kernel
theorem dX7_lesser_6 : decode cX7_lesser 6 = .ok (.goto 4, 3) := by decide +kernel
theorem dX7_lesser_9 : decode cX7_lesser 9 = .ok (.iload_n 1, 1) := by decide +kernel
theorem dX7_lesser_10 : decode cX7_lesser 10 = .ok (.ireturn, 1) := by decide +kernel
theorem dX7_greater_0 : decode cX7_greater 0 = .ok (.iload_n 0, 1) := by decide +kernel
theorem dX7_greater_1 : decode cX7_greater 1 = .ok (.iload_n 1, 1) := by decide +kernel
theorem dX7_greater_2 : decode cX7_greater 2 = .ok (.if_icmp .le 7, 3) := by decide +kernel
theorem dX7_greater_5 : decode cX7_greater 5 = .ok (.iload_n 0, 1) := by decide +kernel
theorem dX7_greater_6 : decode cX7_greater 6 = .ok (.goto 4, 3) := by decide +kernel
theorem dX7_greater_9 : decode cX7_greater 9 = .ok (.iload_n 1, 1) := by decide +kernel
theorem dX7_greater_10 : decode cX7_greater 10 = .ok (.ireturn, 1) := by decide +kernel
theorem dX7_copies_0 : decode cX7_copies 0 = .ok (.iconst 0, 1) := by decide +kernel
theorem dX7_copies_1 : decode cX7_copies 1 = .ok (.istore 5, 2) := by decide +kernel
theorem dX7_copies_3 : decode cX7_copies 3 = .ok (.iload 5, 2) := by decide +kernel
theorem dX7_copies_5 : decode cX7_copies 5 = .ok (.iload 4, 2) := by decide +kernel
theorem dX7_copies_7 : decode cX7_copies 7 = .ok (.if_icmp .ge 21, 3) := by decide +kernel
theorem dX7_copies_10 : decode cX7_copies 10 = .ok (.aload_n 2, 1) := by decide +kernel
theorem dX7_copies_11 : decode cX7_copies 11 = .ok (.iload_n 3, 1) := by decide +kernel
theorem dX7_copies_12 : decode cX7_copies 12 = .ok (.iload 5, 2) := by decide +kernel
theorem dX7_copies_14 : decode cX7_copies 14 = .ok (.iadd, 1) := by decide +kernel
theorem dX7_copies_15 : decode cX7_copies 15 = .ok (.aload_n 0, 1) := by decide +kernel
theorem dX7_copies_16 : decode cX7_copies 16 = .ok (.iload_n 1, 1) := by decide +kernel
theorem dX7_copies_17 : decode cX7_copies 17 = .ok (.iload 5, 2) := by decide +kernel
theorem dX7_copies_19 : decode cX7_copies 19 = .ok (.iadd, 1) := by decide +kernel
theorem dX7_copies_20 : decode cX7_copies 20 = .ok (.iaload, 1) := by decide +kernel
theorem dX7_copies_21 : decode cX7_copies 21 = .ok (.iastore, 1) := by decide +kernel
theorem dX7_copies_22 : decode cX7_copies 22 = .ok (.iinc 5 1, 3) := by decide +kernel
theorem dX7_copies_25 : decode cX7_copies 25 = .ok (.goto (-22), 3) := by decide +kernel
theorem dX7_copies_28 : decode cX7_copies 28 = .ok (.return_, 1) := by decide +kernel
theorem dX7_begins_0 : decode cX7_begins 0 = .ok (.iconst 0, 1) := by decide +kernel
theorem dX7_begins_1 : decode cX7_begins 1 = .ok (.istore_n 1, 1) := by decide +kernel
theorem dX7_begins_2 : decode cX7_begins 2 = .ok (.iload_n 1, 1) := by decide +kernel
theorem dX7_begins_3 : decode cX7_begins 3 = .ok (.bipush 48, 2) := by decide +kernel
theorem dX7_begins_5 : decode cX7_begins 5 = .ok (.if_icmp .ge 16, 3) := by decide +kernel
theorem dX7_begins_8 : decode cX7_begins 8 = .ok (.aload_n 0, 1) := by decide +kernel
theorem dX7_begins_9 : decode cX7_begins 9 = .ok (.getfield 16, 3) := by decide +kernel
theorem dX7_begins_12 : decode cX7_begins 12 = .ok (.iload_n 1, 1) := by decide +kernel
theorem dX7_begins_13 : decode cX7_begins 13 = .ok (.iconst 0, 1) := by decide +kernel
theorem dX7_begins_14 : decode cX7_begins 14 = .ok (.iastore, 1) := by decide +kernel
theorem dX7_begins_15 : decode cX7_begins 15 = .ok (.iinc 1 1, 3) := by decide +kernel
theorem dX7_begins_18 : decode cX7_begins 18 = .ok (.goto (-16), 3) := by decide +kernel
theorem dX7_begins_21 : decode cX7_begins 21 = .ok (.aload_n 0, 1) := by decide +kernel
theorem dX7_begins_22 : decode cX7_begins 22 = .ok (.getfield 7, 3) := by decide +kernel
theorem dX7_begins_25 : decode cX7_begins 25 = .ok (.bipush 11, 2) := by decide +kernel
theorem dX7_begins_27 : decode cX7_begins 27 = .ok (.aload_n 0, 1) := by decide +kernel
theorem dX7_begins_28 : decode cX7_begins 28 = .ok (.getfield 16, 3) := by decide +kernel
theorem dX7_begins_31 : decode cX7_begins 31 = .ok (.iconst 0, 1) := by decide +kernel
theorem dX7_begins_32 : decode cX7_begins 32 = .ok (.bipush 7, 2) := by decide +kernel
theorem dX7_begins_34 : decode cX7_begins 34 = .ok (.invokestatic 54, 3) := by decide +kernel
theorem dX7_begins_37 : decode cX7_begins 37 = .ok (.aload_n 0, 1) := by decide +kernel
theorem dX7_begins_38 : decode cX7_begins 38 = .ok (.getfield 7, 3) := by decide +kernel
theorem dX7_begins_41 : decode cX7_begins 41 = .ok (.bipush 43, 2) := by decide +kernel
theorem dX7_begins_43 : decode cX7_begins 43 = .ok (.aload_n 0, 1) := by decide +kernel
theorem dX7_begins_44 : decode cX7_begins 44 = .ok (.getfield 16, 3) := by decide +kernel
theorem dX7_begins_47 : decode cX7_begins 47 = .ok (.bipush 17, 2) := by decide +kernel
theorem dX7_begins_49 : decode cX7_begins 49 = .ok (.bipush 9, 2) := by decide +kernel
theorem dX7_begins_51 : decode cX7_begins 51 = .ok (.invokestatic 54, 3) := by decide +kernel
theorem dX7_begins_54 : decode cX7_begins 54 = .ok (.aload_n 0, 1) := by decide +kernel
theorem dX7_begins_55 : decode cX7_begins 55 = .ok (.getfield 16, 3) := by decide +kernel
theorem dX7_begins_58 : decode cX7_begins 58 = .ok (.bipush 15, 2) := by decide +kernel
theorem dX7_begins_60 : decode cX7_begins 60 = .ok (.aload_n 0, 1) := by decide +kernel
theorem dX7_begins_61 : decode cX7_begins 61 = .ok (.getfield 7, 3) := by decide +kernel
theorem dX7_begins_64 : decode cX7_begins 64 = .ok (.iconst 0, 1) := by decide +kernel
theorem dX7_begins_65 : decode cX7_begins 65 = .ok (.iaload, 1) := by decide +kernel
theorem dX7_begins_66 : decode cX7_begins 66 = .ok (.iastore, 1) := by decide +kernel
theorem dX7_begins_67 : decode cX7_begins 67 = .ok (.aload_n 0, 1) := by decide +kernel
theorem dX7_begins_68 : decode cX7_begins 68 = .ok (.getfield 16, 3) := by decide +kernel
theorem dX7_begins_71 : decode cX7_begins 71 = .ok (.bipush 26, 2) := by decide +kernel
theorem dX7_begins_73 : decode cX7_begins 73 = .ok (.aload_n 0, 1) := by decide +kernel
theorem dX7_begins_74 : decode cX7_begins 74 = .ok (.getfield 7, 3) := by decide +kernel
theorem dX7_begins_77 : decode cX7_begins 77 = .ok (.iconst 1, 1) := by decide +kernel
theorem dX7_begins_78 : decode cX7_begins 78 = .ok (.iaload, 1) := by decide +kernel
theorem dX7_begins_79 : decode cX7_begins 79 = .ok (.ifCond .ne 7, 3) := by decide +kernel
theorem dX7_begins_82 : decode cX7_begins 82 = .ok (.iconst (-1), 1) := by decide +kernel
theorem dX7_begins_83 : decode cX7_begins 83 = .ok (.goto 5, 3) := by decide +kernel
theorem dX7_begins_86 : decode cX7_begins 86 = .ok (.bipush (-2), 2) := by decide +kernel
theorem dX7_begins_88 : decode cX7_begins 88 = .ok (.iastore, 1) := by decide +kernel
theorem dX7_begins_89 : decode cX7_begins 89 = .ok (.aload_n 0, 1) := by decide +kernel
theorem dX7_begins_90 : decode cX7_begins 90 = .ok (.getfield 7, 3) := by decide +kernel
theorem dX7_begins_93 : decode cX7_begins 93 = .ok (.iconst 2, 1) := by decide +kernel
theorem dX7_begins_94 : decode cX7_begins 94 = .ok (.iaload, 1) := by decide +kernel
theorem dX7_begins_95 : decode cX7_begins 95 = .ok (.iconst 1, 1) := by decide +kernel
theorem dX7_begins_96 : decode cX7_begins 96 = .ok (.isub, 1) := by decide +kernel
theorem dX7_begins_97 : decode cX7_begins 97 = .ok (.istore_n 1, 1) := by decide +kernel
theorem dX7_begins_98 : decode cX7_begins 98 = .ok (.iload_n 1, 1) := by decide +kernel
theorem dX7_begins_99 : decode cX7_begins 99 = .ok (.ifCond .lt 39, 3) := by decide +kernel
theorem dX7_begins_102 : decode cX7_begins 102 = .ok (.aload_n 0, 1) := by decide +kernel
theorem dX7_begins_103 : decode cX7_begins 103 = .ok (.getfield 16, 3) := by decide +kernel
theorem dX7_begins_106 : decode cX7_begins 106 = .ok (.bipush 26, 2) := by decide +kernel
theorem dX7_begins_108 : decode cX7_begins 108 = .ok (.aload_n 0, 1) := by decide +kernel
theorem dX7_begins_109 : decode cX7_begins 109 = .ok (.getfield 7, 3) := by decide +kernel
theorem dX7_begins_112 : decode cX7_begins 112 = .ok (.bipush 11, 2) := by decide +kernel
theorem dX7_begins_114 : decode cX7_begins 114 = .ok (.iload_n 1, 1) := by decide +kernel
theorem dX7_begins_115 : decode cX7_begins 115 = .ok (.iadd, 1) := by decide +kernel
theorem dX7_begins_116 : decode cX7_begins 116 = .ok (.iaload, 1) := by decide +kernel
theorem dX7_begins_117 : decode cX7_begins 117 = .ok (.ifCond .le 7, 3) := by decide +kernel
theorem dX7_begins_120 : decode cX7_begins 120 = .ok (.iload_n 1, 1) := by decide +kernel
theorem dX7_begins_121 : decode cX7_begins 121 = .ok (.goto 10, 3) := by decide +kernel
theorem dX7_begins_124 : decode cX7_begins 124 = .ok (.aload_n 0, 1) := by decide +kernel
theorem dX7_begins_125 : decode cX7_begins 125 = .ok (.getfield 16, 3) := by decide +kernel
theorem dX7_begins_128 : decode cX7_begins 128 = .ok (.bipush 26, 2) := by decide +kernel
theorem dX7_begins_130 : decode cX7_begins 130 = .ok (.iaload, 1) := by decide +kernel
theorem dX7_begins_131 : decode cX7_begins 131 = .ok (.iastore, 1) := by decide +kernel
theorem dX7_begins_132 : decode cX7_begins 132 = .ok (.iinc 1 (-1), 3) := by decide +kernel
theorem dX7_begins_135 : decode cX7_begins 135 = .ok (.goto (-37), 3) := by decide +kernel
theorem dX7_begins_138 : decode cX7_begins 138 = .ok (.aload_n 0, 1) := by decide +kernel
theorem dX7_begins_139 : decode cX7_begins 139 = .ok (.getfield 16, 3) := by decide +kernel
theorem dX7_begins_142 : decode cX7_begins 142 = .ok (.bipush 27, 2) := by decide +kernel
theorem dX7_begins_144 : decode cX7_begins 144 = .ok (.aload_n 0, 1) := by decide +kernel
theorem dX7_begins_145 : decode cX7_begins 145 = .ok (.getfield 7, 3) := by decide +kernel
theorem dX7_begins_148 : decode cX7_begins 148 = .ok (.iconst 1, 1) := by decide +kernel
theorem dX7_begins_149 : decode cX7_begins 149 = .ok (.iaload, 1) := by decide +kernel
theorem dX7_begins_150 : decode cX7_begins 150 = .ok (.ifCond .ne 7, 3) := by decide +kernel
theorem dX7_begins_153 : decode cX7_begins 153 = .ok (.iconst 0, 1) := by decide +kernel
theorem dX7_begins_154 : decode cX7_begins 154 = .ok (.goto 4, 3) := by decide +kernel
theorem dX7_begins_157 : decode cX7_begins 157 = .ok (.iconst 1, 1) := by decide +kernel
theorem dX7_begins_158 : decode cX7_begins 158 = .ok (.iastore, 1) := by decide +kernel
theorem dX7_begins_159 : decode cX7_begins 159 = .ok (.aload_n 0, 1) := by decide +kernel
theorem dX7_begins_160 : decode cX7_begins 160 = .ok (.getfield 16, 3) := by decide +kernel
theorem dX7_begins_163 : decode cX7_begins 163 = .ok (.bipush 28, 2) := by decide +kernel
theorem dX7_begins_165 : decode cX7_begins 165 = .ok (.aload_n 0, 1) := by decide +kernel
theorem dX7_begins_166 : decode cX7_begins 166 = .ok (.getfield 16, 3) := by decide +kernel
theorem dX7_begins_169 : decode cX7_begins 169 = .ok (.bipush 26, 2) := by decide +kernel
theorem dX7_begins_171 : decode cX7_begins 171 = .ok (.iaload, 1) := by decide +kernel
theorem dX7_begins_172 : decode cX7_begins 172 = .ok (.iastore, 1) := by decide +kernel
theorem dX7_begins_173 : decode cX7_begins 173 = .ok (.aload_n 0, 1) := by decide +kernel
theorem dX7_begins_174 : decode cX7_begins 174 = .ok (.iconst 0, 1) := by decide +kernel
theorem dX7_begins_175 : decode cX7_begins 175 = .ok (.putfield 58, 3) := by decide +kernel
theorem dX7_begins_178 : decode cX7_begins 178 = .ok (.aload_n 0, 1) := by decide +kernel
theorem dX7_begins_179 : decode cX7_begins 179 = .ok (.iconst 0, 1) := by decide +kernel
theorem dX7_begins_180 : decode cX7_begins 180 = .ok (.putfield 61, 3) := by decide +kernel
theorem dX7_begins_183 : decode cX7_begins 183 = .ok (.aload_n 0, 1) := by decide +kernel
theorem dX7_begins_184 : decode cX7_begins 184 = .ok (.iconst 0, 1) := by decide +kernel
theorem dX7_begins_185 : decode cX7_begins 185 = .ok (.putfield 64, 3) := by decide +kernel
theorem dX7_begins_188 : decode cX7_begins 188 = .ok (.aload_n 0, 1) := by decide +kernel
theorem dX7_begins_189 : decode cX7_begins 189 = .ok (.iconst 0, 1) := by decide +kernel
theorem dX7_begins_190 : decode cX7_begins 190 = .ok (.putfield 67, 3) := by decide +kernel
theorem dX7_begins_193 : decode cX7_begins 193 = .ok (.aload_n 0, 1) := by decide +kernel
theorem dX7_begins_194 : decode cX7_begins 194 = .ok (.getfield 28, 3) := by decide +kernel
theorem dX7_begins_197 : decode cX7_begins 197 = .ok (.iconst 0, 1) := by decide +kernel
theorem dX7_begins_198 : decode cX7_begins 198 = .ok (.iconst 0, 1) := by decide +kernel
theorem dX7_begins_199 : decode cX7_begins 199 = .ok (.bastore, 1) := by decide +kernel
theorem dX7_begins_200 : decode cX7_begins 200 = .ok (.aload_n 0, 1) := by decide +kernel
theorem dX7_begins_201 : decode cX7_begins 201 = .ok (.getfield 28, 3) := by decide +kernel
theorem dX7_begins_204 : decode cX7_begins 204 = .ok (.iconst 1, 1) := by decide +kernel
theorem dX7_begins_205 : decode cX7_begins 205 = .ok (.iconst 0, 1) := by decide +kernel
theorem dX7_begins_206 : decode cX7_begins 206 = .ok (.bastore, 1) := by decide +kernel
theorem dX7_begins_207 : decode cX7_begins 207 = .ok (.return_, 1) := by decide +kernel
theorem dX7_feed_0 : decode cX7_feed 0 = .ok (.iload_n 1, 1) := by decide +kernel
theorem dX7_feed_1 : decode cX7_feed 1 = .ok (.i2l, 1) := by decide +kernel
theorem dX7_feed_2 : decode cX7_feed 2 = .ok (.lconst 0, 1) := by decide +kernel
theorem dX7_feed_3 : decode cX7_feed 3 = .ok (.ldc2_w 70, 3) := by decide +kernel
theorem dX7_feed_6 : decode cX7_feed 6 = .ok (.invokestatic 72, 3) := by decide +kernel
theorem dX7_feed_9 : decode cX7_feed 9 = .ok (.ifCond .ne 6, 3) := by decide +kernel
theorem dX7_feed_12 : decode cX7_feed 12 = .ok (.ldc 76, 2) := by decide +kernel
theorem dX7_feed_14 : decode cX7_feed 14 = .ok (.ireturn, 1) := by decide +kernel
theorem dX7_feed_15 : decode cX7_feed 15 = .ok (.aload_n 0, 1) := by decide +kernel
theorem dX7_feed_16 : decode cX7_feed 16 = .ok (.getfield 77, 3) := by decide +kernel
theorem dX7_feed_19 : decode cX7_feed 19 = .ok (.sipush 240, 3) := by decide +kernel
theorem dX7_feed_22 : decode cX7_feed 22 = .ok (.if_icmp .ne 6, 3) := by decide +kernel
theorem dX7_feed_25 : decode cX7_feed 25 = .ok (.ldc 80, 2) := by decide +kernel
theorem dX7_feed_27 : decode cX7_feed 27 = .ok (.ireturn, 1) := by decide +kernel
theorem dX7_feed_28 : decode cX7_feed 28 = .ok (.aload_n 0, 1) := by decide +kernel
theorem dX7_feed_29 : decode cX7_feed 29 = .ok (.getfield 32, 3) := by decide +kernel
theorem dX7_feed_32 : decode cX7_feed 32 = .ok (.aload_n 0, 1) := by decide +kernel
theorem dX7_feed_33 : decode cX7_feed 33 = .ok (.getfield 77, 3) := by decide +kernel
theorem dX7_feed_36 : decode cX7_feed 36 = .ok (.iload_n 1, 1) := by decide +kernel
theorem dX7_feed_37 : decode cX7_feed 37 = .ok (.iastore, 1) := by decide +kernel
theorem dX7_feed_38 : decode cX7_feed 38 = .ok (.aload_n 0, 1) := by decide +kernel
theorem dX7_feed_39 : decode cX7_feed 39 = .ok (.dup, 1) := by decide +kernel
theorem dX7_feed_40 : decode cX7_feed 40 = .ok (.getfield 77, 3) := by decide +kernel
theorem dX7_feed_43 : decode cX7_feed 43 = .ok (.iconst 1, 1) := by decide +kernel
theorem dX7_feed_44 : decode cX7_feed 44 = .ok (.iadd, 1) := by decide +kernel
theorem dX7_feed_45 : decode cX7_feed 45 = .ok (.putfield 77, 3) := by decide +kernel
theorem dX7_feed_48 : decode cX7_feed 48 = .ok (.aload_n 0, 1) := by decide +kernel
theorem dX7_feed_49 : decode cX7_feed 49 = .ok (.getfield 77, 3) := by decide +kernel
theorem dX7_feed_52 : decode cX7_feed 52 = .ok (.ireturn, 1) := by decide +kernel
theorem dX7_here_0 : decode cX7_here 0 = .ok (.aload_n 0, 1) := by decide +kernel
theorem dX7_here_1 : decode cX7_here 1 = .ok (.getfield 81, 3) := by decide +kernel
theorem dX7_here_4 : decode cX7_here 4 = .ok (.aload_n 0, 1) := by decide +kernel
theorem dX7_here_5 : decode cX7_here 5 = .ok (.getfield 77, 3) := by decide +kernel
theorem dX7_here_8 : decode cX7_here 8 = .ok (.if_icmp .ge 15, 3) := by decide +kernel
theorem dX7_here_11 : decode cX7_here 11 = .ok (.aload_n 0, 1) := by decide +kernel
theorem dX7_here_12 : decode cX7_here 12 = .ok (.getfield 32, 3) := by decide +kernel
theorem dX7_here_15 : decode cX7_here 15 = .ok (.aload_n 0, 1) := by decide +kernel
theorem dX7_here_16 : decode cX7_here 16 = .ok (.getfield 81, 3) := by decide +kernel
theorem dX7_here_19 : decode cX7_here 19 = .ok (.iaload, 1) := by decide +kernel
theorem dX7_here_20 : decode cX7_here 20 = .ok (.goto 4, 3) := by decide +kernel
theorem dX7_here_23 : decode cX7_here 23 = .ok (.iconst (-1), 1) := by decide +kernel
theorem dX7_here_24 : decode cX7_here 24 = .ok (.ireturn, 1) := by decide +kernel
theorem dX7_step_0 : decode cX7_step 0 = .ok (.aload_n 0, 1) := by decide +kernel
theorem dX7_step_1 : decode cX7_step 1 = .ok (.invokevirtual 84, 3) := by decide +kernel
theorem dX7_step_4 : decode cX7_step 4 = .ok (.bipush 32, 2) := by decide +kernel
theorem dX7_step_6 : decode cX7_step 6 = .ok (.if_icmp .ne 16, 3) := by decide +kernel
theorem dX7_step_9 : decode cX7_step 9 = .ok (.aload_n 0, 1) := by decide +kernel
theorem dX7_step_10 : decode cX7_step 10 = .ok (.dup, 1) := by decide +kernel
theorem dX7_step_11 : decode cX7_step 11 = .ok (.getfield 81, 3) := by decide +kernel
theorem dX7_step_14 : decode cX7_step 14 = .ok (.iconst 1, 1) := by decide +kernel
theorem dX7_step_15 : decode cX7_step 15 = .ok (.iadd, 1) := by decide +kernel
theorem dX7_step_16 : decode cX7_step 16 = .ok (.putfield 81, 3) := by decide +kernel
theorem dX7_step_19 : decode cX7_step 19 = .ok (.goto (-19), 3) := by decide +kernel
theorem dX7_step_22 : decode cX7_step 22 = .ok (.aload_n 0, 1) := by decide +kernel
theorem dX7_step_23 : decode cX7_step 23 = .ok (.aload_n 0, 1) := by decide +kernel
