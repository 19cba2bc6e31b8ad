theorem dX7_keep_43 : decode cX7_keep 43 = .ok (.getfield 212, 3) := by decide +kernel
theorem dX7_keep_46 : decode cX7_keep 46 = .ok (.l2i, 1) := by decide +kernel
theorem dX7_keep_47 : decode cX7_keep 47 = .ok (.iastore, 1) := by decide +kernel
theorem dX7_keep_48 : decode cX7_keep 48 = .ok (.aload_n 0, 1) := by decide +kernel
theorem dX7_keep_49 : decode cX7_keep 49 = .ok (.getfield 28, 3) := by decide +kernel
theorem dX7_keep_52 : decode cX7_keep 52 = .ok (.iload_n 1, 1) := by decide +kernel
theorem dX7_keep_53 : decode cX7_keep 53 = .ok (.iconst 1, 1) := by decide +kernel
theorem dX7_keep_54 : decode cX7_keep 54 = .ok (.bastore, 1) := by decide +kernel
theorem dX7_keep_55 : decode cX7_keep 55 = .ok (.aload_n 0, 1) := by decide +kernel
theorem dX7_keep_56 : decode cX7_keep 56 = .ok (.iconst 0, 1) := by decide +kernel
theorem dX7_keep_57 : decode cX7_keep 57 = .ok (.putfield 58, 3) := by decide +kernel
theorem dX7_keep_60 : decode cX7_keep 60 = .ok (.iconst 1, 1) := by decide +kernel
theorem dX7_keep_61 : decode cX7_keep 61 = .ok (.ireturn, 1) := by decide +kernel
theorem dX7_goBack_0 : decode cX7_goBack 0 = .ok (.iload_n 1, 1) := by decide +kernel
theorem dX7_goBack_1 : decode cX7_goBack 1 = .ok (.i2l, 1) := by decide +kernel
theorem dX7_goBack_2 : decode cX7_goBack 2 = .ok (.lconst 0, 1) := by decide +kernel
theorem dX7_goBack_3 : decode cX7_goBack 3 = .ok (.lconst 1, 1) := by decide +kernel
theorem dX7_goBack_4 : decode cX7_goBack 4 = .ok (.invokestatic 72, 3) := by decide +kernel
theorem dX7_goBack_7 : decode cX7_goBack 7 = .ok (.ifCond .ne 6, 3) := by decide +kernel
theorem dX7_goBack_10 : decode cX7_goBack 10 = .ok (.ldc 183, 2) := by decide +kernel
theorem dX7_goBack_12 : decode cX7_goBack 12 = .ok (.ireturn, 1) := by decide +kernel
theorem dX7_goBack_13 : decode cX7_goBack 13 = .ok (.aload_n 0, 1) := by decide +kernel
theorem dX7_goBack_14 : decode cX7_goBack 14 = .ok (.getfield 28, 3) := by decide +kernel
theorem dX7_goBack_17 : decode cX7_goBack 17 = .ok (.iload_n 1, 1) := by decide +kernel
theorem dX7_goBack_18 : decode cX7_goBack 18 = .ok (.baload, 1) := by decide +kernel
theorem dX7_goBack_19 : decode cX7_goBack 19 = .ok (.ifCond .ne 6, 3) := by decide +kernel
theorem dX7_goBack_22 : decode cX7_goBack 22 = .ok (.ldc 188, 2) := by decide +kernel
theorem dX7_goBack_24 : decode cX7_goBack 24 = .ok (.ireturn, 1) := by decide +kernel
theorem dX7_goBack_25 : decode cX7_goBack 25 = .ok (.aload_n 0, 1) := by decide +kernel
theorem dX7_goBack_26 : decode cX7_goBack 26 = .ok (.getfield 25, 3) := by decide +kernel
theorem dX7_goBack_29 : decode cX7_goBack 29 = .ok (.bipush 49, 2) := by decide +kernel
theorem dX7_goBack_31 : decode cX7_goBack 31 = .ok (.iload_n 1, 1) := by decide +kernel
theorem dX7_goBack_32 : decode cX7_goBack 32 = .ok (.imul, 1) := by decide +kernel
theorem dX7_goBack_33 : decode cX7_goBack 33 = .ok (.aload_n 0, 1) := by decide +kernel
theorem dX7_goBack_34 : decode cX7_goBack 34 = .ok (.getfield 16, 3) := by decide +kernel
theorem dX7_goBack_37 : decode cX7_goBack 37 = .ok (.iconst 0, 1) := by decide +kernel
theorem dX7_goBack_38 : decode cX7_goBack 38 = .ok (.bipush 48, 2) := by decide +kernel
theorem dX7_goBack_40 : decode cX7_goBack 40 = .ok (.invokestatic 54, 3) := by decide +kernel
theorem dX7_goBack_43 : decode cX7_goBack 43 = .ok (.aload_n 0, 1) := by decide +kernel
theorem dX7_goBack_44 : decode cX7_goBack 44 = .ok (.aload_n 0, 1) := by decide +kernel
theorem dX7_goBack_45 : decode cX7_goBack 45 = .ok (.getfield 25, 3) := by decide +kernel
theorem dX7_goBack_48 : decode cX7_goBack 48 = .ok (.bipush 49, 2) := by decide +kernel
theorem dX7_goBack_50 : decode cX7_goBack 50 = .ok (.iload_n 1, 1) := by decide +kernel
theorem dX7_goBack_51 : decode cX7_goBack 51 = .ok (.imul, 1) := by decide +kernel
theorem dX7_goBack_52 : decode cX7_goBack 52 = .ok (.bipush 48, 2) := by decide +kernel
theorem dX7_goBack_54 : decode cX7_goBack 54 = .ok (.iadd, 1) := by decide +kernel
theorem dX7_goBack_55 : decode cX7_goBack 55 = .ok (.iaload, 1) := by decide +kernel
theorem dX7_goBack_56 : decode cX7_goBack 56 = .ok (.i2l, 1) := by decide +kernel
theorem dX7_goBack_57 : decode cX7_goBack 57 = .ok (.putfield 212, 3) := by decide +kernel
theorem dX7_goBack_60 : decode cX7_goBack 60 = .ok (.aload_n 0, 1) := by decide +kernel
theorem dX7_goBack_61 : decode cX7_goBack 61 = .ok (.iconst 0, 1) := by decide +kernel
theorem dX7_goBack_62 : decode cX7_goBack 62 = .ok (.putfield 58, 3) := by decide +kernel
theorem dX7_goBack_65 : decode cX7_goBack 65 = .ok (.iconst 1, 1) := by decide +kernel
theorem dX7_goBack_66 : decode cX7_goBack 66 = .ok (.ireturn, 1) := by decide +kernel
theorem dJ6_bitCount_0f7a4_0 : decode cJ6_bitCount_0f7a4 0 = .ok (.iload_n 0, 1) := by decide +kernel
theorem dJ6_bitCount_0f7a4_1 : decode cJ6_bitCount_0f7a4 1 = .ok (.iload_n 0, 1) := by decide +kernel
theorem dJ6_bitCount_0f7a4_2 : decode cJ6_bitCount_0f7a4 2 = .ok (.iconst 1, 1) := by decide +kernel
theorem dJ6_bitCount_0f7a4_3 : decode cJ6_bitCount_0f7a4 3 = .ok (.iushr, 1) := by decide +kernel
theorem dJ6_bitCount_0f7a4_4 : decode cJ6_bitCount_0f7a4 4 = .ok (.ldc_w 265, 3) := by decide +kernel
theorem dJ6_bitCount_0f7a4_7 : decode cJ6_bitCount_0f7a4 7 = .ok (.iand, 1) := by decide +kernel
theorem dJ6_bitCount_0f7a4_8 : decode cJ6_bitCount_0f7a4 8 = .ok (.isub, 1) := by decide +kernel
theorem dJ6_bitCount_0f7a4_9 : decode cJ6_bitCount_0f7a4 9 = .ok (.istore_n 0, 1) := by decide +kernel
theorem dJ6_bitCount_0f7a4_10 : decode cJ6_bitCount_0f7a4 10 = .ok (.iload_n 0, 1) := by decide +kernel
theorem dJ6_bitCount_0f7a4_11 : decode cJ6_bitCount_0f7a4 11 = .ok (.ldc_w 266, 3) := by decide +kernel
theorem dJ6_bitCount_0f7a4_14 : decode cJ6_bitCount_0f7a4 14 = .ok (.iand, 1) := by decide +kernel
theorem dJ6_bitCount_0f7a4_15 : decode cJ6_bitCount_0f7a4 15 = .ok (.iload_n 0, 1) := by decide +kernel
theorem dJ6_bitCount_0f7a4_16 : decode cJ6_bitCount_0f7a4 16 = .ok (.iconst 2, 1) := by decide +kernel
theorem dJ6_bitCount_0f7a4_17 : decode cJ6_bitCount_0f7a4 17 = .ok (.iushr, 1) := by decide +kernel
theorem dJ6_bitCount_0f7a4_18 : decode cJ6_bitCount_0f7a4 18 = .ok (.ldc_w 266, 3) := by decide +kernel
theorem dJ6_bitCount_0f7a4_21 : decode cJ6_bitCount_0f7a4 21 = .ok (.iand, 1) := by decide +kernel
theorem dJ6_bitCount_0f7a4_22 : decode cJ6_bitCount_0f7a4 22 = .ok (.iadd, 1) := by decide +kernel
theorem dJ6_bitCount_0f7a4_23 : decode cJ6_bitCount_0f7a4 23 = .ok (.istore_n 0, 1) := by decide +kernel
theorem dJ6_bitCount_0f7a4_24 : decode cJ6_bitCount_0f7a4 24 = .ok (.iload_n 0, 1) := by decide +kernel
theorem dJ6_bitCount_0f7a4_25 : decode cJ6_bitCount_0f7a4 25 = .ok (.iload_n 0, 1) := by decide +kernel
theorem dJ6_bitCount_0f7a4_26 : decode cJ6_bitCount_0f7a4 26 = .ok (.iconst 4, 1) := by decide +kernel
theorem dJ6_bitCount_0f7a4_27 : decode cJ6_bitCount_0f7a4 27 = .ok (.iushr, 1) := by decide +kernel
theorem dJ6_bitCount_0f7a4_28 : decode cJ6_bitCount_0f7a4 28 = .ok (.iadd, 1) := by decide +kernel
theorem dJ6_bitCount_0f7a4_29 : decode cJ6_bitCount_0f7a4 29 = .ok (.ldc_w 267, 3) := by decide +kernel
theorem dJ6_bitCount_0f7a4_32 : decode cJ6_bitCount_0f7a4 32 = .ok (.iand, 1) := by decide +kernel
theorem dJ6_bitCount_0f7a4_33 : decode cJ6_bitCount_0f7a4 33 = .ok (.istore_n 0, 1) := by decide +kernel
theorem dJ6_bitCount_0f7a4_34 : decode cJ6_bitCount_0f7a4 34 = .ok (.iload_n 0, 1) := by decide +kernel
theorem dJ6_bitCount_0f7a4_35 : decode cJ6_bitCount_0f7a4 35 = .ok (.iload_n 0, 1) := by decide +kernel
theorem dJ6_bitCount_0f7a4_36 : decode cJ6_bitCount_0f7a4 36 = .ok (.bipush 8, 2) := by decide +kernel
theorem dJ6_bitCount_0f7a4_38 : decode cJ6_bitCount_0f7a4 38 = .ok (.iushr, 1) := by decide +kernel
theorem dJ6_bitCount_0f7a4_39 : decode cJ6_bitCount_0f7a4 39 = .ok (.iadd, 1) := by decide +kernel
theorem dJ6_bitCount_0f7a4_40 : decode cJ6_bitCount_0f7a4 40 = .ok (.istore_n 0, 1) := by decide +kernel
theorem dJ6_bitCount_0f7a4_41 : decode cJ6_bitCount_0f7a4 41 = .ok (.iload_n 0, 1) := by decide +kernel
theorem dJ6_bitCount_0f7a4_42 : decode cJ6_bitCount_0f7a4 42 = .ok (.iload_n 0, 1) := by decide +kernel
theorem dJ6_bitCount_0f7a4_43 : decode cJ6_bitCount_0f7a4 43 = .ok (.bipush 16, 2) := by decide +kernel
theorem dJ6_bitCount_0f7a4_45 : decode cJ6_bitCount_0f7a4 45 = .ok (.iushr, 1) := by decide +kernel
theorem dJ6_bitCount_0f7a4_46 : decode cJ6_bitCount_0f7a4 46 = .ok (.iadd, 1) := by decide +kernel
theorem dJ6_bitCount_0f7a4_47 : decode cJ6_bitCount_0f7a4 47 = .ok (.istore_n 0, 1) := by decide +kernel
theorem dJ6_bitCount_0f7a4_48 : decode cJ6_bitCount_0f7a4 48 = .ok (.iload_n 0, 1) := by decide +kernel
theorem dJ6_bitCount_0f7a4_49 : decode cJ6_bitCount_0f7a4 49 = .ok (.bipush 63, 2) := by decide +kernel
theorem dJ6_bitCount_0f7a4_51 : decode cJ6_bitCount_0f7a4 51 = .ok (.iand, 1) := by decide +kernel
theorem dJ6_bitCount_0f7a4_52 : decode cJ6_bitCount_0f7a4 52 = .ok (.ireturn, 1) := by decide +kernel
theorem dJ9_floorMod_7cf53_0 : decode cJ9_floorMod_7cf53 0 = .ok (.iload_n 0, 1) := by decide +kernel
theorem dJ9_floorMod_7cf53_1 : decode cJ9_floorMod_7cf53 1 = .ok (.iload_n 1, 1) := by decide +kernel
theorem dJ9_floorMod_7cf53_2 : decode cJ9_floorMod_7cf53 2 = .ok (.irem, 1) := by decide +kernel
theorem dJ9_floorMod_7cf53_3 : decode cJ9_floorMod_7cf53 3 = .ok (.istore_n 2, 1) := by decide +kernel
theorem dJ9_floorMod_7cf53_4 : decode cJ9_floorMod_7cf53 4 = .ok (.iload_n 0, 1) := by decide +kernel
theorem dJ9_floorMod_7cf53_5 : decode cJ9_floorMod_7cf53 5 = .ok (.iload_n 1, 1) := by decide +kernel
theorem dJ9_floorMod_7cf53_6 : decode cJ9_floorMod_7cf53 6 = .ok (.ixor, 1) := by decide +kernel
theorem dJ9_floorMod_7cf53_7 : decode cJ9_floorMod_7cf53 7 = .ok (.ifCond .ge 11, 3) := by decide +kernel
theorem dJ9_floorMod_7cf53_10 : decode cJ9_floorMod_7cf53 10 = .ok (.iload_n 2, 1) := by decide +kernel
theorem dJ9_floorMod_7cf53_11 : decode cJ9_floorMod_7cf53 11 = .ok (.ifCond .eq 7, 3) := by decide +kernel
theorem dJ9_floorMod_7cf53_14 : decode cJ9_floorMod_7cf53 14 = .ok (.iload_n 2, 1) := by decide +kernel
theorem dJ9_floorMod_7cf53_15 : decode cJ9_floorMod_7cf53 15 = .ok (.iload_n 1, 1) := by decide +kernel
theorem dJ9_floorMod_7cf53_16 : decode cJ9_floorMod_7cf53 16 = .ok (.iadd, 1) := by decide +kernel
theorem dJ9_floorMod_7cf53_17 : decode cJ9_floorMod_7cf53 17 = .ok (.ireturn, 1) := by decide +kernel
theorem dJ9_floorMod_7cf53_18 : decode cJ9_floorMod_7cf53 18 = .ok (.iload_n 2, 1) := by decide +kernel
theorem dJ9_floorMod_7cf53_19 : decode cJ9_floorMod_7cf53 19 = .ok (.ireturn, 1) := by decide +kernel
theorem dJ9_abs_0f7a4_0 : decode cJ9_abs_0f7a4 0 = .ok (.iload_n 0, 1) := by decide +kernel
theorem dJ9_abs_0f7a4_1 : decode cJ9_abs_0f7a4 1 = .ok (.ifCond .ge 8, 3) := by decide +kernel
theorem dJ9_abs_0f7a4_4 : decode cJ9_abs_0f7a4 4 = .ok (.iload_n 0, 1) := by decide +kernel
theorem dJ9_abs_0f7a4_5 : decode cJ9_abs_0f7a4 5 = .ok (.ineg, 1) := by decide +kernel
theorem dJ9_abs_0f7a4_6 : decode cJ9_abs_0f7a4 6 = .ok (.goto 4, 3) := by decide +kernel
theorem dJ9_abs_0f7a4_9 : decode cJ9_abs_0f7a4 9 = .ok (.iload_n 0, 1) := by decide +kernel
theorem dJ9_abs_0f7a4_10 : decode cJ9_abs_0f7a4 10 = .ok (.ireturn, 1) := by decide +kernel
theorem dJ9_max_7cf53_0 : decode cJ9_max_7cf53 0 = .ok (.iload_n 0, 1) := by decide +kernel
theorem dJ9_max_7cf53_1 : decode cJ9_max_7cf53 1 = .ok (.iload_n 1, 1) := by decide +kernel
theorem dJ9_max_7cf53_2 : decode cJ9_max_7cf53 2 = .ok (.if_icmp .lt 7, 3) := by decide +kernel
theorem dJ9_max_7cf53_5 : decode cJ9_max_7cf53 5 = .ok (.iload_n 0, 1) := by decide +kernel
theorem dJ9_max_7cf53_6 : decode cJ9_max_7cf53 6 = .ok (.goto 4, 3) := by decide +kernel
theorem dJ9_max_7cf53_9 : decode cJ9_max_7cf53 9 = .ok (.iload_n 1, 1) := by decide +kernel
theorem dJ9_max_7cf53_10 : decode cJ9_max_7cf53 10 = .ok (.ireturn, 1) := by decide +kernel
theorem dJ9_min_7cf53_0 : decode cJ9_min_7cf53 0 = .ok (.iload_n 0, 1) := by decide +kernel
theorem dJ9_min_7cf53_1 : decode cJ9_min_7cf53 1 = .ok (.iload_n 1, 1) := by decide +kernel
theorem dJ9_min_7cf53_2 : decode cJ9_min_7cf53 2 = .ok (.if_icmp .gt 7, 3) := by decide +kernel
theorem dJ9_min_7cf53_5 : decode cJ9_min_7cf53 5 = .ok (.iload_n 0, 1) := by decide +kernel
theorem dJ9_min_7cf53_6 : decode cJ9_min_7cf53 6 = .ok (.goto 4, 3) := by decide +kernel
theorem dJ9_min_7cf53_9 : decode cJ9_min_7cf53 9 = .ok (.iload_n 1, 1) := by decide +kernel
theorem dJ9_min_7cf53_10 : decode cJ9_min_7cf53 10 = .ok (.ireturn, 1) := by decide +kernel
