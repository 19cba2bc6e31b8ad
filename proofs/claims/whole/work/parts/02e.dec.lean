theorem dX7_step_24 : decode cX7_step 24 = .ok (.getfield 81, 3) := by decide +kernel
theorem dX7_step_27 : decode cX7_step 27 = .ok (.putfield 88, 3) := by decide +kernel
theorem dX7_step_30 : decode cX7_step 30 = .ok (.aload_n 0, 1) := by decide +kernel
theorem dX7_step_31 : decode cX7_step 31 = .ok (.aload_n 0, 1) := by decide +kernel
theorem dX7_step_32 : decode cX7_step 32 = .ok (.invokevirtual 84, 3) := by decide +kernel
theorem dX7_step_35 : decode cX7_step 35 = .ok (.putfield 91, 3) := by decide +kernel
theorem dX7_step_38 : decode cX7_step 38 = .ok (.aload_n 0, 1) := by decide +kernel
theorem dX7_step_39 : decode cX7_step 39 = .ok (.iconst 0, 1) := by decide +kernel
theorem dX7_step_40 : decode cX7_step 40 = .ok (.putfield 94, 3) := by decide +kernel
theorem dX7_step_43 : decode cX7_step 43 = .ok (.aload_n 0, 1) := by decide +kernel
theorem dX7_step_44 : decode cX7_step 44 = .ok (.iconst 0, 1) := by decide +kernel
theorem dX7_step_45 : decode cX7_step 45 = .ok (.putfield 97, 3) := by decide +kernel
theorem dX7_step_48 : decode cX7_step 48 = .ok (.aload_n 0, 1) := by decide +kernel
theorem dX7_step_49 : decode cX7_step 49 = .ok (.getfield 91, 3) := by decide +kernel
theorem dX7_step_52 : decode cX7_step 52 = .ok (.i2l, 1) := by decide +kernel
theorem dX7_step_53 : decode cX7_step 53 = .ok (.ldc2_w 100, 3) := by decide +kernel
theorem dX7_step_56 : decode cX7_step 56 = .ok (.ldc2_w 102, 3) := by decide +kernel
theorem dX7_step_59 : decode cX7_step 59 = .ok (.invokestatic 72, 3) := by decide +kernel
theorem dX7_step_62 : decode cX7_step 62 = .ok (.ifCond .ne 25, 3) := by decide +kernel
theorem dX7_step_65 : decode cX7_step 65 = .ok (.aload_n 0, 1) := by decide +kernel
theorem dX7_step_66 : decode cX7_step 66 = .ok (.dup, 1) := by decide +kernel
theorem dX7_step_67 : decode cX7_step 67 = .ok (.getfield 81, 3) := by decide +kernel
theorem dX7_step_70 : decode cX7_step 70 = .ok (.aload_n 0, 1) := by decide +kernel
theorem dX7_step_71 : decode cX7_step 71 = .ok (.getfield 91, 3) := by decide +kernel
theorem dX7_step_74 : decode cX7_step 74 = .ok (.ifCond .ge 7, 3) := by decide +kernel
theorem dX7_step_77 : decode cX7_step 77 = .ok (.iconst 0, 1) := by decide +kernel
theorem dX7_step_78 : decode cX7_step 78 = .ok (.goto 4, 3) := by decide +kernel
theorem dX7_step_81 : decode cX7_step 81 = .ok (.iconst 1, 1) := by decide +kernel
theorem dX7_step_82 : decode cX7_step 82 = .ok (.iadd, 1) := by decide +kernel
theorem dX7_step_83 : decode cX7_step 83 = .ok (.putfield 81, 3) := by decide +kernel
theorem dX7_step_86 : decode cX7_step 86 = .ok (.return_, 1) := by decide +kernel
theorem dX7_step_87 : decode cX7_step 87 = .ok (.aload_n 0, 1) := by decide +kernel
theorem dX7_step_88 : decode cX7_step 88 = .ok (.bipush 48, 2) := by decide +kernel
theorem dX7_step_90 : decode cX7_step 90 = .ok (.putfield 91, 3) := by decide +kernel
theorem dX7_step_93 : decode cX7_step 93 = .ok (.aload_n 0, 1) := by decide +kernel
theorem dX7_step_94 : decode cX7_step 94 = .ok (.invokevirtual 84, 3) := by decide +kernel
theorem dX7_step_97 : decode cX7_step 97 = .ok (.i2l, 1) := by decide +kernel
theorem dX7_step_98 : decode cX7_step 98 = .ok (.ldc2_w 100, 3) := by decide +kernel
theorem dX7_step_101 : decode cX7_step 101 = .ok (.ldc2_w 102, 3) := by decide +kernel
theorem dX7_step_104 : decode cX7_step 104 = .ok (.invokestatic 72, 3) := by decide +kernel
theorem dX7_step_107 : decode cX7_step 107 = .ok (.ifCond .eq 60, 3) := by decide +kernel
theorem dX7_step_110 : decode cX7_step 110 = .ok (.aload_n 0, 1) := by decide +kernel
theorem dX7_step_111 : decode cX7_step 111 = .ok (.aload_n 0, 1) := by decide +kernel
theorem dX7_step_112 : decode cX7_step 112 = .ok (.getfield 94, 3) := by decide +kernel
theorem dX7_step_115 : decode cX7_step 115 = .ok (.iconst 3, 1) := by decide +kernel
theorem dX7_step_116 : decode cX7_step 116 = .ok (.if_icmp .ge 21, 3) := by decide +kernel
theorem dX7_step_119 : decode cX7_step 119 = .ok (.bipush 10, 2) := by decide +kernel
theorem dX7_step_121 : decode cX7_step 121 = .ok (.aload_n 0, 1) := by decide +kernel
theorem dX7_step_122 : decode cX7_step 122 = .ok (.getfield 97, 3) := by decide +kernel
theorem dX7_step_125 : decode cX7_step 125 = .ok (.imul, 1) := by decide +kernel
theorem dX7_step_126 : decode cX7_step 126 = .ok (.aload_n 0, 1) := by decide +kernel
theorem dX7_step_127 : decode cX7_step 127 = .ok (.invokevirtual 84, 3) := by decide +kernel
theorem dX7_step_130 : decode cX7_step 130 = .ok (.iadd, 1) := by decide +kernel
theorem dX7_step_131 : decode cX7_step 131 = .ok (.bipush 48, 2) := by decide +kernel
theorem dX7_step_133 : decode cX7_step 133 = .ok (.isub, 1) := by decide +kernel
theorem dX7_step_134 : decode cX7_step 134 = .ok (.goto 7, 3) := by decide +kernel
theorem dX7_step_137 : decode cX7_step 137 = .ok (.aload_n 0, 1) := by decide +kernel
theorem dX7_step_138 : decode cX7_step 138 = .ok (.getfield 97, 3) := by decide +kernel
theorem dX7_step_141 : decode cX7_step 141 = .ok (.putfield 97, 3) := by decide +kernel
theorem dX7_step_144 : decode cX7_step 144 = .ok (.aload_n 0, 1) := by decide +kernel
theorem dX7_step_145 : decode cX7_step 145 = .ok (.dup, 1) := by decide +kernel
theorem dX7_step_146 : decode cX7_step 146 = .ok (.getfield 94, 3) := by decide +kernel
theorem dX7_step_149 : decode cX7_step 149 = .ok (.iconst 1, 1) := by decide +kernel
theorem dX7_step_150 : decode cX7_step 150 = .ok (.iadd, 1) := by decide +kernel
theorem dX7_step_151 : decode cX7_step 151 = .ok (.putfield 94, 3) := by decide +kernel
theorem dX7_step_154 : decode cX7_step 154 = .ok (.aload_n 0, 1) := by decide +kernel
theorem dX7_step_155 : decode cX7_step 155 = .ok (.dup, 1) := by decide +kernel
theorem dX7_step_156 : decode cX7_step 156 = .ok (.getfield 81, 3) := by decide +kernel
theorem dX7_step_159 : decode cX7_step 159 = .ok (.iconst 1, 1) := by decide +kernel
theorem dX7_step_160 : decode cX7_step 160 = .ok (.iadd, 1) := by decide +kernel
theorem dX7_step_161 : decode cX7_step 161 = .ok (.putfield 81, 3) := by decide +kernel
theorem dX7_step_164 : decode cX7_step 164 = .ok (.goto (-71), 3) := by decide +kernel
theorem dX7_step_167 : decode cX7_step 167 = .ok (.return_, 1) := by decide +kernel
theorem dX7_fails_0 : decode cX7_fails 0 = .ok (.aload_n 0, 1) := by decide +kernel
theorem dX7_fails_1 : decode cX7_fails 1 = .ok (.iload_n 1, 1) := by decide +kernel
theorem dX7_fails_2 : decode cX7_fails 2 = .ok (.putfield 104, 3) := by decide +kernel
theorem dX7_fails_5 : decode cX7_fails 5 = .ok (.iconst 0, 1) := by decide +kernel
theorem dX7_fails_6 : decode cX7_fails 6 = .ok (.ireturn, 1) := by decide +kernel
theorem dX7_number_0 : decode cX7_number 0 = .ok (.aload_n 0, 1) := by decide +kernel
theorem dX7_number_1 : decode cX7_number 1 = .ok (.invokevirtual 107, 3) := by decide +kernel
theorem dX7_number_4 : decode cX7_number 4 = .ok (.aload_n 0, 1) := by decide +kernel
theorem dX7_number_5 : decode cX7_number 5 = .ok (.getfield 91, 3) := by decide +kernel
theorem dX7_number_8 : decode cX7_number 8 = .ok (.bipush 48, 2) := by decide +kernel
theorem dX7_number_10 : decode cX7_number 10 = .ok (.if_icmp .eq 9, 3) := by decide +kernel
theorem dX7_number_13 : decode cX7_number 13 = .ok (.aload_n 0, 1) := by decide +kernel
theorem dX7_number_14 : decode cX7_number 14 = .ok (.iconst 1, 1) := by decide +kernel
theorem dX7_number_15 : decode cX7_number 15 = .ok (.invokevirtual 110, 3) := by decide +kernel
theorem dX7_number_18 : decode cX7_number 18 = .ok (.ireturn, 1) := by decide +kernel
theorem dX7_number_19 : decode cX7_number 19 = .ok (.aload_n 0, 1) := by decide +kernel
theorem dX7_number_20 : decode cX7_number 20 = .ok (.getfield 94, 3) := by decide +kernel
theorem dX7_number_23 : decode cX7_number 23 = .ok (.iconst 3, 1) := by decide +kernel
theorem dX7_number_24 : decode cX7_number 24 = .ok (.if_icmp .gt 18, 3) := by decide +kernel
theorem dX7_number_27 : decode cX7_number 27 = .ok (.aload_n 0, 1) := by decide +kernel
theorem dX7_number_28 : decode cX7_number 28 = .ok (.getfield 97, 3) := by decide +kernel
theorem dX7_number_31 : decode cX7_number 31 = .ok (.i2l, 1) := by decide +kernel
theorem dX7_number_32 : decode cX7_number 32 = .ok (.iload_n 2, 1) := by decide +kernel
theorem dX7_number_33 : decode cX7_number 33 = .ok (.i2l, 1) := by decide +kernel
theorem dX7_number_34 : decode cX7_number 34 = .ok (.iload_n 3, 1) := by decide +kernel
theorem dX7_number_35 : decode cX7_number 35 = .ok (.i2l, 1) := by decide +kernel
theorem dX7_number_36 : decode cX7_number 36 = .ok (.invokestatic 72, 3) := by decide +kernel
theorem dX7_number_39 : decode cX7_number 39 = .ok (.ifCond .ne 9, 3) := by decide +kernel
theorem dX7_number_42 : decode cX7_number 42 = .ok (.aload_n 0, 1) := by decide +kernel
theorem dX7_number_43 : decode cX7_number 43 = .ok (.iconst 2, 1) := by decide +kernel
theorem dX7_number_44 : decode cX7_number 44 = .ok (.invokevirtual 110, 3) := by decide +kernel
theorem dX7_number_47 : decode cX7_number 47 = .ok (.ireturn, 1) := by decide +kernel
theorem dX7_number_48 : decode cX7_number 48 = .ok (.aload_n 0, 1) := by decide +kernel
theorem dX7_number_49 : decode cX7_number 49 = .ok (.getfield 13, 3) := by decide +kernel
theorem dX7_number_52 : decode cX7_number 52 = .ok (.iload_n 1, 1) := by decide +kernel
theorem dX7_number_53 : decode cX7_number 53 = .ok (.aload_n 0, 1) := by decide +kernel
theorem dX7_number_54 : decode cX7_number 54 = .ok (.getfield 97, 3) := by decide +kernel
theorem dX7_number_57 : decode cX7_number 57 = .ok (.iastore, 1) := by decide +kernel
theorem dX7_number_58 : decode cX7_number 58 = .ok (.iconst 1, 1) := by decide +kernel
theorem dX7_number_59 : decode cX7_number 59 = .ok (.ireturn, 1) := by decide +kernel
theorem dX7_ends_0 : decode cX7_ends 0 = .ok (.aload_n 0, 1) := by decide +kernel
theorem dX7_ends_1 : decode cX7_ends 1 = .ok (.invokevirtual 107, 3) := by decide +kernel
theorem dX7_ends_4 : decode cX7_ends 4 = .ok (.aload_n 0, 1) := by decide +kernel
theorem dX7_ends_5 : decode cX7_ends 5 = .ok (.getfield 91, 3) := by decide +kernel
theorem dX7_ends_8 : decode cX7_ends 8 = .ok (.bipush 59, 2) := by decide +kernel
theorem dX7_ends_10 : decode cX7_ends 10 = .ok (.if_icmp .eq 11, 3) := by decide +kernel
theorem dX7_ends_13 : decode cX7_ends 13 = .ok (.aload_n 0, 1) := by decide +kernel
theorem dX7_ends_14 : decode cX7_ends 14 = .ok (.iconst 1, 1) := by decide +kernel
theorem dX7_ends_15 : decode cX7_ends 15 = .ok (.invokevirtual 110, 3) := by decide +kernel
theorem dX7_ends_18 : decode cX7_ends 18 = .ok (.ifCond .eq 7, 3) := by decide +kernel
theorem dX7_ends_21 : decode cX7_ends 21 = .ok (.iconst 1, 1) := by decide +kernel
theorem dX7_ends_22 : decode cX7_ends 22 = .ok (.goto 4, 3) := by decide +kernel
theorem dX7_ends_25 : decode cX7_ends 25 = .ok (.iconst 0, 1) := by decide +kernel
theorem dX7_ends_26 : decode cX7_ends 26 = .ok (.ireturn, 1) := by decide +kernel
theorem dX7_readsPerson_0 : decode cX7_readsPerson 0 = .ok (.aload_n 0, 1) := by decide +kernel
theorem dX7_readsPerson_1 : decode cX7_readsPerson 1 = .ok (.getfield 13, 3) := by decide +kernel
theorem dX7_readsPerson_4 : decode cX7_readsPerson 4 = .ok (.iconst 2, 1) := by decide +kernel
theorem dX7_readsPerson_5 : decode cX7_readsPerson 5 = .ok (.iaload, 1) := by decide +kernel
theorem dX7_readsPerson_6 : decode cX7_readsPerson 6 = .ok (.istore_n 1, 1) := by decide +kernel
theorem dX7_readsPerson_7 : decode cX7_readsPerson 7 = .ok (.iload_n 1, 1) := by decide +kernel
theorem dX7_readsPerson_8 : decode cX7_readsPerson 8 = .ok (.bipush 7, 2) := by decide +kernel
theorem dX7_readsPerson_10 : decode cX7_readsPerson 10 = .ok (.if_icmp .ne 9, 3) := by decide +kernel
theorem dX7_readsPerson_13 : decode cX7_readsPerson 13 = .ok (.aload_n 0, 1) := by decide +kernel
theorem dX7_readsPerson_14 : decode cX7_readsPerson 14 = .ok (.iconst 3, 1) := by decide +kernel
theorem dX7_readsPerson_15 : decode cX7_readsPerson 15 = .ok (.invokevirtual 110, 3) := by decide +kernel
theorem dX7_readsPerson_18 : decode cX7_readsPerson 18 = .ok (.ireturn, 1) := by decide +kernel
theorem dX7_readsPerson_19 : decode cX7_readsPerson 19 = .ok (.aload_n 0, 1) := by decide +kernel
theorem dX7_readsPerson_20 : decode cX7_readsPerson 20 = .ok (.getfield 13, 3) := by decide +kernel
theorem dX7_readsPerson_23 : decode cX7_readsPerson 23 = .ok (.iconst 2, 1) := by decide +kernel
theorem dX7_readsPerson_24 : decode cX7_readsPerson 24 = .ok (.dup2, 1) := by decide +kernel
theorem dX7_readsPerson_25 : decode cX7_readsPerson 25 = .ok (.iaload, 1) := by decide +kernel
theorem dX7_readsPerson_26 : decode cX7_readsPerson 26 = .ok (.iconst 1, 1) := by decide +kernel
theorem dX7_readsPerson_27 : decode cX7_readsPerson 27 = .ok (.iadd, 1) := by decide +kernel
theorem dX7_readsPerson_28 : decode cX7_readsPerson 28 = .ok (.iastore, 1) := by decide +kernel
theorem dX7_readsPerson_29 : decode cX7_readsPerson 29 = .ok (.aload_n 0, 1) := by decide +kernel
theorem dX7_readsPerson_30 : decode cX7_readsPerson 30 = .ok (.iconst 4, 1) := by decide +kernel
theorem dX7_readsPerson_31 : decode cX7_readsPerson 31 = .ok (.iload_n 1, 1) := by decide +kernel
theorem dX7_readsPerson_32 : decode cX7_readsPerson 32 = .ok (.iadd, 1) := by decide +kernel
theorem dX7_readsPerson_33 : decode cX7_readsPerson 33 = .ok (.iconst 0, 1) := by decide +kernel
theorem dX7_readsPerson_34 : decode cX7_readsPerson 34 = .ok (.iconst 4, 1) := by decide +kernel
theorem dX7_readsPerson_35 : decode cX7_readsPerson 35 = .ok (.invokevirtual 114, 3) := by decide +kernel
theorem dX7_readsPerson_38 : decode cX7_readsPerson 38 = .ok (.ifCond .eq 42, 3) := by decide +kernel
theorem dX7_readsPerson_41 : decode cX7_readsPerson 41 = .ok (.aload_n 0, 1) := by decide +kernel
theorem dX7_readsPerson_42 : decode cX7_readsPerson 42 = .ok (.bipush 11, 2) := by decide +kernel
theorem dX7_readsPerson_44 : decode cX7_readsPerson 44 = .ok (.iload_n 1, 1) := by decide +kernel
theorem dX7_readsPerson_45 : decode cX7_readsPerson 45 = .ok (.iadd, 1) := by decide +kernel
theorem dX7_readsPerson_46 : decode cX7_readsPerson 46 = .ok (.iconst 0, 1) := by decide +kernel
theorem dX7_readsPerson_47 : decode cX7_readsPerson 47 = .ok (.bipush 99, 2) := by decide +kernel
theorem dX7_readsPerson_49 : decode cX7_readsPerson 49 = .ok (.invokevirtual 114, 3) := by decide +kernel
theorem dX7_readsPerson_52 : decode cX7_readsPerson 52 = .ok (.ifCond .eq 28, 3) := by decide +kernel
theorem dX7_readsPerson_55 : decode cX7_readsPerson 55 = .ok (.aload_n 0, 1) := by decide +kernel
theorem dX7_readsPerson_56 : decode cX7_readsPerson 56 = .ok (.bipush 18, 2) := by decide +kernel
theorem dX7_readsPerson_58 : decode cX7_readsPerson 58 = .ok (.iload_n 1, 1) := by decide +kernel
theorem dX7_readsPerson_59 : decode cX7_readsPerson 59 = .ok (.iadd, 1) := by decide +kernel
theorem dX7_readsPerson_60 : decode cX7_readsPerson 60 = .ok (.iconst 0, 1) := by decide +kernel
theorem dX7_readsPerson_61 : decode cX7_readsPerson 61 = .ok (.bipush 50, 2) := by decide +kernel
theorem dX7_readsPerson_63 : decode cX7_readsPerson 63 = .ok (.invokevirtual 114, 3) := by decide +kernel
theorem dX7_readsPerson_66 : decode cX7_readsPerson 66 = .ok (.ifCond .eq 14, 3) := by decide +kernel
theorem dX7_readsPerson_69 : decode cX7_readsPerson 69 = .ok (.aload_n 0, 1) := by decide +kernel
theorem dX7_readsPerson_70 : decode cX7_readsPerson 70 = .ok (.invokevirtual 118, 3) := by decide +kernel
theorem dX7_readsPerson_73 : decode cX7_readsPerson 73 = .ok (.ifCond .eq 7, 3) := by decide +kernel
theorem dX7_readsPerson_76 : decode cX7_readsPerson 76 = .ok (.iconst 1, 1) := by decide +kernel
theorem dX7_readsPerson_77 : decode cX7_readsPerson 77 = .ok (.goto 4, 3) := by decide +kernel
theorem dX7_readsPerson_80 : decode cX7_readsPerson 80 = .ok (.iconst 0, 1) := by decide +kernel
theorem dX7_readsPerson_81 : decode cX7_readsPerson 81 = .ok (.ireturn, 1) := by decide +kernel
theorem dX7_readsDebt_0 : decode cX7_readsDebt 0 = .ok (.aload_n 0, 1) := by decide +kernel
theorem dX7_readsDebt_1 : decode cX7_readsDebt 1 = .ok (.getfield 13, 3) := by decide +kernel
theorem dX7_readsDebt_4 : decode cX7_readsDebt 4 = .ok (.iconst 3, 1) := by decide +kernel
theorem dX7_readsDebt_5 : decode cX7_readsDebt 5 = .ok (.iaload, 1) := by decide +kernel
theorem dX7_readsDebt_6 : decode cX7_readsDebt 6 = .ok (.istore_n 1, 1) := by decide +kernel
theorem dX7_readsDebt_7 : decode cX7_readsDebt 7 = .ok (.iload_n 1, 1) := by decide +kernel
theorem dX7_readsDebt_8 : decode cX7_readsDebt 8 = .ok (.bipush 9, 2) := by decide +kernel
theorem dX7_readsDebt_10 : decode cX7_readsDebt 10 = .ok (.if_icmp .ne 9, 3) := by decide +kernel
theorem dX7_readsDebt_13 : decode cX7_readsDebt 13 = .ok (.aload_n 0, 1) := by decide +kernel
theorem dX7_readsDebt_14 : decode cX7_readsDebt 14 = .ok (.iconst 3, 1) := by decide +kernel
theorem dX7_readsDebt_15 : decode cX7_readsDebt 15 = .ok (.invokevirtual 110, 3) := by decide +kernel
theorem dX7_readsDebt_18 : decode cX7_readsDebt 18 = .ok (.ireturn, 1) := by decide +kernel
theorem dX7_readsDebt_19 : decode cX7_readsDebt 19 = .ok (.aload_n 0, 1) := by decide +kernel
theorem dX7_readsDebt_20 : decode cX7_readsDebt 20 = .ok (.getfield 13, 3) := by decide +kernel
theorem dX7_readsDebt_23 : decode cX7_readsDebt 23 = .ok (.iconst 3, 1) := by decide +kernel
theorem dX7_readsDebt_24 : decode cX7_readsDebt 24 = .ok (.dup2, 1) := by decide +kernel
theorem dX7_readsDebt_25 : decode cX7_readsDebt 25 = .ok (.iaload, 1) := by decide +kernel
theorem dX7_readsDebt_26 : decode cX7_readsDebt 26 = .ok (.iconst 1, 1) := by decide +kernel
theorem dX7_readsDebt_27 : decode cX7_readsDebt 27 = .ok (.iadd, 1) := by decide +kernel
theorem dX7_readsDebt_28 : decode cX7_readsDebt 28 = .ok (.iastore, 1) := by decide +kernel
theorem dX7_readsDebt_29 : decode cX7_readsDebt 29 = .ok (.aload_n 0, 1) := by decide +kernel
theorem dX7_readsDebt_30 : decode cX7_readsDebt 30 = .ok (.getfield 13, 3) := by decide +kernel
theorem dX7_readsDebt_33 : decode cX7_readsDebt 33 = .ok (.iconst 2, 1) := by decide +kernel
theorem dX7_readsDebt_34 : decode cX7_readsDebt 34 = .ok (.iaload, 1) := by decide +kernel
theorem dX7_readsDebt_35 : decode cX7_readsDebt 35 = .ok (.iconst 1, 1) := by decide +kernel
theorem dX7_readsDebt_36 : decode cX7_readsDebt 36 = .ok (.isub, 1) := by decide +kernel
theorem dX7_readsDebt_37 : decode cX7_readsDebt 37 = .ok (.istore_n 2, 1) := by decide +kernel
theorem dX7_readsDebt_38 : decode cX7_readsDebt 38 = .ok (.aload_n 0, 1) := by decide +kernel
theorem dX7_readsDebt_39 : decode cX7_readsDebt 39 = .ok (.bipush 25, 2) := by decide +kernel
theorem dX7_readsDebt_41 : decode cX7_readsDebt 41 = .ok (.iload_n 1, 1) := by decide +kernel
theorem dX7_readsDebt_42 : decode cX7_readsDebt 42 = .ok (.iadd, 1) := by decide +kernel
theorem dX7_readsDebt_43 : decode cX7_readsDebt 43 = .ok (.iconst 0, 1) := by decide +kernel
theorem dX7_readsDebt_44 : decode cX7_readsDebt 44 = .ok (.iload_n 2, 1) := by decide +kernel
theorem dX7_readsDebt_45 : decode cX7_readsDebt 45 = .ok (.invokevirtual 114, 3) := by decide +kernel
theorem dX7_readsDebt_48 : decode cX7_readsDebt 48 = .ok (.ifCond .eq 16, 3) := by decide +kernel
theorem dX7_readsDebt_51 : decode cX7_readsDebt 51 = .ok (.aload_n 0, 1) := by decide +kernel
theorem dX7_readsDebt_52 : decode cX7_readsDebt 52 = .ok (.bipush 34, 2) := by decide +kernel
theorem dX7_readsDebt_54 : decode cX7_readsDebt 54 = .ok (.iload_n 1, 1) := by decide +kernel
theorem dX7_readsDebt_55 : decode cX7_readsDebt 55 = .ok (.iadd, 1) := by decide +kernel
theorem dX7_readsDebt_56 : decode cX7_readsDebt 56 = .ok (.iconst 0, 1) := by decide +kernel
theorem dX7_readsDebt_57 : decode cX7_readsDebt 57 = .ok (.iload_n 2, 1) := by decide +kernel
theorem dX7_readsDebt_58 : decode cX7_readsDebt 58 = .ok (.invokevirtual 114, 3) := by decide +kernel
theorem dX7_readsDebt_61 : decode cX7_readsDebt 61 = .ok (.ifCond .ne 5, 3) := by decide +kernel
theorem dX7_readsDebt_64 : decode cX7_readsDebt 64 = .ok (.iconst 0, 1) := by decide +kernel
theorem dX7_readsDebt_65 : decode cX7_readsDebt 65 = .ok (.ireturn, 1) := by decide +kernel
theorem dX7_readsDebt_66 : decode cX7_readsDebt 66 = .ok (.aload_n 0, 1) := by decide +kernel
theorem dX7_readsDebt_67 : decode cX7_readsDebt 67 = .ok (.getfield 13, 3) := by decide +kernel
theorem dX7_readsDebt_70 : decode cX7_readsDebt 70 = .ok (.bipush 25, 2) := by decide +kernel
theorem dX7_readsDebt_72 : decode cX7_readsDebt 72 = .ok (.iload_n 1, 1) := by decide +kernel
theorem dX7_readsDebt_73 : decode cX7_readsDebt 73 = .ok (.iadd, 1) := by decide +kernel
theorem dX7_readsDebt_74 : decode cX7_readsDebt 74 = .ok (.iaload, 1) := by decide +kernel
theorem dX7_readsDebt_75 : decode cX7_readsDebt 75 = .ok (.aload_n 0, 1) := by decide +kernel
theorem dX7_readsDebt_76 : decode cX7_readsDebt 76 = .ok (.getfield 13, 3) := by decide +kernel
theorem dX7_readsDebt_79 : decode cX7_readsDebt 79 = .ok (.bipush 34, 2) := by decide +kernel
theorem dX7_readsDebt_81 : decode cX7_readsDebt 81 = .ok (.iload_n 1, 1) := by decide +kernel
theorem dX7_readsDebt_82 : decode cX7_readsDebt 82 = .ok (.iadd, 1) := by decide +kernel
theorem dX7_readsDebt_83 : decode cX7_readsDebt 83 = .ok (.iaload, 1) := by decide +kernel
theorem dX7_readsDebt_84 : decode cX7_readsDebt 84 = .ok (.if_icmp .ne 9, 3) := by decide +kernel
theorem dX7_readsDebt_87 : decode cX7_readsDebt 87 = .ok (.aload_n 0, 1) := by decide +kernel
theorem dX7_readsDebt_88 : decode cX7_readsDebt 88 = .ok (.iconst 4, 1) := by decide +kernel
theorem dX7_readsDebt_89 : decode cX7_readsDebt 89 = .ok (.invokevirtual 110, 3) := by decide +kernel
theorem dX7_readsDebt_92 : decode cX7_readsDebt 92 = .ok (.ireturn, 1) := by decide +kernel
theorem dX7_readsDebt_93 : decode cX7_readsDebt 93 = .ok (.aload_n 0, 1) := by decide +kernel
theorem dX7_readsDebt_94 : decode cX7_readsDebt 94 = .ok (.bipush 43, 2) := by decide +kernel
theorem dX7_readsDebt_96 : decode cX7_readsDebt 96 = .ok (.iload_n 1, 1) := by decide +kernel
theorem dX7_readsDebt_97 : decode cX7_readsDebt 97 = .ok (.iadd, 1) := by decide +kernel
theorem dX7_readsDebt_98 : decode cX7_readsDebt 98 = .ok (.iconst 1, 1) := by decide +kernel
theorem dX7_readsDebt_99 : decode cX7_readsDebt 99 = .ok (.bipush 99, 2) := by decide +kernel
theorem dX7_readsDebt_101 : decode cX7_readsDebt 101 = .ok (.invokevirtual 114, 3) := by decide +kernel
theorem dX7_readsDebt_104 : decode cX7_readsDebt 104 = .ok (.ifCond .eq 14, 3) := by decide +kernel
theorem dX7_readsDebt_107 : decode cX7_readsDebt 107 = .ok (.aload_n 0, 1) := by decide +kernel
theorem dX7_readsDebt_108 : decode cX7_readsDebt 108 = .ok (.invokevirtual 118, 3) := by decide +kernel
theorem dX7_readsDebt_111 : decode cX7_readsDebt 111 = .ok (.ifCond .eq 7, 3) := by decide +kernel
theorem dX7_readsDebt_114 : decode cX7_readsDebt 114 = .ok (.iconst 1, 1) := by decide +kernel
theorem dX7_readsDebt_115 : decode cX7_readsDebt 115 = .ok (.goto 4, 3) := by decide +kernel
theorem dX7_readsDebt_118 : decode cX7_readsDebt 118 = .ok (.iconst 0, 1) := by decide +kernel
theorem dX7_readsDebt_119 : decode cX7_readsDebt 119 = .ok (.ireturn, 1) := by decide +kernel
theorem dX7_readsClause_0 : decode cX7_readsClause 0 = .ok (.aload_n 0, 1) := by decide +kernel
theorem dX7_readsClause_1 : decode cX7_readsClause 1 = .ok (.getfield 91, 3) := by decide +kernel
theorem dX7_readsClause_4 : decode cX7_readsClause 4 = .ok (.bipush 116, 2) := by decide +kernel
theorem dX7_readsClause_6 : decode cX7_readsClause 6 = .ok (.if_icmp .ne 56, 3) := by decide +kernel
theorem dX7_readsClause_9 : decode cX7_readsClause 9 = .ok (.aload_n 0, 1) := by decide +kernel
theorem dX7_readsClause_10 : decode cX7_readsClause 10 = .ok (.getfield 13, 3) := by decide +kernel
theorem dX7_readsClause_13 : decode cX7_readsClause 13 = .ok (.iconst 1, 1) := by decide +kernel
theorem dX7_readsClause_14 : decode cX7_readsClause 14 = .ok (.iaload, 1) := by decide +kernel
theorem dX7_readsClause_15 : decode cX7_readsClause 15 = .ok (.ifCond .le 11, 3) := by decide +kernel
theorem dX7_readsClause_18 : decode cX7_readsClause 18 = .ok (.aload_n 0, 1) := by decide +kernel
theorem dX7_readsClause_19 : decode cX7_readsClause 19 = .ok (.iconst 3, 1) := by decide +kernel
theorem dX7_readsClause_20 : decode cX7_readsClause 20 = .ok (.invokevirtual 110, 3) := by decide +kernel
theorem dX7_readsClause_23 : decode cX7_readsClause 23 = .ok (.goto 38, 3) := by decide +kernel
theorem dX7_readsClause_26 : decode cX7_readsClause 26 = .ok (.aload_n 0, 1) := by decide +kernel
theorem dX7_readsClause_27 : decode cX7_readsClause 27 = .ok (.iconst 0, 1) := by decide +kernel
theorem dX7_readsClause_28 : decode cX7_readsClause 28 = .ok (.iconst 0, 1) := by decide +kernel
theorem dX7_readsClause_29 : decode cX7_readsClause 29 = .ok (.sipush 999, 3) := by decide +kernel
theorem dX7_readsClause_32 : decode cX7_readsClause 32 = .ok (.invokevirtual 114, 3) := by decide +kernel
theorem dX7_readsClause_35 : decode cX7_readsClause 35 = .ok (.ifCond .eq 25, 3) := by decide +kernel
theorem dX7_readsClause_38 : decode cX7_readsClause 38 = .ok (.aload_n 0, 1) := by decide +kernel
theorem dX7_readsClause_39 : decode cX7_readsClause 39 = .ok (.iconst 1, 1) := by decide +kernel
theorem dX7_readsClause_40 : decode cX7_readsClause 40 = .ok (.iconst 1, 1) := by decide +kernel
theorem dX7_readsClause_41 : decode cX7_readsClause 41 = .ok (.bipush 24, 2) := by decide +kernel
theorem dX7_readsClause_43 : decode cX7_readsClause 43 = .ok (.invokevirtual 114, 3) := by decide +kernel
theorem dX7_readsClause_46 : decode cX7_readsClause 46 = .ok (.ifCond .eq 14, 3) := by decide +kernel
theorem dX7_readsClause_49 : decode cX7_readsClause 49 = .ok (.aload_n 0, 1) := by decide +kernel
theorem dX7_readsClause_50 : decode cX7_readsClause 50 = .ok (.invokevirtual 118, 3) := by decide +kernel
theorem dX7_readsClause_53 : decode cX7_readsClause 53 = .ok (.ifCond .eq 7, 3) := by decide +kernel
theorem dX7_readsClause_56 : decode cX7_readsClause 56 = .ok (.iconst 1, 1) := by decide +kernel
theorem dX7_readsClause_57 : decode cX7_readsClause 57 = .ok (.goto 4, 3) := by decide +kernel
theorem dX7_readsClause_60 : decode cX7_readsClause 60 = .ok (.iconst 0, 1) := by decide +kernel
theorem dX7_readsClause_61 : decode cX7_readsClause 61 = .ok (.ireturn, 1) := by decide +kernel
theorem dX7_readsClause_62 : decode cX7_readsClause 62 = .ok (.aload_n 0, 1) := by decide +kernel
theorem dX7_readsClause_63 : decode cX7_readsClause 63 = .ok (.getfield 13, 3) := by decide +kernel
theorem dX7_readsClause_66 : decode cX7_readsClause 66 = .ok (.iconst 1, 1) := by decide +kernel
theorem dX7_readsClause_67 : decode cX7_readsClause 67 = .ok (.iaload, 1) := by decide +kernel
theorem dX7_readsClause_68 : decode cX7_readsClause 68 = .ok (.ifCond .ne 9, 3) := by decide +kernel
theorem dX7_readsClause_71 : decode cX7_readsClause 71 = .ok (.aload_n 0, 1) := by decide +kernel
theorem dX7_readsClause_72 : decode cX7_readsClause 72 = .ok (.iconst 1, 1) := by decide +kernel
theorem dX7_readsClause_73 : decode cX7_readsClause 73 = .ok (.invokevirtual 110, 3) := by decide +kernel
theorem dX7_readsClause_76 : decode cX7_readsClause 76 = .ok (.ireturn, 1) := by decide +kernel
theorem dX7_readsClause_77 : decode cX7_readsClause 77 = .ok (.aload_n 0, 1) := by decide +kernel
theorem dX7_readsClause_78 : decode cX7_readsClause 78 = .ok (.getfield 91, 3) := by decide +kernel
theorem dX7_readsClause_81 : decode cX7_readsClause 81 = .ok (.lookupswitch 37 #[(100, 32), (112, 27)], 27) := by decide +kernel
theorem dX7_readsClause_108 : decode cX7_readsClause 108 = .ok (.aload_n 0, 1) := by decide +kernel
theorem dX7_readsClause_109 : decode cX7_readsClause 109 = .ok (.invokevirtual 122, 3) := by decide +kernel
theorem dX7_readsClause_112 : decode cX7_readsClause 112 = .ok (.ireturn, 1) := by decide +kernel
theorem dX7_readsClause_113 : decode cX7_readsClause 113 = .ok (.aload_n 0, 1) := by decide +kernel
theorem dX7_readsClause_114 : decode cX7_readsClause 114 = .ok (.invokevirtual 125, 3) := by decide +kernel
theorem dX7_readsClause_117 : decode cX7_readsClause 117 = .ok (.ireturn, 1) := by decide +kernel
theorem dX7_readsClause_118 : decode cX7_readsClause 118 = .ok (.aload_n 0, 1) := by decide +kernel
theorem dX7_readsClause_119 : decode cX7_readsClause 119 = .ok (.iconst 1, 1) := by decide +kernel
theorem dX7_readsClause_120 : decode cX7_readsClause 120 = .ok (.invokevirtual 110, 3) := by decide +kernel
theorem dX7_readsClause_123 : decode cX7_readsClause 123 = .ok (.ireturn, 1) := by decide +kernel
theorem dX7_parish_0 : decode cX7_parish 0 = .ok (.iconst 0, 1) := by decide +kernel
theorem dX7_parish_1 : decode cX7_parish 1 = .ok (.istore_n 1, 1) := by decide +kernel
theorem dX7_parish_2 : decode cX7_parish 2 = .ok (.iload_n 1, 1) := by decide +kernel
theorem dX7_parish_3 : decode cX7_parish 3 = .ok (.bipush 52, 2) := by decide +kernel
theorem dX7_parish_5 : decode cX7_parish 5 = .ok (.if_icmp .ge 16, 3) := by decide +kernel
theorem dX7_parish_8 : decode cX7_parish 8 = .ok (.aload_n 0, 1) := by decide +kernel
theorem dX7_parish_9 : decode cX7_parish 9 = .ok (.getfield 13, 3) := by decide +kernel
theorem dX7_parish_12 : decode cX7_parish 12 = .ok (.iload_n 1, 1) := by decide +kernel
theorem dX7_parish_13 : decode cX7_parish 13 = .ok (.iconst 0, 1) := by decide +kernel
theorem dX7_parish_14 : decode cX7_parish 14 = .ok (.iastore, 1) := by decide +kernel
theorem dX7_parish_15 : decode cX7_parish 15 = .ok (.iinc 1 1, 3) := by decide +kernel
theorem dX7_parish_18 : decode cX7_parish 18 = .ok (.goto (-16), 3) := by decide +kernel
theorem dX7_parish_21 : decode cX7_parish 21 = .ok (.aload_n 0, 1) := by decide +kernel
theorem dX7_parish_22 : decode cX7_parish 22 = .ok (.iconst 0, 1) := by decide +kernel
theorem dX7_parish_23 : decode cX7_parish 23 = .ok (.putfield 81, 3) := by decide +kernel
theorem dX7_parish_26 : decode cX7_parish 26 = .ok (.aload_n 0, 1) := by decide +kernel
theorem dX7_parish_27 : decode cX7_parish 27 = .ok (.iconst (-1), 1) := by decide +kernel
theorem dX7_parish_28 : decode cX7_parish 28 = .ok (.putfield 35, 3) := by decide +kernel
theorem dX7_parish_31 : decode cX7_parish 31 = .ok (.iconst 1, 1) := by decide +kernel
theorem dX7_parish_32 : decode cX7_parish 32 = .ok (.istore_n 1, 1) := by decide +kernel
theorem dX7_parish_33 : decode cX7_parish 33 = .ok (.aload_n 0, 1) := by decide +kernel
theorem dX7_parish_34 : decode cX7_parish 34 = .ok (.invokevirtual 107, 3) := by decide +kernel
theorem dX7_parish_37 : decode cX7_parish 37 = .ok (.aload_n 0, 1) := by decide +kernel
theorem dX7_parish_38 : decode cX7_parish 38 = .ok (.getfield 91, 3) := by decide +kernel
theorem dX7_parish_41 : decode cX7_parish 41 = .ok (.ifCond .lt 23, 3) := by decide +kernel
theorem dX7_parish_44 : decode cX7_parish 44 = .ok (.iload_n 1, 1) := by decide +kernel
theorem dX7_parish_45 : decode cX7_parish 45 = .ok (.ifCond .eq 19, 3) := by decide +kernel
theorem dX7_parish_48 : decode cX7_parish 48 = .ok (.aload_n 0, 1) := by decide +kernel
theorem dX7_parish_49 : decode cX7_parish 49 = .ok (.invokevirtual 128, 3) := by decide +kernel
theorem dX7_parish_52 : decode cX7_parish 52 = .ok (.istore_n 1, 1) := by decide +kernel
theorem dX7_parish_53 : decode cX7_parish 53 = .ok (.iload_n 1, 1) := by decide +kernel
theorem dX7_parish_54 : decode cX7_parish 54 = .ok (.ifCond .eq (-17), 3) := by decide +kernel
theorem dX7_parish_57 : decode cX7_parish 57 = .ok (.aload_n 0, 1) := by decide +kernel
theorem dX7_parish_58 : decode cX7_parish 58 = .ok (.invokevirtual 107, 3) := by decide +kernel
theorem dX7_parish_61 : decode cX7_parish 61 = .ok (.goto (-24), 3) := by decide +kernel
theorem dX7_parish_64 : decode cX7_parish 64 = .ok (.aload_n 0, 1) := by decide +kernel
theorem dX7_parish_65 : decode cX7_parish 65 = .ok (.iconst 0, 1) := by decide +kernel
theorem dX7_parish_66 : decode cX7_parish 66 = .ok (.putfield 77, 3) := by decide +kernel
theorem dX7_parish_69 : decode cX7_parish 69 = .ok (.iload_n 1, 1) := by decide +kernel
theorem dX7_parish_70 : decode cX7_parish 70 = .ok (.ifCond .ne 19, 3) := by decide +kernel
theorem dX7_parish_73 : decode cX7_parish 73 = .ok (.aload_n 0, 1) := by decide +kernel
theorem dX7_parish_74 : decode cX7_parish 74 = .ok (.aload_n 0, 1) := by decide +kernel
theorem dX7_parish_75 : decode cX7_parish 75 = .ok (.getfield 88, 3) := by decide +kernel
theorem dX7_parish_78 : decode cX7_parish 78 = .ok (.putfield 35, 3) := by decide +kernel
theorem dX7_parish_81 : decode cX7_parish 81 = .ok (.bipush (-10), 2) := by decide +kernel
theorem dX7_parish_83 : decode cX7_parish 83 = .ok (.aload_n 0, 1) := by decide +kernel
theorem dX7_parish_84 : decode cX7_parish 84 = .ok (.getfield 104, 3) := by decide +kernel
theorem dX7_parish_87 : decode cX7_parish 87 = .ok (.isub, 1) := by decide +kernel
theorem dX7_parish_88 : decode cX7_parish 88 = .ok (.ireturn, 1) := by decide +kernel
theorem dX7_parish_89 : decode cX7_parish 89 = .ok (.aload_n 0, 1) := by decide +kernel
theorem dX7_parish_90 : decode cX7_parish 90 = .ok (.getfield 13, 3) := by decide +kernel
theorem dX7_parish_93 : decode cX7_parish 93 = .ok (.iconst 0, 1) := by decide +kernel
theorem dX7_parish_94 : decode cX7_parish 94 = .ok (.aload_n 0, 1) := by decide +kernel
theorem dX7_parish_95 : decode cX7_parish 95 = .ok (.getfield 7, 3) := by decide +kernel
theorem dX7_parish_98 : decode cX7_parish 98 = .ok (.iconst 0, 1) := by decide +kernel
theorem dX7_parish_99 : decode cX7_parish 99 = .ok (.bipush 52, 2) := by decide +kernel
theorem dX7_parish_101 : decode cX7_parish 101 = .ok (.invokestatic 54, 3) := by decide +kernel
theorem dX7_parish_104 : decode cX7_parish 104 = .ok (.aload_n 0, 1) := by decide +kernel
theorem dX7_parish_105 : decode cX7_parish 105 = .ok (.invokevirtual 131, 3) := by decide +kernel
theorem dX7_parish_108 : decode cX7_parish 108 = .ok (.aload_n 0, 1) := by decide +kernel
theorem dX7_parish_109 : decode cX7_parish 109 = .ok (.getfield 7, 3) := by decide +kernel
theorem dX7_parish_112 : decode cX7_parish 112 = .ok (.iconst 2, 1) := by decide +kernel
theorem dX7_parish_113 : decode cX7_parish 113 = .ok (.iaload, 1) := by decide +kernel
theorem dX7_parish_114 : decode cX7_parish 114 = .ok (.ireturn, 1) := by decide +kernel
theorem dX7_fault_0 : decode cX7_fault 0 = .ok (.aload_n 0, 1) := by decide +kernel
theorem dX7_fault_1 : decode cX7_fault 1 = .ok (.getfield 35, 3) := by decide +kernel
theorem dX7_fault_4 : decode cX7_fault 4 = .ok (.ireturn, 1) := by decide +kernel
theorem dX7_isPerson_0 : decode cX7_isPerson 0 = .ok (.iload_n 1, 1) := by decide +kernel
theorem dX7_isPerson_1 : decode cX7_isPerson 1 = .ok (.i2l, 1) := by decide +kernel
theorem dX7_isPerson_2 : decode cX7_isPerson 2 = .ok (.lconst 0, 1) := by decide +kernel
theorem dX7_isPerson_3 : decode cX7_isPerson 3 = .ok (.aload_n 0, 1) := by decide +kernel
theorem dX7_isPerson_4 : decode cX7_isPerson 4 = .ok (.getfield 7, 3) := by decide +kernel
theorem dX7_isPerson_7 : decode cX7_isPerson 7 = .ok (.iconst 2, 1) := by decide +kernel
theorem dX7_isPerson_8 : decode cX7_isPerson 8 = .ok (.iaload, 1) := by decide +kernel
theorem dX7_isPerson_9 : decode cX7_isPerson 9 = .ok (.iconst 1, 1) := by decide +kernel
theorem dX7_isPerson_10 : decode cX7_isPerson 10 = .ok (.isub, 1) := by decide +kernel
theorem dX7_isPerson_11 : decode cX7_isPerson 11 = .ok (.i2l, 1) := by decide +kernel
theorem dX7_isPerson_12 : decode cX7_isPerson 12 = .ok (.invokestatic 72, 3) := by decide +kernel
theorem dX7_isPerson_15 : decode cX7_isPerson 15 = .ok (.ireturn, 1) := by decide +kernel
theorem dX7_plainLoss_0 : decode cX7_plainLoss 0 = .ok (.iload_n 0, 1) := by decide +kernel
theorem dX7_plainLoss_1 : decode cX7_plainLoss 1 = .ok (.ifCond .ne 7, 3) := by decide +kernel
theorem dX7_plainLoss_4 : decode cX7_plainLoss 4 = .ok (.iconst 0, 1) := by decide +kernel
theorem dX7_plainLoss_5 : decode cX7_plainLoss 5 = .ok (.goto 9, 3) := by decide +kernel
theorem dX7_plainLoss_8 : decode cX7_plainLoss 8 = .ok (.iload_n 0, 1) := by decide +kernel
theorem dX7_plainLoss_9 : decode cX7_plainLoss 9 = .ok (.bipush 10, 2) := by decide +kernel
theorem dX7_plainLoss_11 : decode cX7_plainLoss 11 = .ok (.idiv, 1) := by decide +kernel
theorem dX7_plainLoss_12 : decode cX7_plainLoss 12 = .ok (.iconst 1, 1) := by decide +kernel
theorem dX7_plainLoss_13 : decode cX7_plainLoss 13 = .ok (.iadd, 1) := by decide +kernel
theorem dX7_plainLoss_14 : decode cX7_plainLoss 14 = .ok (.ireturn, 1) := by decide +kernel
theorem dX7_lossBy_0 : decode cX7_lossBy 0 = .ok (.iload_n 0, 1) := by decide +kernel
theorem dX7_lossBy_1 : decode cX7_lossBy 1 = .ok (.tableswitch 64 1 4 #[31, 38, 40, 51], 31) := by decide +kernel
theorem dX7_lossBy_32 : decode cX7_lossBy 32 = .ok (.iload_n 1, 1) := by decide +kernel
theorem dX7_lossBy_33 : decode cX7_lossBy 33 = .ok (.invokestatic 134, 3) := by decide +kernel
theorem dX7_lossBy_36 : decode cX7_lossBy 36 = .ok (.iconst 2, 1) := by decide +kernel
theorem dX7_lossBy_37 : decode cX7_lossBy 37 = .ok (.idiv, 1) := by decide +kernel
theorem dX7_lossBy_38 : decode cX7_lossBy 38 = .ok (.ireturn, 1) := by decide +kernel
theorem dX7_lossBy_39 : decode cX7_lossBy 39 = .ok (.iconst 0, 1) := by decide +kernel
theorem dX7_lossBy_40 : decode cX7_lossBy 40 = .ok (.ireturn, 1) := by decide +kernel
theorem dX7_lossBy_41 : decode cX7_lossBy 41 = .ok (.iload_n 1, 1) := by decide +kernel
theorem dX7_lossBy_42 : decode cX7_lossBy 42 = .ok (.iconst 2, 1) := by decide +kernel
theorem dX7_lossBy_43 : decode cX7_lossBy 43 = .ok (.iload_n 1, 1) := by decide +kernel
theorem dX7_lossBy_44 : decode cX7_lossBy 44 = .ok (.invokestatic 134, 3) := by decide +kernel
theorem dX7_lossBy_47 : decode cX7_lossBy 47 = .ok (.imul, 1) := by decide +kernel
theorem dX7_lossBy_48 : decode cX7_lossBy 48 = .ok (.invokestatic 138, 3) := by decide +kernel
theorem dX7_lossBy_51 : decode cX7_lossBy 51 = .ok (.ireturn, 1) := by decide +kernel
theorem dX7_lossBy_52 : decode cX7_lossBy 52 = .ok (.iload_n 2, 1) := by decide +kernel
theorem dX7_lossBy_53 : decode cX7_lossBy 53 = .ok (.ifCond .eq 7, 3) := by decide +kernel
theorem dX7_lossBy_56 : decode cX7_lossBy 56 = .ok (.iconst 0, 1) := by decide +kernel
theorem dX7_lossBy_57 : decode cX7_lossBy 57 = .ok (.goto 7, 3) := by decide +kernel
theorem dX7_lossBy_60 : decode cX7_lossBy 60 = .ok (.iload_n 1, 1) := by decide +kernel
theorem dX7_lossBy_61 : decode cX7_lossBy 61 = .ok (.invokestatic 134, 3) := by decide +kernel
theorem dX7_lossBy_64 : decode cX7_lossBy 64 = .ok (.ireturn, 1) := by decide +kernel
theorem dX7_lossBy_65 : decode cX7_lossBy 65 = .ok (.iload_n 1, 1) := by decide +kernel
theorem dX7_lossBy_66 : decode cX7_lossBy 66 = .ok (.invokestatic 134, 3) := by decide +kernel
theorem dX7_lossBy_69 : decode cX7_lossBy 69 = .ok (.ireturn, 1) := by decide +kernel
theorem dX7_lossOn_0 : decode cX7_lossOn 0 = .ok (.aload_n 1, 1) := by decide +kernel
theorem dX7_lossOn_1 : decode cX7_lossOn 1 = .ok (.bipush 14, 2) := by decide +kernel
theorem dX7_lossOn_3 : decode cX7_lossOn 3 = .ok (.iaload, 1) := by decide +kernel
theorem dX7_lossOn_4 : decode cX7_lossOn 4 = .ok (.iload_n 2, 1) := by decide +kernel
theorem dX7_lossOn_5 : decode cX7_lossOn 5 = .ok (.invokestatic 142, 3) := by decide +kernel
theorem dX7_lossOn_8 : decode cX7_lossOn 8 = .ok (.ifCond .eq 7, 3) := by decide +kernel
theorem dX7_lossOn_11 : decode cX7_lossOn 11 = .ok (.iconst 0, 1) := by decide +kernel
theorem dX7_lossOn_12 : decode cX7_lossOn 12 = .ok (.goto 33, 3) := by decide +kernel
theorem dX7_lossOn_15 : decode cX7_lossOn 15 = .ok (.aload_n 0, 1) := by decide +kernel
theorem dX7_lossOn_16 : decode cX7_lossOn 16 = .ok (.getfield 7, 3) := by decide +kernel
theorem dX7_lossOn_19 : decode cX7_lossOn 19 = .ok (.iconst 4, 1) := by decide +kernel
theorem dX7_lossOn_20 : decode cX7_lossOn 20 = .ok (.iload_n 2, 1) := by decide +kernel
theorem dX7_lossOn_21 : decode cX7_lossOn 21 = .ok (.iadd, 1) := by decide +kernel
theorem dX7_lossOn_22 : decode cX7_lossOn 22 = .ok (.iaload, 1) := by decide +kernel
theorem dX7_lossOn_23 : decode cX7_lossOn 23 = .ok (.aload_n 1, 1) := by decide +kernel
theorem dX7_lossOn_24 : decode cX7_lossOn 24 = .ok (.iconst 0, 1) := by decide +kernel
theorem dX7_lossOn_25 : decode cX7_lossOn 25 = .ok (.iload_n 2, 1) := by decide +kernel
theorem dX7_lossOn_26 : decode cX7_lossOn 26 = .ok (.iadd, 1) := by decide +kernel
theorem dX7_lossOn_27 : decode cX7_lossOn 27 = .ok (.iaload, 1) := by decide +kernel
theorem dX7_lossOn_28 : decode cX7_lossOn 28 = .ok (.aload_n 1, 1) := by decide +kernel
theorem dX7_lossOn_29 : decode cX7_lossOn 29 = .ok (.bipush 7, 2) := by decide +kernel
theorem dX7_lossOn_31 : decode cX7_lossOn 31 = .ok (.iload_n 2, 1) := by decide +kernel
theorem dX7_lossOn_32 : decode cX7_lossOn 32 = .ok (.iadd, 1) := by decide +kernel
theorem dX7_lossOn_33 : decode cX7_lossOn 33 = .ok (.iaload, 1) := by decide +kernel
theorem dX7_lossOn_34 : decode cX7_lossOn 34 = .ok (.ifCond .le 7, 3) := by decide +kernel
theorem dX7_lossOn_37 : decode cX7_lossOn 37 = .ok (.iconst 1, 1) := by decide +kernel
theorem dX7_lossOn_38 : decode cX7_lossOn 38 = .ok (.goto 4, 3) := by decide +kernel
theorem dX7_lossOn_41 : decode cX7_lossOn 41 = .ok (.iconst 0, 1) := by decide +kernel
theorem dX7_lossOn_42 : decode cX7_lossOn 42 = .ok (.invokestatic 146, 3) := by decide +kernel
theorem dX7_lossOn_45 : decode cX7_lossOn 45 = .ok (.ireturn, 1) := by decide +kernel
theorem dX7_drawerOn_0 : decode cX7_drawerOn 0 = .ok (.bipush (-2), 2) := by decide +kernel
theorem dX7_drawerOn_2 : decode cX7_drawerOn 2 = .ok (.istore_n 2, 1) := by decide +kernel
theorem dX7_drawerOn_3 : decode cX7_drawerOn 3 = .ok (.iconst 0, 1) := by decide +kernel
theorem dX7_drawerOn_4 : decode cX7_drawerOn 4 = .ok (.istore_n 3, 1) := by decide +kernel
theorem dX7_drawerOn_5 : decode cX7_drawerOn 5 = .ok (.iload_n 3, 1) := by decide +kernel
theorem dX7_drawerOn_6 : decode cX7_drawerOn 6 = .ok (.aload_n 0, 1) := by decide +kernel
theorem dX7_drawerOn_7 : decode cX7_drawerOn 7 = .ok (.getfield 7, 3) := by decide +kernel
theorem dX7_drawerOn_10 : decode cX7_drawerOn 10 = .ok (.iconst 2, 1) := by decide +kernel
theorem dX7_drawerOn_11 : decode cX7_drawerOn 11 = .ok (.iaload, 1) := by decide +kernel
theorem dX7_drawerOn_12 : decode cX7_drawerOn 12 = .ok (.if_icmp .ge 40, 3) := by decide +kernel
theorem dX7_drawerOn_15 : decode cX7_drawerOn 15 = .ok (.aload_n 1, 1) := by decide +kernel
theorem dX7_drawerOn_16 : decode cX7_drawerOn 16 = .ok (.bipush 7, 2) := by decide +kernel
theorem dX7_drawerOn_18 : decode cX7_drawerOn 18 = .ok (.iload_n 3, 1) := by decide +kernel
theorem dX7_drawerOn_19 : decode cX7_drawerOn 19 = .ok (.iadd, 1) := by decide +kernel
theorem dX7_drawerOn_20 : decode cX7_drawerOn 20 = .ok (.iaload, 1) := by decide +kernel
theorem dX7_drawerOn_21 : decode cX7_drawerOn 21 = .ok (.iload_n 2, 1) := by decide +kernel
theorem dX7_drawerOn_22 : decode cX7_drawerOn 22 = .ok (.bipush (-2), 2) := by decide +kernel
theorem dX7_drawerOn_24 : decode cX7_drawerOn 24 = .ok (.if_icmp .ne 7, 3) := by decide +kernel
theorem dX7_drawerOn_27 : decode cX7_drawerOn 27 = .ok (.iconst 0, 1) := by decide +kernel
theorem dX7_drawerOn_28 : decode cX7_drawerOn 28 = .ok (.goto 9, 3) := by decide +kernel
theorem dX7_drawerOn_31 : decode cX7_drawerOn 31 = .ok (.aload_n 1, 1) := by decide +kernel
theorem dX7_drawerOn_32 : decode cX7_drawerOn 32 = .ok (.bipush 7, 2) := by decide +kernel
theorem dX7_drawerOn_34 : decode cX7_drawerOn 34 = .ok (.iload_n 2, 1) := by decide +kernel
theorem dX7_drawerOn_35 : decode cX7_drawerOn 35 = .ok (.iadd, 1) := by decide +kernel
theorem dX7_drawerOn_36 : decode cX7_drawerOn 36 = .ok (.iaload, 1) := by decide +kernel
theorem dX7_drawerOn_37 : decode cX7_drawerOn 37 = .ok (.if_icmp .le 7, 3) := by decide +kernel
theorem dX7_drawerOn_40 : decode cX7_drawerOn 40 = .ok (.iload_n 3, 1) := by decide +kernel
theorem dX7_drawerOn_41 : decode cX7_drawerOn 41 = .ok (.goto 4, 3) := by decide +kernel
theorem dX7_drawerOn_44 : decode cX7_drawerOn 44 = .ok (.iload_n 2, 1) := by decide +kernel
theorem dX7_drawerOn_45 : decode cX7_drawerOn 45 = .ok (.istore_n 2, 1) := by decide +kernel
theorem dX7_drawerOn_46 : decode cX7_drawerOn 46 = .ok (.iinc 3 1, 3) := by decide +kernel
theorem dX7_drawerOn_49 : decode cX7_drawerOn 49 = .ok (.goto (-44), 3) := by decide +kernel
theorem dX7_drawerOn_52 : decode cX7_drawerOn 52 = .ok (.iload_n 2, 1) := by decide +kernel
theorem dX7_drawerOn_53 : decode cX7_drawerOn 53 = .ok (.ireturn, 1) := by decide +kernel
theorem dX7_flies_0 : decode cX7_flies 0 = .ok (.aload_n 0, 1) := by decide +kernel
theorem dX7_flies_1 : decode cX7_flies 1 = .ok (.iload_n 1, 1) := by decide +kernel
theorem dX7_flies_2 : decode cX7_flies 2 = .ok (.bipush (-2), 2) := by decide +kernel
theorem dX7_flies_4 : decode cX7_flies 4 = .ok (.if_icmp .ne 8, 3) := by decide +kernel
theorem dX7_flies_7 : decode cX7_flies 7 = .ok (.bipush 15, 2) := by decide +kernel
theorem dX7_flies_9 : decode cX7_flies 9 = .ok (.goto 6, 3) := by decide +kernel
theorem dX7_flies_12 : decode cX7_flies 12 = .ok (.iconst 0, 1) := by decide +kernel
theorem dX7_flies_13 : decode cX7_flies 13 = .ok (.iload_n 1, 1) := by decide +kernel
theorem dX7_flies_14 : decode cX7_flies 14 = .ok (.iadd, 1) := by decide +kernel
theorem dX7_flies_15 : decode cX7_flies 15 = .ok (.dup2, 1) := by decide +kernel
theorem dX7_flies_16 : decode cX7_flies 16 = .ok (.iaload, 1) := by decide +kernel
theorem dX7_flies_17 : decode cX7_flies 17 = .ok (.iload_n 3, 1) := by decide +kernel
theorem dX7_flies_18 : decode cX7_flies 18 = .ok (.isub, 1) := by decide +kernel
theorem dX7_flies_19 : decode cX7_flies 19 = .ok (.iastore, 1) := by decide +kernel
theorem dX7_flies_20 : decode cX7_flies 20 = .ok (.aload_n 0, 1) := by decide +kernel
theorem dX7_flies_21 : decode cX7_flies 21 = .ok (.iload_n 2, 1) := by decide +kernel
theorem dX7_flies_22 : decode cX7_flies 22 = .ok (.bipush (-2), 2) := by decide +kernel
theorem dX7_flies_24 : decode cX7_flies 24 = .ok (.if_icmp .ne 8, 3) := by decide +kernel
theorem dX7_flies_27 : decode cX7_flies 27 = .ok (.bipush 15, 2) := by decide +kernel
theorem dX7_flies_29 : decode cX7_flies 29 = .ok (.goto 6, 3) := by decide +kernel
theorem dX7_flies_32 : decode cX7_flies 32 = .ok (.iconst 0, 1) := by decide +kernel
theorem dX7_flies_33 : decode cX7_flies 33 = .ok (.iload_n 2, 1) := by decide +kernel
theorem dX7_flies_34 : decode cX7_flies 34 = .ok (.iadd, 1) := by decide +kernel
theorem dX7_flies_35 : decode cX7_flies 35 = .ok (.dup2, 1) := by decide +kernel
theorem dX7_flies_36 : decode cX7_flies 36 = .ok (.iaload, 1) := by decide +kernel
theorem dX7_flies_37 : decode cX7_flies 37 = .ok (.iload_n 3, 1) := by decide +kernel
theorem dX7_flies_38 : decode cX7_flies 38 = .ok (.iadd, 1) := by decide +kernel
theorem dX7_flies_39 : decode cX7_flies 39 = .ok (.iastore, 1) := by decide +kernel
theorem dX7_flies_40 : decode cX7_flies 40 = .ok (.iload_n 3, 1) := by decide +kernel
theorem dX7_flies_41 : decode cX7_flies 41 = .ok (.ifCond .eq 11, 3) := by decide +kernel
theorem dX7_flies_44 : decode cX7_flies 44 = .ok (.aload_n 0, 1) := by decide +kernel
theorem dX7_flies_45 : decode cX7_flies 45 = .ok (.bipush 26, 2) := by decide +kernel
theorem dX7_flies_47 : decode cX7_flies 47 = .ok (.iaload, 1) := by decide +kernel
theorem dX7_flies_48 : decode cX7_flies 48 = .ok (.iload_n 1, 1) := by decide +kernel
theorem dX7_flies_49 : decode cX7_flies 49 = .ok (.if_icmp .eq 4, 3) := by decide +kernel
theorem dX7_flies_52 : decode cX7_flies 52 = .ok (.return_, 1) := by decide +kernel
theorem dX7_flies_53 : decode cX7_flies 53 = .ok (.aload_n 0, 1) := by decide +kernel
theorem dX7_flies_54 : decode cX7_flies 54 = .ok (.bipush 27, 2) := by decide +kernel
theorem dX7_flies_56 : decode cX7_flies 56 = .ok (.iaload, 1) := by decide +kernel
theorem dX7_flies_57 : decode cX7_flies 57 = .ok (.bipush 20, 2) := by decide +kernel
theorem dX7_flies_59 : decode cX7_flies 59 = .ok (.if_icmp .ne 43, 3) := by decide +kernel
theorem dX7_flies_62 : decode cX7_flies 62 = .ok (.iconst 0, 1) := by decide +kernel
theorem dX7_flies_63 : decode cX7_flies 63 = .ok (.istore 4, 2) := by decide +kernel
theorem dX7_flies_65 : decode cX7_flies 65 = .ok (.iload 4, 2) := by decide +kernel
theorem dX7_flies_67 : decode cX7_flies 67 = .ok (.bipush 19, 2) := by decide +kernel
theorem dX7_flies_69 : decode cX7_flies 69 = .ok (.if_icmp .ge 25, 3) := by decide +kernel
theorem dX7_flies_72 : decode cX7_flies 72 = .ok (.aload_n 0, 1) := by decide +kernel
theorem dX7_flies_73 : decode cX7_flies 73 = .ok (.bipush 28, 2) := by decide +kernel
theorem dX7_flies_75 : decode cX7_flies 75 = .ok (.iload 4, 2) := by decide +kernel
theorem dX7_flies_77 : decode cX7_flies 77 = .ok (.iadd, 1) := by decide +kernel
theorem dX7_flies_78 : decode cX7_flies 78 = .ok (.aload_n 0, 1) := by decide +kernel
theorem dX7_flies_79 : decode cX7_flies 79 = .ok (.bipush 28, 2) := by decide +kernel
theorem dX7_flies_81 : decode cX7_flies 81 = .ok (.iload 4, 2) := by decide +kernel
theorem dX7_flies_83 : decode cX7_flies 83 = .ok (.iadd, 1) := by decide +kernel
theorem dX7_flies_84 : decode cX7_flies 84 = .ok (.iconst 1, 1) := by decide +kernel
theorem dX7_flies_85 : decode cX7_flies 85 = .ok (.iadd, 1) := by decide +kernel
theorem dX7_flies_86 : decode cX7_flies 86 = .ok (.iaload, 1) := by decide +kernel
theorem dX7_flies_87 : decode cX7_flies 87 = .ok (.iastore, 1) := by decide +kernel
theorem dX7_flies_88 : decode cX7_flies 88 = .ok (.iinc 4 1, 3) := by decide +kernel
theorem dX7_flies_91 : decode cX7_flies 91 = .ok (.goto (-26), 3) := by decide +kernel
theorem dX7_flies_94 : decode cX7_flies 94 = .ok (.aload_n 0, 1) := by decide +kernel
theorem dX7_flies_95 : decode cX7_flies 95 = .ok (.bipush 27, 2) := by decide +kernel
theorem dX7_flies_97 : decode cX7_flies 97 = .ok (.dup2, 1) := by decide +kernel
theorem dX7_flies_98 : decode cX7_flies 98 = .ok (.iaload, 1) := by decide +kernel
theorem dX7_flies_99 : decode cX7_flies 99 = .ok (.iconst 1, 1) := by decide +kernel
theorem dX7_flies_100 : decode cX7_flies 100 = .ok (.isub, 1) := by decide +kernel
theorem dX7_flies_101 : decode cX7_flies 101 = .ok (.iastore, 1) := by decide +kernel
theorem dX7_flies_102 : decode cX7_flies 102 = .ok (.aload_n 0, 1) := by decide +kernel
theorem dX7_flies_103 : decode cX7_flies 103 = .ok (.bipush 26, 2) := by decide +kernel
theorem dX7_flies_105 : decode cX7_flies 105 = .ok (.iload_n 2, 1) := by decide +kernel
theorem dX7_flies_106 : decode cX7_flies 106 = .ok (.iastore, 1) := by decide +kernel
theorem dX7_flies_107 : decode cX7_flies 107 = .ok (.aload_n 0, 1) := by decide +kernel
theorem dX7_flies_108 : decode cX7_flies 108 = .ok (.bipush 28, 2) := by decide +kernel
theorem dX7_flies_110 : decode cX7_flies 110 = .ok (.aload_n 0, 1) := by decide +kernel
theorem dX7_flies_111 : decode cX7_flies 111 = .ok (.bipush 27, 2) := by decide +kernel
theorem dX7_flies_113 : decode cX7_flies 113 = .ok (.iaload, 1) := by decide +kernel
theorem dX7_flies_114 : decode cX7_flies 114 = .ok (.iadd, 1) := by decide +kernel
theorem dX7_flies_115 : decode cX7_flies 115 = .ok (.iload_n 2, 1) := by decide +kernel
theorem dX7_flies_116 : decode cX7_flies 116 = .ok (.iastore, 1) := by decide +kernel
theorem dX7_flies_117 : decode cX7_flies 117 = .ok (.aload_n 0, 1) := by decide +kernel
theorem dX7_flies_118 : decode cX7_flies 118 = .ok (.bipush 27, 2) := by decide +kernel
theorem dX7_flies_120 : decode cX7_flies 120 = .ok (.dup2, 1) := by decide +kernel
theorem dX7_flies_121 : decode cX7_flies 121 = .ok (.iaload, 1) := by decide +kernel
theorem dX7_flies_122 : decode cX7_flies 122 = .ok (.iconst 1, 1) := by decide +kernel
theorem dX7_flies_123 : decode cX7_flies 123 = .ok (.iadd, 1) := by decide +kernel
theorem dX7_flies_124 : decode cX7_flies 124 = .ok (.iastore, 1) := by decide +kernel
theorem dX7_flies_125 : decode cX7_flies 125 = .ok (.return_, 1) := by decide +kernel
theorem dX7_hourGoes_0 : decode cX7_hourGoes 0 = .ok (.aload_n 0, 1) := by decide +kernel
theorem dX7_hourGoes_1 : decode cX7_hourGoes 1 = .ok (.aload_n 1, 1) := by decide +kernel
theorem dX7_hourGoes_2 : decode cX7_hourGoes 2 = .ok (.invokevirtual 150, 3) := by decide +kernel
theorem dX7_hourGoes_5 : decode cX7_hourGoes 5 = .ok (.istore_n 3, 1) := by decide +kernel
theorem dX7_hourGoes_6 : decode cX7_hourGoes 6 = .ok (.iconst 0, 1) := by decide +kernel
theorem dX7_hourGoes_7 : decode cX7_hourGoes 7 = .ok (.istore 4, 2) := by decide +kernel
theorem dX7_hourGoes_9 : decode cX7_hourGoes 9 = .ok (.iload 4, 2) := by decide +kernel
theorem dX7_hourGoes_11 : decode cX7_hourGoes 11 = .ok (.aload_n 0, 1) := by decide +kernel
theorem dX7_hourGoes_12 : decode cX7_hourGoes 12 = .ok (.getfield 7, 3) := by decide +kernel
theorem dX7_hourGoes_15 : decode cX7_hourGoes 15 = .ok (.iconst 2, 1) := by decide +kernel
theorem dX7_hourGoes_16 : decode cX7_hourGoes 16 = .ok (.iaload, 1) := by decide +kernel
theorem dX7_hourGoes_17 : decode cX7_hourGoes 17 = .ok (.if_icmp .ge 33, 3) := by decide +kernel
theorem dX7_hourGoes_20 : decode cX7_hourGoes 20 = .ok (.aload_n 0, 1) := by decide +kernel
theorem dX7_hourGoes_21 : decode cX7_hourGoes 21 = .ok (.getfield 48, 3) := by decide +kernel
theorem dX7_hourGoes_24 : decode cX7_hourGoes 24 = .ok (.iload 4, 2) := by decide +kernel
theorem dX7_hourGoes_26 : decode cX7_hourGoes 26 = .ok (.iload 4, 2) := by decide +kernel
theorem dX7_hourGoes_28 : decode cX7_hourGoes 28 = .ok (.iload_n 3, 1) := by decide +kernel
theorem dX7_hourGoes_29 : decode cX7_hourGoes 29 = .ok (.if_icmp .ne 7, 3) := by decide +kernel
theorem dX7_hourGoes_32 : decode cX7_hourGoes 32 = .ok (.iconst 0, 1) := by decide +kernel
theorem dX7_hourGoes_33 : decode cX7_hourGoes 33 = .ok (.goto 10, 3) := by decide +kernel
theorem dX7_hourGoes_36 : decode cX7_hourGoes 36 = .ok (.aload_n 0, 1) := by decide +kernel
theorem dX7_hourGoes_37 : decode cX7_hourGoes 37 = .ok (.aload_n 1, 1) := by decide +kernel
theorem dX7_hourGoes_38 : decode cX7_hourGoes 38 = .ok (.iload 4, 2) := by decide +kernel
theorem dX7_hourGoes_40 : decode cX7_hourGoes 40 = .ok (.invokevirtual 154, 3) := by decide +kernel
theorem dX7_hourGoes_43 : decode cX7_hourGoes 43 = .ok (.iastore, 1) := by decide +kernel
theorem dX7_hourGoes_44 : decode cX7_hourGoes 44 = .ok (.iinc 4 1, 3) := by decide +kernel
theorem dX7_hourGoes_47 : decode cX7_hourGoes 47 = .ok (.goto (-38), 3) := by decide +kernel
theorem dX7_hourGoes_50 : decode cX7_hourGoes 50 = .ok (.iconst 0, 1) := by decide +kernel
theorem dX7_hourGoes_51 : decode cX7_hourGoes 51 = .ok (.istore 4, 2) := by decide +kernel
theorem dX7_hourGoes_53 : decode cX7_hourGoes 53 = .ok (.iload 4, 2) := by decide +kernel
theorem dX7_hourGoes_55 : decode cX7_hourGoes 55 = .ok (.aload_n 0, 1) := by decide +kernel
theorem dX7_hourGoes_56 : decode cX7_hourGoes 56 = .ok (.getfield 7, 3) := by decide +kernel
theorem dX7_hourGoes_59 : decode cX7_hourGoes 59 = .ok (.iconst 2, 1) := by decide +kernel
theorem dX7_hourGoes_60 : decode cX7_hourGoes 60 = .ok (.iaload, 1) := by decide +kernel
theorem dX7_hourGoes_61 : decode cX7_hourGoes 61 = .ok (.if_icmp .ge 29, 3) := by decide +kernel
theorem dX7_hourGoes_64 : decode cX7_hourGoes 64 = .ok (.iload 4, 2) := by decide +kernel
theorem dX7_hourGoes_66 : decode cX7_hourGoes 66 = .ok (.iload_n 3, 1) := by decide +kernel
theorem dX7_hourGoes_67 : decode cX7_hourGoes 67 = .ok (.if_icmp .eq 17, 3) := by decide +kernel
theorem dX7_hourGoes_70 : decode cX7_hourGoes 70 = .ok (.aload_n 1, 1) := by decide +kernel
theorem dX7_hourGoes_71 : decode cX7_hourGoes 71 = .ok (.iload 4, 2) := by decide +kernel
theorem dX7_hourGoes_73 : decode cX7_hourGoes 73 = .ok (.iload_n 3, 1) := by decide +kernel
theorem dX7_hourGoes_74 : decode cX7_hourGoes 74 = .ok (.aload_n 0, 1) := by decide +kernel
theorem dX7_hourGoes_75 : decode cX7_hourGoes 75 = .ok (.getfield 48, 3) := by decide +kernel
theorem dX7_hourGoes_78 : decode cX7_hourGoes 78 = .ok (.iload 4, 2) := by decide +kernel
theorem dX7_hourGoes_80 : decode cX7_hourGoes 80 = .ok (.iaload, 1) := by decide +kernel
theorem dX7_hourGoes_81 : decode cX7_hourGoes 81 = .ok (.invokestatic 158, 3) := by decide +kernel
theorem dX7_hourGoes_84 : decode cX7_hourGoes 84 = .ok (.iinc 4 1, 3) := by decide +kernel
theorem dX7_hourGoes_87 : decode cX7_hourGoes 87 = .ok (.goto (-34), 3) := by decide +kernel
theorem dX7_hourGoes_90 : decode cX7_hourGoes 90 = .ok (.iconst 0, 1) := by decide +kernel
theorem dX7_hourGoes_91 : decode cX7_hourGoes 91 = .ok (.istore 4, 2) := by decide +kernel
theorem dX7_hourGoes_93 : decode cX7_hourGoes 93 = .ok (.iload 4, 2) := by decide +kernel
theorem dX7_hourGoes_95 : decode cX7_hourGoes 95 = .ok (.aload_n 0, 1) := by decide +kernel
theorem dX7_hourGoes_96 : decode cX7_hourGoes 96 = .ok (.getfield 7, 3) := by decide +kernel
theorem dX7_hourGoes_99 : decode cX7_hourGoes 99 = .ok (.iconst 2, 1) := by decide +kernel
theorem dX7_hourGoes_100 : decode cX7_hourGoes 100 = .ok (.iaload, 1) := by decide +kernel
theorem dX7_hourGoes_101 : decode cX7_hourGoes 101 = .ok (.if_icmp .ge 20, 3) := by decide +kernel
theorem dX7_hourGoes_104 : decode cX7_hourGoes 104 = .ok (.aload_n 1, 1) := by decide +kernel
theorem dX7_hourGoes_105 : decode cX7_hourGoes 105 = .ok (.bipush 7, 2) := by decide +kernel
theorem dX7_hourGoes_107 : decode cX7_hourGoes 107 = .ok (.iload 4, 2) := by decide +kernel
theorem dX7_hourGoes_109 : decode cX7_hourGoes 109 = .ok (.iadd, 1) := by decide +kernel
theorem dX7_hourGoes_110 : decode cX7_hourGoes 110 = .ok (.dup2, 1) := by decide +kernel
theorem dX7_hourGoes_111 : decode cX7_hourGoes 111 = .ok (.iaload, 1) := by decide +kernel
theorem dX7_hourGoes_112 : decode cX7_hourGoes 112 = .ok (.iconst 2, 1) := by decide +kernel
theorem dX7_hourGoes_113 : decode cX7_hourGoes 113 = .ok (.idiv, 1) := by decide +kernel
theorem dX7_hourGoes_114 : decode cX7_hourGoes 114 = .ok (.iastore, 1) := by decide +kernel
theorem dX7_hourGoes_115 : decode cX7_hourGoes 115 = .ok (.iinc 4 1, 3) := by decide +kernel
theorem dX7_hourGoes_118 : decode cX7_hourGoes 118 = .ok (.goto (-25), 3) := by decide +kernel
theorem dX7_hourGoes_121 : decode cX7_hourGoes 121 = .ok (.aload_n 1, 1) := by decide +kernel
theorem dX7_hourGoes_122 : decode cX7_hourGoes 122 = .ok (.bipush 16, 2) := by decide +kernel
theorem dX7_hourGoes_124 : decode cX7_hourGoes 124 = .ok (.dup2, 1) := by decide +kernel
theorem dX7_hourGoes_125 : decode cX7_hourGoes 125 = .ok (.iaload, 1) := by decide +kernel
theorem dX7_hourGoes_126 : decode cX7_hourGoes 126 = .ok (.iconst 1, 1) := by decide +kernel
theorem dX7_hourGoes_127 : decode cX7_hourGoes 127 = .ok (.iadd, 1) := by decide +kernel
theorem dX7_hourGoes_128 : decode cX7_hourGoes 128 = .ok (.iastore, 1) := by decide +kernel
theorem dX7_hourGoes_129 : decode cX7_hourGoes 129 = .ok (.iload_n 2, 1) := by decide +kernel
theorem dX7_hourGoes_130 : decode cX7_hourGoes 130 = .ok (.ifCond .eq 64, 3) := by decide +kernel
theorem dX7_hourGoes_133 : decode cX7_hourGoes 133 = .ok (.aload_n 1, 1) := by decide +kernel
theorem dX7_hourGoes_134 : decode cX7_hourGoes 134 = .ok (.bipush 16, 2) := by decide +kernel
theorem dX7_hourGoes_136 : decode cX7_hourGoes 136 = .ok (.iaload, 1) := by decide +kernel
theorem dX7_hourGoes_137 : decode cX7_hourGoes 137 = .ok (.aload_n 0, 1) := by decide +kernel
theorem dX7_hourGoes_138 : decode cX7_hourGoes 138 = .ok (.getfield 7, 3) := by decide +kernel
theorem dX7_hourGoes_141 : decode cX7_hourGoes 141 = .ok (.iconst 1, 1) := by decide +kernel
theorem dX7_hourGoes_142 : decode cX7_hourGoes 142 = .ok (.iaload, 1) := by decide +kernel
theorem dX7_hourGoes_143 : decode cX7_hourGoes 143 = .ok (.irem, 1) := by decide +kernel
theorem dX7_hourGoes_144 : decode cX7_hourGoes 144 = .ok (.ifCond .ne 50, 3) := by decide +kernel
theorem dX7_hourGoes_147 : decode cX7_hourGoes 147 = .ok (.iconst 0, 1) := by decide +kernel
theorem dX7_hourGoes_148 : decode cX7_hourGoes 148 = .ok (.istore 4, 2) := by decide +kernel
theorem dX7_hourGoes_150 : decode cX7_hourGoes 150 = .ok (.iload 4, 2) := by decide +kernel
theorem dX7_hourGoes_152 : decode cX7_hourGoes 152 = .ok (.aload_n 0, 1) := by decide +kernel
theorem dX7_hourGoes_153 : decode cX7_hourGoes 153 = .ok (.getfield 7, 3) := by decide +kernel
theorem dX7_hourGoes_156 : decode cX7_hourGoes 156 = .ok (.iconst 2, 1) := by decide +kernel
theorem dX7_hourGoes_157 : decode cX7_hourGoes 157 = .ok (.iaload, 1) := by decide +kernel
theorem dX7_hourGoes_158 : decode cX7_hourGoes 158 = .ok (.if_icmp .ge 36, 3) := by decide +kernel
theorem dX7_hourGoes_161 : decode cX7_hourGoes 161 = .ok (.aload_n 0, 1) := by decide +kernel
theorem dX7_hourGoes_162 : decode cX7_hourGoes 162 = .ok (.getfield 7, 3) := by decide +kernel
theorem dX7_hourGoes_165 : decode cX7_hourGoes 165 = .ok (.iconst 4, 1) := by decide +kernel
theorem dX7_hourGoes_166 : decode cX7_hourGoes 166 = .ok (.iload 4, 2) := by decide +kernel
theorem dX7_hourGoes_168 : decode cX7_hourGoes 168 = .ok (.iadd, 1) := by decide +kernel
theorem dX7_hourGoes_169 : decode cX7_hourGoes 169 = .ok (.iaload, 1) := by decide +kernel
theorem dX7_hourGoes_170 : decode cX7_hourGoes 170 = .ok (.iconst 2, 1) := by decide +kernel
theorem dX7_hourGoes_171 : decode cX7_hourGoes 171 = .ok (.if_icmp .eq 17, 3) := by decide +kernel
theorem dX7_hourGoes_174 : decode cX7_hourGoes 174 = .ok (.aload_n 1, 1) := by decide +kernel
theorem dX7_hourGoes_175 : decode cX7_hourGoes 175 = .ok (.iload 4, 2) := by decide +kernel
theorem dX7_hourGoes_177 : decode cX7_hourGoes 177 = .ok (.bipush (-2), 2) := by decide +kernel
theorem dX7_hourGoes_179 : decode cX7_hourGoes 179 = .ok (.aload_n 1, 1) := by decide +kernel
theorem dX7_hourGoes_180 : decode cX7_hourGoes 180 = .ok (.iconst 0, 1) := by decide +kernel
theorem dX7_hourGoes_181 : decode cX7_hourGoes 181 = .ok (.iload 4, 2) := by decide +kernel
theorem dX7_hourGoes_183 : decode cX7_hourGoes 183 = .ok (.iadd, 1) := by decide +kernel
theorem dX7_hourGoes_184 : decode cX7_hourGoes 184 = .ok (.iaload, 1) := by decide +kernel
theorem dX7_hourGoes_185 : decode cX7_hourGoes 185 = .ok (.invokestatic 158, 3) := by decide +kernel
theorem dX7_hourGoes_188 : decode cX7_hourGoes 188 = .ok (.iinc 4 1, 3) := by decide +kernel
theorem dX7_hourGoes_191 : decode cX7_hourGoes 191 = .ok (.goto (-41), 3) := by decide +kernel
theorem dX7_hourGoes_194 : decode cX7_hourGoes 194 = .ok (.return_, 1) := by decide +kernel
theorem dX7_hatsOn_0 : decode cX7_hatsOn 0 = .ok (.iconst 0, 1) := by decide +kernel
theorem dX7_hatsOn_1 : decode cX7_hatsOn 1 = .ok (.istore_n 2, 1) := by decide +kernel
theorem dX7_hatsOn_2 : decode cX7_hatsOn 2 = .ok (.iconst 0, 1) := by decide +kernel
theorem dX7_hatsOn_3 : decode cX7_hatsOn 3 = .ok (.istore_n 3, 1) := by decide +kernel
theorem dX7_hatsOn_4 : decode cX7_hatsOn 4 = .ok (.iload_n 3, 1) := by decide +kernel
theorem dX7_hatsOn_5 : decode cX7_hatsOn 5 = .ok (.aload_n 0, 1) := by decide +kernel
theorem dX7_hatsOn_6 : decode cX7_hatsOn 6 = .ok (.getfield 7, 3) := by decide +kernel
theorem dX7_hatsOn_9 : decode cX7_hatsOn 9 = .ok (.iconst 2, 1) := by decide +kernel
theorem dX7_hatsOn_10 : decode cX7_hatsOn 10 = .ok (.iaload, 1) := by decide +kernel
theorem dX7_hatsOn_11 : decode cX7_hatsOn 11 = .ok (.if_icmp .ge 17, 3) := by decide +kernel
theorem dX7_hatsOn_14 : decode cX7_hatsOn 14 = .ok (.iload_n 2, 1) := by decide +kernel
theorem dX7_hatsOn_15 : decode cX7_hatsOn 15 = .ok (.aload_n 1, 1) := by decide +kernel
theorem dX7_hatsOn_16 : decode cX7_hatsOn 16 = .ok (.iconst 0, 1) := by decide +kernel
theorem dX7_hatsOn_17 : decode cX7_hatsOn 17 = .ok (.iload_n 3, 1) := by decide +kernel
theorem dX7_hatsOn_18 : decode cX7_hatsOn 18 = .ok (.iadd, 1) := by decide +kernel
theorem dX7_hatsOn_19 : decode cX7_hatsOn 19 = .ok (.iaload, 1) := by decide +kernel
theorem dX7_hatsOn_20 : decode cX7_hatsOn 20 = .ok (.iadd, 1) := by decide +kernel
theorem dX7_hatsOn_21 : decode cX7_hatsOn 21 = .ok (.istore_n 2, 1) := by decide +kernel
theorem dX7_hatsOn_22 : decode cX7_hatsOn 22 = .ok (.iinc 3 1, 3) := by decide +kernel
theorem dX7_hatsOn_25 : decode cX7_hatsOn 25 = .ok (.goto (-21), 3) := by decide +kernel
theorem dX7_hatsOn_28 : decode cX7_hatsOn 28 = .ok (.iload_n 2, 1) := by decide +kernel
theorem dX7_hatsOn_29 : decode cX7_hatsOn 29 = .ok (.ireturn, 1) := by decide +kernel
theorem dX7_owes_0 : decode cX7_owes 0 = .ok (.iconst 0, 1) := by decide +kernel
theorem dX7_owes_1 : decode cX7_owes 1 = .ok (.istore_n 3, 1) := by decide +kernel
theorem dX7_owes_2 : decode cX7_owes 2 = .ok (.iconst 0, 1) := by decide +kernel
theorem dX7_owes_3 : decode cX7_owes 3 = .ok (.istore 4, 2) := by decide +kernel
theorem dX7_owes_5 : decode cX7_owes 5 = .ok (.iload 4, 2) := by decide +kernel
theorem dX7_owes_7 : decode cX7_owes 7 = .ok (.aload_n 0, 1) := by decide +kernel
theorem dX7_owes_8 : decode cX7_owes 8 = .ok (.getfield 7, 3) := by decide +kernel
theorem dX7_owes_11 : decode cX7_owes 11 = .ok (.iconst 3, 1) := by decide +kernel
theorem dX7_owes_12 : decode cX7_owes 12 = .ok (.iaload, 1) := by decide +kernel
theorem dX7_owes_13 : decode cX7_owes 13 = .ok (.if_icmp .ge 76, 3) := by decide +kernel
theorem dX7_owes_16 : decode cX7_owes 16 = .ok (.iload_n 1, 1) := by decide +kernel
theorem dX7_owes_17 : decode cX7_owes 17 = .ok (.iconst (-1), 1) := by decide +kernel
theorem dX7_owes_18 : decode cX7_owes 18 = .ok (.if_icmp .eq 17, 3) := by decide +kernel
theorem dX7_owes_21 : decode cX7_owes 21 = .ok (.aload_n 0, 1) := by decide +kernel
theorem dX7_owes_22 : decode cX7_owes 22 = .ok (.getfield 7, 3) := by decide +kernel
theorem dX7_owes_25 : decode cX7_owes 25 = .ok (.bipush 25, 2) := by decide +kernel
theorem dX7_owes_27 : decode cX7_owes 27 = .ok (.iload 4, 2) := by decide +kernel
theorem dX7_owes_29 : decode cX7_owes 29 = .ok (.iadd, 1) := by decide +kernel
theorem dX7_owes_30 : decode cX7_owes 30 = .ok (.iaload, 1) := by decide +kernel
theorem dX7_owes_31 : decode cX7_owes 31 = .ok (.iload_n 1, 1) := by decide +kernel
theorem dX7_owes_32 : decode cX7_owes 32 = .ok (.if_icmp .ne 26, 3) := by decide +kernel
theorem dX7_owes_35 : decode cX7_owes 35 = .ok (.iload_n 2, 1) := by decide +kernel
theorem dX7_owes_36 : decode cX7_owes 36 = .ok (.iconst (-1), 1) := by decide +kernel
theorem dX7_owes_37 : decode cX7_owes 37 = .ok (.if_icmp .eq 17, 3) := by decide +kernel
theorem dX7_owes_40 : decode cX7_owes 40 = .ok (.aload_n 0, 1) := by decide +kernel
theorem dX7_owes_41 : decode cX7_owes 41 = .ok (.getfield 7, 3) := by decide +kernel
theorem dX7_owes_44 : decode cX7_owes 44 = .ok (.bipush 34, 2) := by decide +kernel
theorem dX7_owes_46 : decode cX7_owes 46 = .ok (.iload 4, 2) := by decide +kernel
theorem dX7_owes_48 : decode cX7_owes 48 = .ok (.iadd, 1) := by decide +kernel
theorem dX7_owes_49 : decode cX7_owes 49 = .ok (.iaload, 1) := by decide +kernel
theorem dX7_owes_50 : decode cX7_owes 50 = .ok (.iload_n 2, 1) := by decide +kernel
theorem dX7_owes_51 : decode cX7_owes 51 = .ok (.if_icmp .ne 7, 3) := by decide +kernel
theorem dX7_owes_54 : decode cX7_owes 54 = .ok (.iconst 1, 1) := by decide +kernel
theorem dX7_owes_55 : decode cX7_owes 55 = .ok (.goto 4, 3) := by decide +kernel
theorem dX7_owes_58 : decode cX7_owes 58 = .ok (.iconst 0, 1) := by decide +kernel
theorem dX7_owes_59 : decode cX7_owes 59 = .ok (.istore 5, 2) := by decide +kernel
theorem dX7_owes_61 : decode cX7_owes 61 = .ok (.iload_n 3, 1) := by decide +kernel
theorem dX7_owes_62 : decode cX7_owes 62 = .ok (.iload 5, 2) := by decide +kernel
theorem dX7_owes_64 : decode cX7_owes 64 = .ok (.ifCond .eq 16, 3) := by decide +kernel
theorem dX7_owes_67 : decode cX7_owes 67 = .ok (.aload_n 0, 1) := by decide +kernel
theorem dX7_owes_68 : decode cX7_owes 68 = .ok (.getfield 16, 3) := by decide +kernel
theorem dX7_owes_71 : decode cX7_owes 71 = .ok (.bipush 17, 2) := by decide +kernel
theorem dX7_owes_73 : decode cX7_owes 73 = .ok (.iload 4, 2) := by decide +kernel
theorem dX7_owes_75 : decode cX7_owes 75 = .ok (.iadd, 1) := by decide +kernel
theorem dX7_owes_76 : decode cX7_owes 76 = .ok (.iaload, 1) := by decide +kernel
theorem dX7_owes_77 : decode cX7_owes 77 = .ok (.goto 4, 3) := by decide +kernel
theorem dX7_owes_80 : decode cX7_owes 80 = .ok (.iconst 0, 1) := by decide +kernel
theorem dX7_owes_81 : decode cX7_owes 81 = .ok (.iadd, 1) := by decide +kernel
theorem dX7_owes_82 : decode cX7_owes 82 = .ok (.istore_n 3, 1) := by decide +kernel
theorem dX7_owes_83 : decode cX7_owes 83 = .ok (.iinc 4 1, 3) := by decide +kernel
theorem dX7_owes_86 : decode cX7_owes 86 = .ok (.goto (-81), 3) := by decide +kernel
theorem dX7_owes_89 : decode cX7_owes 89 = .ok (.iload_n 3, 1) := by decide +kernel
theorem dX7_owes_90 : decode cX7_owes 90 = .ok (.ireturn, 1) := by decide +kernel
theorem dX7_rich_0 : decode cX7_rich 0 = .ok (.iconst (-1), 1) := by decide +kernel
theorem dX7_rich_1 : decode cX7_rich 1 = .ok (.istore_n 1, 1) := by decide +kernel
theorem dX7_rich_2 : decode cX7_rich 2 = .ok (.iconst 0, 1) := by decide +kernel
theorem dX7_rich_3 : decode cX7_rich 3 = .ok (.istore_n 2, 1) := by decide +kernel
theorem dX7_rich_4 : decode cX7_rich 4 = .ok (.iload_n 2, 1) := by decide +kernel
theorem dX7_rich_5 : decode cX7_rich 5 = .ok (.aload_n 0, 1) := by decide +kernel
theorem dX7_rich_6 : decode cX7_rich 6 = .ok (.getfield 7, 3) := by decide +kernel
theorem dX7_rich_9 : decode cX7_rich 9 = .ok (.iconst 2, 1) := by decide +kernel
theorem dX7_rich_10 : decode cX7_rich 10 = .ok (.iaload, 1) := by decide +kernel
theorem dX7_rich_11 : decode cX7_rich 11 = .ok (.if_icmp .ge 39, 3) := by decide +kernel
theorem dX7_rich_14 : decode cX7_rich 14 = .ok (.iload_n 1, 1) := by decide +kernel
theorem dX7_rich_15 : decode cX7_rich 15 = .ok (.iconst (-1), 1) := by decide +kernel
theorem dX7_rich_16 : decode cX7_rich 16 = .ok (.if_icmp .eq 22, 3) := by decide +kernel
theorem dX7_rich_19 : decode cX7_rich 19 = .ok (.aload_n 0, 1) := by decide +kernel
theorem dX7_rich_20 : decode cX7_rich 20 = .ok (.getfield 16, 3) := by decide +kernel
theorem dX7_rich_23 : decode cX7_rich 23 = .ok (.iconst 0, 1) := by decide +kernel
theorem dX7_rich_24 : decode cX7_rich 24 = .ok (.iload_n 2, 1) := by decide +kernel
theorem dX7_rich_25 : decode cX7_rich 25 = .ok (.iadd, 1) := by decide +kernel
theorem dX7_rich_26 : decode cX7_rich 26 = .ok (.iaload, 1) := by decide +kernel
theorem dX7_rich_27 : decode cX7_rich 27 = .ok (.aload_n 0, 1) := by decide +kernel
theorem dX7_rich_28 : decode cX7_rich 28 = .ok (.getfield 16, 3) := by decide +kernel
theorem dX7_rich_31 : decode cX7_rich 31 = .ok (.iconst 0, 1) := by decide +kernel
theorem dX7_rich_32 : decode cX7_rich 32 = .ok (.iload_n 1, 1) := by decide +kernel
theorem dX7_rich_33 : decode cX7_rich 33 = .ok (.iadd, 1) := by decide +kernel
theorem dX7_rich_34 : decode cX7_rich 34 = .ok (.iaload, 1) := by decide +kernel
theorem dX7_rich_35 : decode cX7_rich 35 = .ok (.if_icmp .le 7, 3) := by decide +kernel
theorem dX7_rich_38 : decode cX7_rich 38 = .ok (.iload_n 2, 1) := by decide +kernel
theorem dX7_rich_39 : decode cX7_rich 39 = .ok (.goto 4, 3) := by decide +kernel
theorem dX7_rich_42 : decode cX7_rich 42 = .ok (.iload_n 1, 1) := by decide +kernel
theorem dX7_rich_43 : decode cX7_rich 43 = .ok (.istore_n 1, 1) := by decide +kernel
theorem dX7_rich_44 : decode cX7_rich 44 = .ok (.iinc 2 1, 3) := by decide +kernel
theorem dX7_rich_47 : decode cX7_rich 47 = .ok (.goto (-43), 3) := by decide +kernel
theorem dX7_rich_50 : decode cX7_rich 50 = .ok (.iload_n 1, 1) := by decide +kernel
theorem dX7_rich_51 : decode cX7_rich 51 = .ok (.ireturn, 1) := by decide +kernel
theorem dX7_rings_0 : decode cX7_rings 0 = .ok (.iconst 0, 1) := by decide +kernel
theorem dX7_rings_1 : decode cX7_rings 1 = .ok (.istore_n 1, 1) := by decide +kernel
theorem dX7_rings_2 : decode cX7_rings 2 = .ok (.iconst 0, 1) := by decide +kernel
theorem dX7_rings_3 : decode cX7_rings 3 = .ok (.istore_n 2, 1) := by decide +kernel
theorem dX7_rings_4 : decode cX7_rings 4 = .ok (.iload_n 2, 1) := by decide +kernel
theorem dX7_rings_5 : decode cX7_rings 5 = .ok (.aload_n 0, 1) := by decide +kernel
theorem dX7_rings_6 : decode cX7_rings 6 = .ok (.getfield 7, 3) := by decide +kernel
theorem dX7_rings_9 : decode cX7_rings 9 = .ok (.iconst 2, 1) := by decide +kernel
theorem dX7_rings_10 : decode cX7_rings 10 = .ok (.iaload, 1) := by decide +kernel
theorem dX7_rings_11 : decode cX7_rings 11 = .ok (.if_icmp .ge 140, 3) := by decide +kernel
theorem dX7_rings_14 : decode cX7_rings 14 = .ok (.iconst 0, 1) := by decide +kernel
theorem dX7_rings_15 : decode cX7_rings 15 = .ok (.istore_n 3, 1) := by decide +kernel
theorem dX7_rings_16 : decode cX7_rings 16 = .ok (.iconst 0, 1) := by decide +kernel
theorem dX7_rings_17 : decode cX7_rings 17 = .ok (.istore 4, 2) := by decide +kernel
theorem dX7_rings_19 : decode cX7_rings 19 = .ok (.iload 4, 2) := by decide +kernel
theorem dX7_rings_21 : decode cX7_rings 21 = .ok (.bipush 7, 2) := by decide +kernel
theorem dX7_rings_23 : decode cX7_rings 23 = .ok (.if_icmp .ge 104, 3) := by decide +kernel
theorem dX7_rings_26 : decode cX7_rings 26 = .ok (.iconst 0, 1) := by decide +kernel
theorem dX7_rings_27 : decode cX7_rings 27 = .ok (.istore 5, 2) := by decide +kernel
theorem dX7_rings_29 : decode cX7_rings 29 = .ok (.iload 5, 2) := by decide +kernel
theorem dX7_rings_31 : decode cX7_rings 31 = .ok (.aload_n 0, 1) := by decide +kernel
theorem dX7_rings_32 : decode cX7_rings 32 = .ok (.getfield 7, 3) := by decide +kernel
theorem dX7_rings_35 : decode cX7_rings 35 = .ok (.iconst 3, 1) := by decide +kernel
theorem dX7_rings_36 : decode cX7_rings 36 = .ok (.iaload, 1) := by decide +kernel
theorem dX7_rings_37 : decode cX7_rings 37 = .ok (.if_icmp .ge 84, 3) := by decide +kernel
theorem dX7_rings_40 : decode cX7_rings 40 = .ok (.aload_n 0, 1) := by decide +kernel
theorem dX7_rings_41 : decode cX7_rings 41 = .ok (.getfield 7, 3) := by decide +kernel
theorem dX7_rings_44 : decode cX7_rings 44 = .ok (.bipush 25, 2) := by decide +kernel
theorem dX7_rings_46 : decode cX7_rings 46 = .ok (.iload 5, 2) := by decide +kernel
theorem dX7_rings_48 : decode cX7_rings 48 = .ok (.iadd, 1) := by decide +kernel
theorem dX7_rings_49 : decode cX7_rings 49 = .ok (.iaload, 1) := by decide +kernel
theorem dX7_rings_50 : decode cX7_rings 50 = .ok (.iload_n 2, 1) := by decide +kernel
theorem dX7_rings_51 : decode cX7_rings 51 = .ok (.if_icmp .eq 20, 3) := by decide +kernel
theorem dX7_rings_54 : decode cX7_rings 54 = .ok (.iload_n 3, 1) := by decide +kernel
theorem dX7_rings_55 : decode cX7_rings 55 = .ok (.aload_n 0, 1) := by decide +kernel
theorem dX7_rings_56 : decode cX7_rings 56 = .ok (.getfield 7, 3) := by decide +kernel
theorem dX7_rings_59 : decode cX7_rings 59 = .ok (.bipush 25, 2) := by decide +kernel
theorem dX7_rings_61 : decode cX7_rings 61 = .ok (.iload 5, 2) := by decide +kernel
theorem dX7_rings_63 : decode cX7_rings 63 = .ok (.iadd, 1) := by decide +kernel
theorem dX7_rings_64 : decode cX7_rings 64 = .ok (.iaload, 1) := by decide +kernel
theorem dX7_rings_65 : decode cX7_rings 65 = .ok (.invokestatic 142, 3) := by decide +kernel
theorem dX7_rings_68 : decode cX7_rings 68 = .ok (.ifCond .eq 7, 3) := by decide +kernel
theorem dX7_rings_71 : decode cX7_rings 71 = .ok (.iconst 1, 1) := by decide +kernel
theorem dX7_rings_72 : decode cX7_rings 72 = .ok (.goto 4, 3) := by decide +kernel
theorem dX7_rings_75 : decode cX7_rings 75 = .ok (.iconst 0, 1) := by decide +kernel
theorem dX7_rings_76 : decode cX7_rings 76 = .ok (.istore 6, 2) := by decide +kernel
theorem dX7_rings_78 : decode cX7_rings 78 = .ok (.iload_n 3, 1) := by decide +kernel
theorem dX7_rings_79 : decode cX7_rings 79 = .ok (.aload_n 0, 1) := by decide +kernel
theorem dX7_rings_80 : decode cX7_rings 80 = .ok (.getfield 16, 3) := by decide +kernel
theorem dX7_rings_83 : decode cX7_rings 83 = .ok (.bipush 17, 2) := by decide +kernel
theorem dX7_rings_85 : decode cX7_rings 85 = .ok (.iload 5, 2) := by decide +kernel
theorem dX7_rings_87 : decode cX7_rings 87 = .ok (.iadd, 1) := by decide +kernel
theorem dX7_rings_88 : decode cX7_rings 88 = .ok (.iaload, 1) := by decide +kernel
theorem dX7_rings_89 : decode cX7_rings 89 = .ok (.ifCond .le 23, 3) := by decide +kernel
theorem dX7_rings_92 : decode cX7_rings 92 = .ok (.iload 6, 2) := by decide +kernel
theorem dX7_rings_94 : decode cX7_rings 94 = .ok (.ifCond .eq 18, 3) := by decide +kernel
theorem dX7_rings_97 : decode cX7_rings 97 = .ok (.iconst 1, 1) := by decide +kernel
theorem dX7_rings_98 : decode cX7_rings 98 = .ok (.aload_n 0, 1) := by decide +kernel
theorem dX7_rings_99 : decode cX7_rings 99 = .ok (.getfield 7, 3) := by decide +kernel
theorem dX7_rings_102 : decode cX7_rings 102 = .ok (.bipush 34, 2) := by decide +kernel
theorem dX7_rings_104 : decode cX7_rings 104 = .ok (.iload 5, 2) := by decide +kernel
theorem dX7_rings_106 : decode cX7_rings 106 = .ok (.iadd, 1) := by decide +kernel
theorem dX7_rings_107 : decode cX7_rings 107 = .ok (.iaload, 1) := by decide +kernel
theorem dX7_rings_108 : decode cX7_rings 108 = .ok (.ishl, 1) := by decide +kernel
theorem dX7_rings_109 : decode cX7_rings 109 = .ok (.goto 4, 3) := by decide +kernel
theorem dX7_rings_112 : decode cX7_rings 112 = .ok (.iconst 0, 1) := by decide +kernel
theorem dX7_rings_113 : decode cX7_rings 113 = .ok (.ior, 1) := by decide +kernel
theorem dX7_rings_114 : decode cX7_rings 114 = .ok (.istore_n 3, 1) := by decide +kernel
theorem dX7_rings_115 : decode cX7_rings 115 = .ok (.iinc 5 1, 3) := by decide +kernel
theorem dX7_rings_118 : decode cX7_rings 118 = .ok (.goto (-89), 3) := by decide +kernel
theorem dX7_rings_121 : decode cX7_rings 121 = .ok (.iinc 4 1, 3) := by decide +kernel
theorem dX7_rings_124 : decode cX7_rings 124 = .ok (.goto (-105), 3) := by decide +kernel
theorem dX7_rings_127 : decode cX7_rings 127 = .ok (.iload_n 1, 1) := by decide +kernel
theorem dX7_rings_128 : decode cX7_rings 128 = .ok (.iload_n 3, 1) := by decide +kernel
theorem dX7_rings_129 : decode cX7_rings 129 = .ok (.iload_n 2, 1) := by decide +kernel
theorem dX7_rings_130 : decode cX7_rings 130 = .ok (.invokestatic 142, 3) := by decide +kernel
theorem dX7_rings_133 : decode cX7_rings 133 = .ok (.ifCond .eq 9, 3) := by decide +kernel
theorem dX7_rings_136 : decode cX7_rings 136 = .ok (.iconst 1, 1) := by decide +kernel
theorem dX7_rings_137 : decode cX7_rings 137 = .ok (.iload_n 2, 1) := by decide +kernel
theorem dX7_rings_138 : decode cX7_rings 138 = .ok (.ishl, 1) := by decide +kernel
theorem dX7_rings_139 : decode cX7_rings 139 = .ok (.goto 4, 3) := by decide +kernel
theorem dX7_rings_142 : decode cX7_rings 142 = .ok (.iconst 0, 1) := by decide +kernel
theorem dX7_rings_143 : decode cX7_rings 143 = .ok (.ior, 1) := by decide +kernel
theorem dX7_rings_144 : decode cX7_rings 144 = .ok (.istore_n 1, 1) := by decide +kernel
theorem dX7_rings_145 : decode cX7_rings 145 = .ok (.iinc 2 1, 3) := by decide +kernel
theorem dX7_rings_148 : decode cX7_rings 148 = .ok (.goto (-144), 3) := by decide +kernel
theorem dX7_rings_151 : decode cX7_rings 151 = .ok (.iload_n 1, 1) := by decide +kernel
theorem dX7_rings_152 : decode cX7_rings 152 = .ok (.ireturn, 1) := by decide +kernel
theorem dX7_drawnBy_0 : decode cX7_drawnBy 0 = .ok (.iconst 0, 1) := by decide +kernel
theorem dX7_drawnBy_1 : decode cX7_drawnBy 1 = .ok (.istore_n 2, 1) := by decide +kernel
theorem dX7_drawnBy_2 : decode cX7_drawnBy 2 = .ok (.iconst 0, 1) := by decide +kernel
theorem dX7_drawnBy_3 : decode cX7_drawnBy 3 = .ok (.istore_n 3, 1) := by decide +kernel
theorem dX7_drawnBy_4 : decode cX7_drawnBy 4 = .ok (.iload_n 3, 1) := by decide +kernel
theorem dX7_drawnBy_5 : decode cX7_drawnBy 5 = .ok (.aload_n 0, 1) := by decide +kernel
theorem dX7_drawnBy_6 : decode cX7_drawnBy 6 = .ok (.getfield 7, 3) := by decide +kernel
theorem dX7_drawnBy_9 : decode cX7_drawnBy 9 = .ok (.iconst 2, 1) := by decide +kernel
theorem dX7_drawnBy_10 : decode cX7_drawnBy 10 = .ok (.iaload, 1) := by decide +kernel
theorem dX7_drawnBy_11 : decode cX7_drawnBy 11 = .ok (.if_icmp .ge 55, 3) := by decide +kernel
theorem dX7_drawnBy_14 : decode cX7_drawnBy 14 = .ok (.iload_n 2, 1) := by decide +kernel
theorem dX7_drawnBy_15 : decode cX7_drawnBy 15 = .ok (.iload_n 3, 1) := by decide +kernel
theorem dX7_drawnBy_16 : decode cX7_drawnBy 16 = .ok (.iload_n 1, 1) := by decide +kernel
theorem dX7_drawnBy_17 : decode cX7_drawnBy 17 = .ok (.if_icmp .eq 17, 3) := by decide +kernel
theorem dX7_drawnBy_20 : decode cX7_drawnBy 20 = .ok (.aload_n 0, 1) := by decide +kernel
