theorem dX7_most_35 : decode cX7_most 35 = .ok (.ireturn, 1) := by decide +kernel
theorem dX7_most_36 : decode cX7_most 36 = .ok (.aload_n 0, 1) := by decide +kernel
theorem dX7_most_37 : decode cX7_most 37 = .ok (.invokevirtual 232, 3) := by decide +kernel
theorem dX7_most_40 : decode cX7_most 40 = .ok (.iconst (-1), 1) := by decide +kernel
theorem dX7_most_41 : decode cX7_most 41 = .ok (.istore 4, 2) := by decide +kernel
theorem dX7_most_43 : decode cX7_most 43 = .ok (.iconst 0, 1) := by decide +kernel
theorem dX7_most_44 : decode cX7_most 44 = .ok (.istore 5, 2) := by decide +kernel
theorem dX7_most_46 : decode cX7_most 46 = .ok (.iconst 0, 1) := by decide +kernel
theorem dX7_most_47 : decode cX7_most 47 = .ok (.istore 6, 2) := by decide +kernel
theorem dX7_most_49 : decode cX7_most 49 = .ok (.iload 6, 2) := by decide +kernel
theorem dX7_most_51 : decode cX7_most 51 = .ok (.iload_n 2, 1) := by decide +kernel
theorem dX7_most_52 : decode cX7_most 52 = .ok (.if_icmp .gt 55, 3) := by decide +kernel
theorem dX7_most_55 : decode cX7_most 55 = .ok (.aload_n 0, 1) := by decide +kernel
theorem dX7_most_56 : decode cX7_most 56 = .ok (.getfield 19, 3) := by decide +kernel
theorem dX7_most_59 : decode cX7_most 59 = .ok (.iconst 0, 1) := by decide +kernel
theorem dX7_most_60 : decode cX7_most 60 = .ok (.iload_n 1, 1) := by decide +kernel
theorem dX7_most_61 : decode cX7_most 61 = .ok (.iadd, 1) := by decide +kernel
theorem dX7_most_62 : decode cX7_most 62 = .ok (.iaload, 1) := by decide +kernel
theorem dX7_most_63 : decode cX7_most 63 = .ok (.iload 4, 2) := by decide +kernel
theorem dX7_most_65 : decode cX7_most 65 = .ok (.if_icmp .le 8, 3) := by decide +kernel
theorem dX7_most_68 : decode cX7_most 68 = .ok (.iload 6, 2) := by decide +kernel
theorem dX7_most_70 : decode cX7_most 70 = .ok (.goto 5, 3) := by decide +kernel
theorem dX7_most_73 : decode cX7_most 73 = .ok (.iload 5, 2) := by decide +kernel
theorem dX7_most_75 : decode cX7_most 75 = .ok (.istore 5, 2) := by decide +kernel
theorem dX7_most_77 : decode cX7_most 77 = .ok (.iload 4, 2) := by decide +kernel
theorem dX7_most_79 : decode cX7_most 79 = .ok (.aload_n 0, 1) := by decide +kernel
theorem dX7_most_80 : decode cX7_most 80 = .ok (.getfield 19, 3) := by decide +kernel
theorem dX7_most_83 : decode cX7_most 83 = .ok (.iconst 0, 1) := by decide +kernel
theorem dX7_most_84 : decode cX7_most 84 = .ok (.iload_n 1, 1) := by decide +kernel
theorem dX7_most_85 : decode cX7_most 85 = .ok (.iadd, 1) := by decide +kernel
theorem dX7_most_86 : decode cX7_most 86 = .ok (.iaload, 1) := by decide +kernel
theorem dX7_most_87 : decode cX7_most 87 = .ok (.invokestatic 235, 3) := by decide +kernel
theorem dX7_most_90 : decode cX7_most 90 = .ok (.istore 4, 2) := by decide +kernel
theorem dX7_most_92 : decode cX7_most 92 = .ok (.aload_n 0, 1) := by decide +kernel
theorem dX7_most_93 : decode cX7_most 93 = .ok (.aload_n 0, 1) := by decide +kernel
theorem dX7_most_94 : decode cX7_most 94 = .ok (.getfield 19, 3) := by decide +kernel
theorem dX7_most_97 : decode cX7_most 97 = .ok (.iconst 1, 1) := by decide +kernel
theorem dX7_most_98 : decode cX7_most 98 = .ok (.invokevirtual 208, 3) := by decide +kernel
theorem dX7_most_101 : decode cX7_most 101 = .ok (.iinc 6 1, 3) := by decide +kernel
theorem dX7_most_104 : decode cX7_most 104 = .ok (.goto (-55), 3) := by decide +kernel
theorem dX7_most_107 : decode cX7_most 107 = .ok (.iload_n 3, 1) := by decide +kernel
theorem dX7_most_108 : decode cX7_most 108 = .ok (.ifCond .ne 8, 3) := by decide +kernel
theorem dX7_most_111 : decode cX7_most 111 = .ok (.iload 5, 2) := by decide +kernel
theorem dX7_most_113 : decode cX7_most 113 = .ok (.goto 5, 3) := by decide +kernel
theorem dX7_most_116 : decode cX7_most 116 = .ok (.iload 4, 2) := by decide +kernel
theorem dX7_most_118 : decode cX7_most 118 = .ok (.ireturn, 1) := by decide +kernel
theorem dX7_kept_0 : decode cX7_kept 0 = .ok (.aload_n 0, 1) := by decide +kernel
theorem dX7_kept_1 : decode cX7_kept 1 = .ok (.iload_n 1, 1) := by decide +kernel
theorem dX7_kept_2 : decode cX7_kept 2 = .ok (.invokevirtual 180, 3) := by decide +kernel
theorem dX7_kept_5 : decode cX7_kept 5 = .ok (.ifCond .ne 6, 3) := by decide +kernel
theorem dX7_kept_8 : decode cX7_kept 8 = .ok (.ldc 183, 2) := by decide +kernel
theorem dX7_kept_10 : decode cX7_kept 10 = .ok (.ireturn, 1) := by decide +kernel
theorem dX7_kept_11 : decode cX7_kept 11 = .ok (.aload_n 0, 1) := by decide +kernel
theorem dX7_kept_12 : decode cX7_kept 12 = .ok (.invokevirtual 232, 3) := by decide +kernel
theorem dX7_kept_15 : decode cX7_kept 15 = .ok (.aload_n 0, 1) := by decide +kernel
theorem dX7_kept_16 : decode cX7_kept 16 = .ok (.aload_n 0, 1) := by decide +kernel
theorem dX7_kept_17 : decode cX7_kept 17 = .ok (.getfield 19, 3) := by decide +kernel
theorem dX7_kept_20 : decode cX7_kept 20 = .ok (.iconst 0, 1) := by decide +kernel
theorem dX7_kept_21 : decode cX7_kept 21 = .ok (.invokevirtual 208, 3) := by decide +kernel
theorem dX7_kept_24 : decode cX7_kept 24 = .ok (.aload_n 0, 1) := by decide +kernel
theorem dX7_kept_25 : decode cX7_kept 25 = .ok (.getfield 19, 3) := by decide +kernel
theorem dX7_kept_28 : decode cX7_kept 28 = .ok (.bipush 16, 2) := by decide +kernel
theorem dX7_kept_30 : decode cX7_kept 30 = .ok (.iaload, 1) := by decide +kernel
theorem dX7_kept_31 : decode cX7_kept 31 = .ok (.aload_n 0, 1) := by decide +kernel
theorem dX7_kept_32 : decode cX7_kept 32 = .ok (.getfield 7, 3) := by decide +kernel
theorem dX7_kept_35 : decode cX7_kept 35 = .ok (.iconst 1, 1) := by decide +kernel
theorem dX7_kept_36 : decode cX7_kept 36 = .ok (.iaload, 1) := by decide +kernel
theorem dX7_kept_37 : decode cX7_kept 37 = .ok (.irem, 1) := by decide +kernel
theorem dX7_kept_38 : decode cX7_kept 38 = .ok (.ifCond .eq 15, 3) := by decide +kernel
theorem dX7_kept_41 : decode cX7_kept 41 = .ok (.aload_n 0, 1) := by decide +kernel
theorem dX7_kept_42 : decode cX7_kept 42 = .ok (.aload_n 0, 1) := by decide +kernel
theorem dX7_kept_43 : decode cX7_kept 43 = .ok (.getfield 19, 3) := by decide +kernel
theorem dX7_kept_46 : decode cX7_kept 46 = .ok (.iconst 0, 1) := by decide +kernel
theorem dX7_kept_47 : decode cX7_kept 47 = .ok (.invokevirtual 208, 3) := by decide +kernel
theorem dX7_kept_50 : decode cX7_kept 50 = .ok (.goto (-26), 3) := by decide +kernel
theorem dX7_kept_53 : decode cX7_kept 53 = .ok (.aload_n 0, 1) := by decide +kernel
theorem dX7_kept_54 : decode cX7_kept 54 = .ok (.getfield 19, 3) := by decide +kernel
theorem dX7_kept_57 : decode cX7_kept 57 = .ok (.iconst 0, 1) := by decide +kernel
theorem dX7_kept_58 : decode cX7_kept 58 = .ok (.iload_n 1, 1) := by decide +kernel
theorem dX7_kept_59 : decode cX7_kept 59 = .ok (.iadd, 1) := by decide +kernel
theorem dX7_kept_60 : decode cX7_kept 60 = .ok (.iaload, 1) := by decide +kernel
theorem dX7_kept_61 : decode cX7_kept 61 = .ok (.ireturn, 1) := by decide +kernel
theorem dX7_isOwed_0 : decode cX7_isOwed 0 = .ok (.aload_n 0, 1) := by decide +kernel
theorem dX7_isOwed_1 : decode cX7_isOwed 1 = .ok (.getfield 16, 3) := by decide +kernel
theorem dX7_isOwed_4 : decode cX7_isOwed 4 = .ok (.bipush 17, 2) := by decide +kernel
theorem dX7_isOwed_6 : decode cX7_isOwed 6 = .ok (.iload_n 1, 1) := by decide +kernel
theorem dX7_isOwed_7 : decode cX7_isOwed 7 = .ok (.iadd, 1) := by decide +kernel
theorem dX7_isOwed_8 : decode cX7_isOwed 8 = .ok (.iaload, 1) := by decide +kernel
theorem dX7_isOwed_9 : decode cX7_isOwed 9 = .ok (.ifCond .le 7, 3) := by decide +kernel
theorem dX7_isOwed_12 : decode cX7_isOwed 12 = .ok (.iconst 1, 1) := by decide +kernel
theorem dX7_isOwed_13 : decode cX7_isOwed 13 = .ok (.goto 4, 3) := by decide +kernel
theorem dX7_isOwed_16 : decode cX7_isOwed 16 = .ok (.iconst 0, 1) := by decide +kernel
theorem dX7_isOwed_17 : decode cX7_isOwed 17 = .ok (.ireturn, 1) := by decide +kernel
theorem dX7_mayPay_0 : decode cX7_mayPay 0 = .ok (.aload_n 0, 1) := by decide +kernel
theorem dX7_mayPay_1 : decode cX7_mayPay 1 = .ok (.getfield 7, 3) := by decide +kernel
theorem dX7_mayPay_4 : decode cX7_mayPay 4 = .ok (.bipush 25, 2) := by decide +kernel
theorem dX7_mayPay_6 : decode cX7_mayPay 6 = .ok (.iload_n 2, 1) := by decide +kernel
theorem dX7_mayPay_7 : decode cX7_mayPay 7 = .ok (.iadd, 1) := by decide +kernel
theorem dX7_mayPay_8 : decode cX7_mayPay 8 = .ok (.iaload, 1) := by decide +kernel
theorem dX7_mayPay_9 : decode cX7_mayPay 9 = .ok (.istore 5, 2) := by decide +kernel
theorem dX7_mayPay_11 : decode cX7_mayPay 11 = .ok (.aload_n 0, 1) := by decide +kernel
theorem dX7_mayPay_12 : decode cX7_mayPay 12 = .ok (.getfield 16, 3) := by decide +kernel
theorem dX7_mayPay_15 : decode cX7_mayPay 15 = .ok (.iconst 0, 1) := by decide +kernel
theorem dX7_mayPay_16 : decode cX7_mayPay 16 = .ok (.iload 5, 2) := by decide +kernel
theorem dX7_mayPay_18 : decode cX7_mayPay 18 = .ok (.iadd, 1) := by decide +kernel
theorem dX7_mayPay_19 : decode cX7_mayPay 19 = .ok (.iaload, 1) := by decide +kernel
theorem dX7_mayPay_20 : decode cX7_mayPay 20 = .ok (.iload 5, 2) := by decide +kernel
theorem dX7_mayPay_22 : decode cX7_mayPay 22 = .ok (.iload_n 3, 1) := by decide +kernel
theorem dX7_mayPay_23 : decode cX7_mayPay 23 = .ok (.if_icmp .ne 8, 3) := by decide +kernel
theorem dX7_mayPay_26 : decode cX7_mayPay 26 = .ok (.iload 4, 2) := by decide +kernel
theorem dX7_mayPay_28 : decode cX7_mayPay 28 = .ok (.goto 4, 3) := by decide +kernel
theorem dX7_mayPay_31 : decode cX7_mayPay 31 = .ok (.iconst 0, 1) := by decide +kernel
theorem dX7_mayPay_32 : decode cX7_mayPay 32 = .ok (.iadd, 1) := by decide +kernel
theorem dX7_mayPay_33 : decode cX7_mayPay 33 = .ok (.istore 6, 2) := by decide +kernel
theorem dX7_mayPay_35 : decode cX7_mayPay 35 = .ok (.iconst 0, 1) := by decide +kernel
theorem dX7_mayPay_36 : decode cX7_mayPay 36 = .ok (.istore 7, 2) := by decide +kernel
theorem dX7_mayPay_38 : decode cX7_mayPay 38 = .ok (.iload 7, 2) := by decide +kernel
theorem dX7_mayPay_40 : decode cX7_mayPay 40 = .ok (.aload_n 0, 1) := by decide +kernel
theorem dX7_mayPay_41 : decode cX7_mayPay 41 = .ok (.getfield 7, 3) := by decide +kernel
theorem dX7_mayPay_44 : decode cX7_mayPay 44 = .ok (.iconst 3, 1) := by decide +kernel
theorem dX7_mayPay_45 : decode cX7_mayPay 45 = .ok (.iaload, 1) := by decide +kernel
theorem dX7_mayPay_46 : decode cX7_mayPay 46 = .ok (.if_icmp .ge 86, 3) := by decide +kernel
theorem dX7_mayPay_49 : decode cX7_mayPay 49 = .ok (.iload_n 1, 1) := by decide +kernel
theorem dX7_mayPay_50 : decode cX7_mayPay 50 = .ok (.iload 7, 2) := by decide +kernel
theorem dX7_mayPay_52 : decode cX7_mayPay 52 = .ok (.invokestatic 142, 3) := by decide +kernel
theorem dX7_mayPay_55 : decode cX7_mayPay 55 = .ok (.ifCond .eq 71, 3) := by decide +kernel
theorem dX7_mayPay_58 : decode cX7_mayPay 58 = .ok (.iload 6, 2) := by decide +kernel
theorem dX7_mayPay_60 : decode cX7_mayPay 60 = .ok (.aload_n 0, 1) := by decide +kernel
theorem dX7_mayPay_61 : decode cX7_mayPay 61 = .ok (.getfield 7, 3) := by decide +kernel
theorem dX7_mayPay_64 : decode cX7_mayPay 64 = .ok (.bipush 34, 2) := by decide +kernel
theorem dX7_mayPay_66 : decode cX7_mayPay 66 = .ok (.iload 7, 2) := by decide +kernel
theorem dX7_mayPay_68 : decode cX7_mayPay 68 = .ok (.iadd, 1) := by decide +kernel
theorem dX7_mayPay_69 : decode cX7_mayPay 69 = .ok (.iaload, 1) := by decide +kernel
theorem dX7_mayPay_70 : decode cX7_mayPay 70 = .ok (.iload 5, 2) := by decide +kernel
theorem dX7_mayPay_72 : decode cX7_mayPay 72 = .ok (.if_icmp .ne 16, 3) := by decide +kernel
theorem dX7_mayPay_75 : decode cX7_mayPay 75 = .ok (.aload_n 0, 1) := by decide +kernel
theorem dX7_mayPay_76 : decode cX7_mayPay 76 = .ok (.getfield 16, 3) := by decide +kernel
theorem dX7_mayPay_79 : decode cX7_mayPay 79 = .ok (.bipush 17, 2) := by decide +kernel
theorem dX7_mayPay_81 : decode cX7_mayPay 81 = .ok (.iload 7, 2) := by decide +kernel
theorem dX7_mayPay_83 : decode cX7_mayPay 83 = .ok (.iadd, 1) := by decide +kernel
theorem dX7_mayPay_84 : decode cX7_mayPay 84 = .ok (.iaload, 1) := by decide +kernel
theorem dX7_mayPay_85 : decode cX7_mayPay 85 = .ok (.goto 4, 3) := by decide +kernel
theorem dX7_mayPay_88 : decode cX7_mayPay 88 = .ok (.iconst 0, 1) := by decide +kernel
theorem dX7_mayPay_89 : decode cX7_mayPay 89 = .ok (.iadd, 1) := by decide +kernel
theorem dX7_mayPay_90 : decode cX7_mayPay 90 = .ok (.istore 6, 2) := by decide +kernel
theorem dX7_mayPay_92 : decode cX7_mayPay 92 = .ok (.iload 6, 2) := by decide +kernel
theorem dX7_mayPay_94 : decode cX7_mayPay 94 = .ok (.aload_n 0, 1) := by decide +kernel
theorem dX7_mayPay_95 : decode cX7_mayPay 95 = .ok (.getfield 7, 3) := by decide +kernel
theorem dX7_mayPay_98 : decode cX7_mayPay 98 = .ok (.bipush 25, 2) := by decide +kernel
theorem dX7_mayPay_100 : decode cX7_mayPay 100 = .ok (.iload 7, 2) := by decide +kernel
theorem dX7_mayPay_102 : decode cX7_mayPay 102 = .ok (.iadd, 1) := by decide +kernel
theorem dX7_mayPay_103 : decode cX7_mayPay 103 = .ok (.iaload, 1) := by decide +kernel
theorem dX7_mayPay_104 : decode cX7_mayPay 104 = .ok (.iload 5, 2) := by decide +kernel
theorem dX7_mayPay_106 : decode cX7_mayPay 106 = .ok (.if_icmp .ne 16, 3) := by decide +kernel
theorem dX7_mayPay_109 : decode cX7_mayPay 109 = .ok (.aload_n 0, 1) := by decide +kernel
theorem dX7_mayPay_110 : decode cX7_mayPay 110 = .ok (.getfield 16, 3) := by decide +kernel
theorem dX7_mayPay_113 : decode cX7_mayPay 113 = .ok (.bipush 17, 2) := by decide +kernel
theorem dX7_mayPay_115 : decode cX7_mayPay 115 = .ok (.iload 7, 2) := by decide +kernel
theorem dX7_mayPay_117 : decode cX7_mayPay 117 = .ok (.iadd, 1) := by decide +kernel
theorem dX7_mayPay_118 : decode cX7_mayPay 118 = .ok (.iaload, 1) := by decide +kernel
theorem dX7_mayPay_119 : decode cX7_mayPay 119 = .ok (.goto 4, 3) := by decide +kernel
theorem dX7_mayPay_122 : decode cX7_mayPay 122 = .ok (.iconst 0, 1) := by decide +kernel
theorem dX7_mayPay_123 : decode cX7_mayPay 123 = .ok (.isub, 1) := by decide +kernel
theorem dX7_mayPay_124 : decode cX7_mayPay 124 = .ok (.istore 6, 2) := by decide +kernel
theorem dX7_mayPay_126 : decode cX7_mayPay 126 = .ok (.iinc 7 1, 3) := by decide +kernel
theorem dX7_mayPay_129 : decode cX7_mayPay 129 = .ok (.goto (-91), 3) := by decide +kernel
theorem dX7_mayPay_132 : decode cX7_mayPay 132 = .ok (.iload 6, 2) := by decide +kernel
theorem dX7_mayPay_134 : decode cX7_mayPay 134 = .ok (.aload_n 0, 1) := by decide +kernel
theorem dX7_mayPay_135 : decode cX7_mayPay 135 = .ok (.getfield 16, 3) := by decide +kernel
theorem dX7_mayPay_138 : decode cX7_mayPay 138 = .ok (.bipush 17, 2) := by decide +kernel
theorem dX7_mayPay_140 : decode cX7_mayPay 140 = .ok (.iload_n 2, 1) := by decide +kernel
theorem dX7_mayPay_141 : decode cX7_mayPay 141 = .ok (.iadd, 1) := by decide +kernel
theorem dX7_mayPay_142 : decode cX7_mayPay 142 = .ok (.iaload, 1) := by decide +kernel
theorem dX7_mayPay_143 : decode cX7_mayPay 143 = .ok (.if_icmp .lt 7, 3) := by decide +kernel
theorem dX7_mayPay_146 : decode cX7_mayPay 146 = .ok (.iconst 1, 1) := by decide +kernel
theorem dX7_mayPay_147 : decode cX7_mayPay 147 = .ok (.goto 4, 3) := by decide +kernel
theorem dX7_mayPay_150 : decode cX7_mayPay 150 = .ok (.iconst 0, 1) := by decide +kernel
theorem dX7_mayPay_151 : decode cX7_mayPay 151 = .ok (.ireturn, 1) := by decide +kernel
theorem dX7_laysDebts_0 : decode cX7_laysDebts 0 = .ok (.iconst 1, 1) := by decide +kernel
theorem dX7_laysDebts_1 : decode cX7_laysDebts 1 = .ok (.aload_n 0, 1) := by decide +kernel
theorem dX7_laysDebts_2 : decode cX7_laysDebts 2 = .ok (.getfield 7, 3) := by decide +kernel
theorem dX7_laysDebts_5 : decode cX7_laysDebts 5 = .ok (.iconst 3, 1) := by decide +kernel
theorem dX7_laysDebts_6 : decode cX7_laysDebts 6 = .ok (.iaload, 1) := by decide +kernel
theorem dX7_laysDebts_7 : decode cX7_laysDebts 7 = .ok (.ishl, 1) := by decide +kernel
theorem dX7_laysDebts_8 : decode cX7_laysDebts 8 = .ok (.iconst 1, 1) := by decide +kernel
theorem dX7_laysDebts_9 : decode cX7_laysDebts 9 = .ok (.isub, 1) := by decide +kernel
theorem dX7_laysDebts_10 : decode cX7_laysDebts 10 = .ok (.istore_n 3, 1) := by decide +kernel
theorem dX7_laysDebts_11 : decode cX7_laysDebts 11 = .ok (.iload_n 3, 1) := by decide +kernel
theorem dX7_laysDebts_12 : decode cX7_laysDebts 12 = .ok (.ifCond .lt 105, 3) := by decide +kernel
theorem dX7_laysDebts_15 : decode cX7_laysDebts 15 = .ok (.aload_n 0, 1) := by decide +kernel
theorem dX7_laysDebts_16 : decode cX7_laysDebts 16 = .ok (.getfield 51, 3) := by decide +kernel
theorem dX7_laysDebts_19 : decode cX7_laysDebts 19 = .ok (.iload_n 3, 1) := by decide +kernel
theorem dX7_laysDebts_20 : decode cX7_laysDebts 20 = .ok (.iconst 0, 1) := by decide +kernel
theorem dX7_laysDebts_21 : decode cX7_laysDebts 21 = .ok (.iastore, 1) := by decide +kernel
theorem dX7_laysDebts_22 : decode cX7_laysDebts 22 = .ok (.iconst 0, 1) := by decide +kernel
theorem dX7_laysDebts_23 : decode cX7_laysDebts 23 = .ok (.istore 4, 2) := by decide +kernel
theorem dX7_laysDebts_25 : decode cX7_laysDebts 25 = .ok (.iload 4, 2) := by decide +kernel
theorem dX7_laysDebts_27 : decode cX7_laysDebts 27 = .ok (.aload_n 0, 1) := by decide +kernel
theorem dX7_laysDebts_28 : decode cX7_laysDebts 28 = .ok (.getfield 7, 3) := by decide +kernel
theorem dX7_laysDebts_31 : decode cX7_laysDebts 31 = .ok (.iconst 3, 1) := by decide +kernel
theorem dX7_laysDebts_32 : decode cX7_laysDebts 32 = .ok (.iaload, 1) := by decide +kernel
theorem dX7_laysDebts_33 : decode cX7_laysDebts 33 = .ok (.if_icmp .ge 78, 3) := by decide +kernel
theorem dX7_laysDebts_36 : decode cX7_laysDebts 36 = .ok (.iload_n 3, 1) := by decide +kernel
theorem dX7_laysDebts_37 : decode cX7_laysDebts 37 = .ok (.iload 4, 2) := by decide +kernel
theorem dX7_laysDebts_39 : decode cX7_laysDebts 39 = .ok (.invokestatic 142, 3) := by decide +kernel
theorem dX7_laysDebts_42 : decode cX7_laysDebts 42 = .ok (.ifCond .ne 63, 3) := by decide +kernel
theorem dX7_laysDebts_45 : decode cX7_laysDebts 45 = .ok (.aload_n 0, 1) := by decide +kernel
theorem dX7_laysDebts_46 : decode cX7_laysDebts 46 = .ok (.iload 4, 2) := by decide +kernel
theorem dX7_laysDebts_48 : decode cX7_laysDebts 48 = .ok (.invokevirtual 238, 3) := by decide +kernel
theorem dX7_laysDebts_51 : decode cX7_laysDebts 51 = .ok (.ifCond .eq 54, 3) := by decide +kernel
theorem dX7_laysDebts_54 : decode cX7_laysDebts 54 = .ok (.aload_n 0, 1) := by decide +kernel
theorem dX7_laysDebts_55 : decode cX7_laysDebts 55 = .ok (.getfield 51, 3) := by decide +kernel
theorem dX7_laysDebts_58 : decode cX7_laysDebts 58 = .ok (.iload_n 3, 1) := by decide +kernel
theorem dX7_laysDebts_59 : decode cX7_laysDebts 59 = .ok (.iconst 1, 1) := by decide +kernel
theorem dX7_laysDebts_60 : decode cX7_laysDebts 60 = .ok (.iload 4, 2) := by decide +kernel
theorem dX7_laysDebts_62 : decode cX7_laysDebts 62 = .ok (.ishl, 1) := by decide +kernel
theorem dX7_laysDebts_63 : decode cX7_laysDebts 63 = .ok (.ior, 1) := by decide +kernel
theorem dX7_laysDebts_64 : decode cX7_laysDebts 64 = .ok (.iaload, 1) := by decide +kernel
theorem dX7_laysDebts_65 : decode cX7_laysDebts 65 = .ok (.aload_n 0, 1) := by decide +kernel
theorem dX7_laysDebts_66 : decode cX7_laysDebts 66 = .ok (.getfield 51, 3) := by decide +kernel
theorem dX7_laysDebts_69 : decode cX7_laysDebts 69 = .ok (.iload_n 3, 1) := by decide +kernel
theorem dX7_laysDebts_70 : decode cX7_laysDebts 70 = .ok (.iaload, 1) := by decide +kernel
theorem dX7_laysDebts_71 : decode cX7_laysDebts 71 = .ok (.if_icmp .lt 34, 3) := by decide +kernel
theorem dX7_laysDebts_74 : decode cX7_laysDebts 74 = .ok (.aload_n 0, 1) := by decide +kernel
theorem dX7_laysDebts_75 : decode cX7_laysDebts 75 = .ok (.iload_n 3, 1) := by decide +kernel
theorem dX7_laysDebts_76 : decode cX7_laysDebts 76 = .ok (.iload 4, 2) := by decide +kernel
theorem dX7_laysDebts_78 : decode cX7_laysDebts 78 = .ok (.iload_n 1, 1) := by decide +kernel
theorem dX7_laysDebts_79 : decode cX7_laysDebts 79 = .ok (.iload_n 2, 1) := by decide +kernel
theorem dX7_laysDebts_80 : decode cX7_laysDebts 80 = .ok (.invokevirtual 241, 3) := by decide +kernel
theorem dX7_laysDebts_83 : decode cX7_laysDebts 83 = .ok (.ifCond .eq 22, 3) := by decide +kernel
theorem dX7_laysDebts_86 : decode cX7_laysDebts 86 = .ok (.aload_n 0, 1) := by decide +kernel
theorem dX7_laysDebts_87 : decode cX7_laysDebts 87 = .ok (.getfield 51, 3) := by decide +kernel
theorem dX7_laysDebts_90 : decode cX7_laysDebts 90 = .ok (.iload_n 3, 1) := by decide +kernel
theorem dX7_laysDebts_91 : decode cX7_laysDebts 91 = .ok (.aload_n 0, 1) := by decide +kernel
theorem dX7_laysDebts_92 : decode cX7_laysDebts 92 = .ok (.getfield 51, 3) := by decide +kernel
theorem dX7_laysDebts_95 : decode cX7_laysDebts 95 = .ok (.iload_n 3, 1) := by decide +kernel
theorem dX7_laysDebts_96 : decode cX7_laysDebts 96 = .ok (.iconst 1, 1) := by decide +kernel
theorem dX7_laysDebts_97 : decode cX7_laysDebts 97 = .ok (.iload 4, 2) := by decide +kernel
theorem dX7_laysDebts_99 : decode cX7_laysDebts 99 = .ok (.ishl, 1) := by decide +kernel
theorem dX7_laysDebts_100 : decode cX7_laysDebts 100 = .ok (.ior, 1) := by decide +kernel
theorem dX7_laysDebts_101 : decode cX7_laysDebts 101 = .ok (.iaload, 1) := by decide +kernel
theorem dX7_laysDebts_102 : decode cX7_laysDebts 102 = .ok (.iconst 1, 1) := by decide +kernel
theorem dX7_laysDebts_103 : decode cX7_laysDebts 103 = .ok (.iadd, 1) := by decide +kernel
theorem dX7_laysDebts_104 : decode cX7_laysDebts 104 = .ok (.iastore, 1) := by decide +kernel
theorem dX7_laysDebts_105 : decode cX7_laysDebts 105 = .ok (.iinc 4 1, 3) := by decide +kernel
theorem dX7_laysDebts_108 : decode cX7_laysDebts 108 = .ok (.goto (-83), 3) := by decide +kernel
theorem dX7_laysDebts_111 : decode cX7_laysDebts 111 = .ok (.iinc 3 (-1), 3) := by decide +kernel
theorem dX7_laysDebts_114 : decode cX7_laysDebts 114 = .ok (.goto (-103), 3) := by decide +kernel
theorem dX7_laysDebts_117 : decode cX7_laysDebts 117 = .ok (.aload_n 0, 1) := by decide +kernel
theorem dX7_laysDebts_118 : decode cX7_laysDebts 118 = .ok (.getfield 51, 3) := by decide +kernel
theorem dX7_laysDebts_121 : decode cX7_laysDebts 121 = .ok (.iconst 0, 1) := by decide +kernel
theorem dX7_laysDebts_122 : decode cX7_laysDebts 122 = .ok (.iaload, 1) := by decide +kernel
theorem dX7_laysDebts_123 : decode cX7_laysDebts 123 = .ok (.ireturn, 1) := by decide +kernel
theorem dX7_settled_0 : decode cX7_settled 0 = .ok (.iload_n 1, 1) := by decide +kernel
theorem dX7_settled_1 : decode cX7_settled 1 = .ok (.i2l, 1) := by decide +kernel
theorem dX7_settled_2 : decode cX7_settled 2 = .ok (.lconst 0, 1) := by decide +kernel
theorem dX7_settled_3 : decode cX7_settled 3 = .ok (.lconst 1, 1) := by decide +kernel
theorem dX7_settled_4 : decode cX7_settled 4 = .ok (.invokestatic 72, 3) := by decide +kernel
theorem dX7_settled_7 : decode cX7_settled 7 = .ok (.ifCond .ne 6, 3) := by decide +kernel
theorem dX7_settled_10 : decode cX7_settled 10 = .ok (.ldc 76, 2) := by decide +kernel
theorem dX7_settled_12 : decode cX7_settled 12 = .ok (.ireturn, 1) := by decide +kernel
theorem dX7_settled_13 : decode cX7_settled 13 = .ok (.aload_n 0, 1) := by decide +kernel
theorem dX7_settled_14 : decode cX7_settled 14 = .ok (.iconst (-1), 1) := by decide +kernel
theorem dX7_settled_15 : decode cX7_settled 15 = .ok (.iconst 0, 1) := by decide +kernel
theorem dX7_settled_16 : decode cX7_settled 16 = .ok (.invokevirtual 245, 3) := by decide +kernel
theorem dX7_settled_19 : decode cX7_settled 19 = .ok (.istore_n 2, 1) := by decide +kernel
theorem dX7_settled_20 : decode cX7_settled 20 = .ok (.iload_n 1, 1) := by decide +kernel
theorem dX7_settled_21 : decode cX7_settled 21 = .ok (.ifCond .ne 5, 3) := by decide +kernel
theorem dX7_settled_24 : decode cX7_settled 24 = .ok (.iload_n 2, 1) := by decide +kernel
theorem dX7_settled_25 : decode cX7_settled 25 = .ok (.ireturn, 1) := by decide +kernel
theorem dX7_settled_26 : decode cX7_settled 26 = .ok (.iconst 0, 1) := by decide +kernel
theorem dX7_settled_27 : decode cX7_settled 27 = .ok (.istore_n 3, 1) := by decide +kernel
theorem dX7_settled_28 : decode cX7_settled 28 = .ok (.iconst 0, 1) := by decide +kernel
theorem dX7_settled_29 : decode cX7_settled 29 = .ok (.istore 4, 2) := by decide +kernel
theorem dX7_settled_31 : decode cX7_settled 31 = .ok (.aload_n 0, 1) := by decide +kernel
theorem dX7_settled_32 : decode cX7_settled 32 = .ok (.getfield 51, 3) := by decide +kernel
theorem dX7_settled_35 : decode cX7_settled 35 = .ok (.iload 4, 2) := by decide +kernel
theorem dX7_settled_37 : decode cX7_settled 37 = .ok (.iaload, 1) := by decide +kernel
theorem dX7_settled_38 : decode cX7_settled 38 = .ok (.ifCond .le 90, 3) := by decide +kernel
theorem dX7_settled_41 : decode cX7_settled 41 = .ok (.iconst 0, 1) := by decide +kernel
theorem dX7_settled_42 : decode cX7_settled 42 = .ok (.istore 5, 2) := by decide +kernel
theorem dX7_settled_44 : decode cX7_settled 44 = .ok (.iload 4, 2) := by decide +kernel
theorem dX7_settled_46 : decode cX7_settled 46 = .ok (.iload 5, 2) := by decide +kernel
theorem dX7_settled_48 : decode cX7_settled 48 = .ok (.invokestatic 142, 3) := by decide +kernel
theorem dX7_settled_51 : decode cX7_settled 51 = .ok (.ifCond .ne 49, 3) := by decide +kernel
theorem dX7_settled_54 : decode cX7_settled 54 = .ok (.aload_n 0, 1) := by decide +kernel
theorem dX7_settled_55 : decode cX7_settled 55 = .ok (.iload 5, 2) := by decide +kernel
theorem dX7_settled_57 : decode cX7_settled 57 = .ok (.invokevirtual 238, 3) := by decide +kernel
theorem dX7_settled_60 : decode cX7_settled 60 = .ok (.ifCond .eq 40, 3) := by decide +kernel
theorem dX7_settled_63 : decode cX7_settled 63 = .ok (.aload_n 0, 1) := by decide +kernel
theorem dX7_settled_64 : decode cX7_settled 64 = .ok (.getfield 51, 3) := by decide +kernel
theorem dX7_settled_67 : decode cX7_settled 67 = .ok (.iload 4, 2) := by decide +kernel
theorem dX7_settled_69 : decode cX7_settled 69 = .ok (.iconst 1, 1) := by decide +kernel
theorem dX7_settled_70 : decode cX7_settled 70 = .ok (.iload 5, 2) := by decide +kernel
theorem dX7_settled_72 : decode cX7_settled 72 = .ok (.ishl, 1) := by decide +kernel
theorem dX7_settled_73 : decode cX7_settled 73 = .ok (.ior, 1) := by decide +kernel
theorem dX7_settled_74 : decode cX7_settled 74 = .ok (.iaload, 1) := by decide +kernel
theorem dX7_settled_75 : decode cX7_settled 75 = .ok (.iconst 1, 1) := by decide +kernel
theorem dX7_settled_76 : decode cX7_settled 76 = .ok (.iadd, 1) := by decide +kernel
theorem dX7_settled_77 : decode cX7_settled 77 = .ok (.aload_n 0, 1) := by decide +kernel
theorem dX7_settled_78 : decode cX7_settled 78 = .ok (.getfield 51, 3) := by decide +kernel
theorem dX7_settled_81 : decode cX7_settled 81 = .ok (.iload 4, 2) := by decide +kernel
theorem dX7_settled_83 : decode cX7_settled 83 = .ok (.iaload, 1) := by decide +kernel
theorem dX7_settled_84 : decode cX7_settled 84 = .ok (.if_icmp .ne 16, 3) := by decide +kernel
theorem dX7_settled_87 : decode cX7_settled 87 = .ok (.aload_n 0, 1) := by decide +kernel
theorem dX7_settled_88 : decode cX7_settled 88 = .ok (.iload 4, 2) := by decide +kernel
theorem dX7_settled_90 : decode cX7_settled 90 = .ok (.iload 5, 2) := by decide +kernel
theorem dX7_settled_92 : decode cX7_settled 92 = .ok (.iconst (-1), 1) := by decide +kernel
theorem dX7_settled_93 : decode cX7_settled 93 = .ok (.iconst 0, 1) := by decide +kernel
theorem dX7_settled_94 : decode cX7_settled 94 = .ok (.invokevirtual 241, 3) := by decide +kernel
theorem dX7_settled_97 : decode cX7_settled 97 = .ok (.ifCond .ne 9, 3) := by decide +kernel
theorem dX7_settled_100 : decode cX7_settled 100 = .ok (.iinc 5 1, 3) := by decide +kernel
theorem dX7_settled_103 : decode cX7_settled 103 = .ok (.goto (-59), 3) := by decide +kernel
theorem dX7_settled_106 : decode cX7_settled 106 = .ok (.bipush 10, 2) := by decide +kernel
theorem dX7_settled_108 : decode cX7_settled 108 = .ok (.iload_n 3, 1) := by decide +kernel
theorem dX7_settled_109 : decode cX7_settled 109 = .ok (.imul, 1) := by decide +kernel
theorem dX7_settled_110 : decode cX7_settled 110 = .ok (.iload 5, 2) := by decide +kernel
theorem dX7_settled_112 : decode cX7_settled 112 = .ok (.iadd, 1) := by decide +kernel
theorem dX7_settled_113 : decode cX7_settled 113 = .ok (.iconst 1, 1) := by decide +kernel
theorem dX7_settled_114 : decode cX7_settled 114 = .ok (.iadd, 1) := by decide +kernel
theorem dX7_settled_115 : decode cX7_settled 115 = .ok (.istore_n 3, 1) := by decide +kernel
theorem dX7_settled_116 : decode cX7_settled 116 = .ok (.iload 4, 2) := by decide +kernel
theorem dX7_settled_118 : decode cX7_settled 118 = .ok (.iconst 1, 1) := by decide +kernel
theorem dX7_settled_119 : decode cX7_settled 119 = .ok (.iload 5, 2) := by decide +kernel
theorem dX7_settled_121 : decode cX7_settled 121 = .ok (.ishl, 1) := by decide +kernel
theorem dX7_settled_122 : decode cX7_settled 122 = .ok (.ior, 1) := by decide +kernel
theorem dX7_settled_123 : decode cX7_settled 123 = .ok (.istore 4, 2) := by decide +kernel
theorem dX7_settled_125 : decode cX7_settled 125 = .ok (.goto (-94), 3) := by decide +kernel
theorem dX7_settled_128 : decode cX7_settled 128 = .ok (.iload_n 3, 1) := by decide +kernel
theorem dX7_settled_129 : decode cX7_settled 129 = .ok (.ireturn, 1) := by decide +kernel
theorem dX7_toFloat_0 : decode cX7_toFloat 0 = .ok (.aload_n 0, 1) := by decide +kernel
theorem dX7_toFloat_1 : decode cX7_toFloat 1 = .ok (.iload_n 1, 1) := by decide +kernel
theorem dX7_toFloat_2 : decode cX7_toFloat 2 = .ok (.invokevirtual 180, 3) := by decide +kernel
theorem dX7_toFloat_5 : decode cX7_toFloat 5 = .ok (.ifCond .ne 6, 3) := by decide +kernel
theorem dX7_toFloat_8 : decode cX7_toFloat 8 = .ok (.ldc 183, 2) := by decide +kernel
theorem dX7_toFloat_10 : decode cX7_toFloat 10 = .ok (.ireturn, 1) := by decide +kernel
theorem dX7_toFloat_11 : decode cX7_toFloat 11 = .ok (.iconst 0, 1) := by decide +kernel
theorem dX7_toFloat_12 : decode cX7_toFloat 12 = .ok (.istore_n 2, 1) := by decide +kernel
theorem dX7_toFloat_13 : decode cX7_toFloat 13 = .ok (.iconst 0, 1) := by decide +kernel
theorem dX7_toFloat_14 : decode cX7_toFloat 14 = .ok (.istore_n 3, 1) := by decide +kernel
theorem dX7_toFloat_15 : decode cX7_toFloat 15 = .ok (.iload_n 3, 1) := by decide +kernel
theorem dX7_toFloat_16 : decode cX7_toFloat 16 = .ok (.aload_n 0, 1) := by decide +kernel
theorem dX7_toFloat_17 : decode cX7_toFloat 17 = .ok (.getfield 7, 3) := by decide +kernel
theorem dX7_toFloat_20 : decode cX7_toFloat 20 = .ok (.iconst 3, 1) := by decide +kernel
theorem dX7_toFloat_21 : decode cX7_toFloat 21 = .ok (.iaload, 1) := by decide +kernel
theorem dX7_toFloat_22 : decode cX7_toFloat 22 = .ok (.if_icmp .ge 25, 3) := by decide +kernel
theorem dX7_toFloat_25 : decode cX7_toFloat 25 = .ok (.iload_n 2, 1) := by decide +kernel
theorem dX7_toFloat_26 : decode cX7_toFloat 26 = .ok (.aload_n 0, 1) := by decide +kernel
theorem dX7_toFloat_27 : decode cX7_toFloat 27 = .ok (.iload_n 3, 1) := by decide +kernel
theorem dX7_toFloat_28 : decode cX7_toFloat 28 = .ok (.invokevirtual 238, 3) := by decide +kernel
theorem dX7_toFloat_31 : decode cX7_toFloat 31 = .ok (.ifCond .eq 7, 3) := by decide +kernel
theorem dX7_toFloat_34 : decode cX7_toFloat 34 = .ok (.iconst 1, 1) := by decide +kernel
theorem dX7_toFloat_35 : decode cX7_toFloat 35 = .ok (.goto 4, 3) := by decide +kernel
theorem dX7_toFloat_38 : decode cX7_toFloat 38 = .ok (.iconst 0, 1) := by decide +kernel
theorem dX7_toFloat_39 : decode cX7_toFloat 39 = .ok (.iadd, 1) := by decide +kernel
theorem dX7_toFloat_40 : decode cX7_toFloat 40 = .ok (.istore_n 2, 1) := by decide +kernel
theorem dX7_toFloat_41 : decode cX7_toFloat 41 = .ok (.iinc 3 1, 3) := by decide +kernel
theorem dX7_toFloat_44 : decode cX7_toFloat 44 = .ok (.goto (-29), 3) := by decide +kernel
theorem dX7_toFloat_47 : decode cX7_toFloat 47 = .ok (.aload_n 0, 1) := by decide +kernel
theorem dX7_toFloat_48 : decode cX7_toFloat 48 = .ok (.iload_n 1, 1) := by decide +kernel
theorem dX7_toFloat_49 : decode cX7_toFloat 49 = .ok (.sipush 999, 3) := by decide +kernel
theorem dX7_toFloat_52 : decode cX7_toFloat 52 = .ok (.invokevirtual 245, 3) := by decide +kernel
theorem dX7_toFloat_55 : decode cX7_toFloat 55 = .ok (.iload_n 2, 1) := by decide +kernel
theorem dX7_toFloat_56 : decode cX7_toFloat 56 = .ok (.if_icmp .ge 5, 3) := by decide +kernel
theorem dX7_toFloat_59 : decode cX7_toFloat 59 = .ok (.iconst (-1), 1) := by decide +kernel
theorem dX7_toFloat_60 : decode cX7_toFloat 60 = .ok (.ireturn, 1) := by decide +kernel
theorem dX7_toFloat_61 : decode cX7_toFloat 61 = .ok (.iconst 0, 1) := by decide +kernel
theorem dX7_toFloat_62 : decode cX7_toFloat 62 = .ok (.istore_n 3, 1) := by decide +kernel
theorem dX7_toFloat_63 : decode cX7_toFloat 63 = .ok (.sipush 999, 3) := by decide +kernel
theorem dX7_toFloat_66 : decode cX7_toFloat 66 = .ok (.istore 4, 2) := by decide +kernel
theorem dX7_toFloat_68 : decode cX7_toFloat 68 = .ok (.iload_n 3, 1) := by decide +kernel
theorem dX7_toFloat_69 : decode cX7_toFloat 69 = .ok (.iload 4, 2) := by decide +kernel
theorem dX7_toFloat_71 : decode cX7_toFloat 71 = .ok (.if_icmp .ge 37, 3) := by decide +kernel
theorem dX7_toFloat_74 : decode cX7_toFloat 74 = .ok (.iload_n 3, 1) := by decide +kernel
theorem dX7_toFloat_75 : decode cX7_toFloat 75 = .ok (.iload 4, 2) := by decide +kernel
theorem dX7_toFloat_77 : decode cX7_toFloat 77 = .ok (.iadd, 1) := by decide +kernel
theorem dX7_toFloat_78 : decode cX7_toFloat 78 = .ok (.iconst 2, 1) := by decide +kernel
theorem dX7_toFloat_79 : decode cX7_toFloat 79 = .ok (.idiv, 1) := by decide +kernel
theorem dX7_toFloat_80 : decode cX7_toFloat 80 = .ok (.istore 5, 2) := by decide +kernel
theorem dX7_toFloat_82 : decode cX7_toFloat 82 = .ok (.aload_n 0, 1) := by decide +kernel
theorem dX7_toFloat_83 : decode cX7_toFloat 83 = .ok (.iload_n 1, 1) := by decide +kernel
theorem dX7_toFloat_84 : decode cX7_toFloat 84 = .ok (.iload 5, 2) := by decide +kernel
theorem dX7_toFloat_86 : decode cX7_toFloat 86 = .ok (.invokevirtual 245, 3) := by decide +kernel
theorem dX7_toFloat_89 : decode cX7_toFloat 89 = .ok (.iload_n 2, 1) := by decide +kernel
theorem dX7_toFloat_90 : decode cX7_toFloat 90 = .ok (.if_icmp .ne 10, 3) := by decide +kernel
theorem dX7_toFloat_93 : decode cX7_toFloat 93 = .ok (.iload 5, 2) := by decide +kernel
theorem dX7_toFloat_95 : decode cX7_toFloat 95 = .ok (.istore 4, 2) := by decide +kernel
theorem dX7_toFloat_97 : decode cX7_toFloat 97 = .ok (.goto 8, 3) := by decide +kernel
theorem dX7_toFloat_100 : decode cX7_toFloat 100 = .ok (.iload 5, 2) := by decide +kernel
theorem dX7_toFloat_102 : decode cX7_toFloat 102 = .ok (.iconst 1, 1) := by decide +kernel
theorem dX7_toFloat_103 : decode cX7_toFloat 103 = .ok (.iadd, 1) := by decide +kernel
theorem dX7_toFloat_104 : decode cX7_toFloat 104 = .ok (.istore_n 3, 1) := by decide +kernel
theorem dX7_toFloat_105 : decode cX7_toFloat 105 = .ok (.goto (-37), 3) := by decide +kernel
theorem dX7_toFloat_108 : decode cX7_toFloat 108 = .ok (.iload_n 3, 1) := by decide +kernel
theorem dX7_toFloat_109 : decode cX7_toFloat 109 = .ok (.ireturn, 1) := by decide +kernel
theorem dX7_nets_0 : decode cX7_nets 0 = .ok (.iload_n 1, 1) := by decide +kernel
theorem dX7_nets_1 : decode cX7_nets 1 = .ok (.i2l, 1) := by decide +kernel
theorem dX7_nets_2 : decode cX7_nets 2 = .ok (.lconst 0, 1) := by decide +kernel
theorem dX7_nets_3 : decode cX7_nets 3 = .ok (.ldc2_w 248, 3) := by decide +kernel
theorem dX7_nets_6 : decode cX7_nets 6 = .ok (.invokestatic 72, 3) := by decide +kernel
theorem dX7_nets_9 : decode cX7_nets 9 = .ok (.ifCond .eq 15, 3) := by decide +kernel
theorem dX7_nets_12 : decode cX7_nets 12 = .ok (.iload_n 2, 1) := by decide +kernel
theorem dX7_nets_13 : decode cX7_nets 13 = .ok (.i2l, 1) := by decide +kernel
theorem dX7_nets_14 : decode cX7_nets 14 = .ok (.lconst 1, 1) := by decide +kernel
theorem dX7_nets_15 : decode cX7_nets 15 = .ok (.ldc2_w 250, 3) := by decide +kernel
theorem dX7_nets_18 : decode cX7_nets 18 = .ok (.invokestatic 72, 3) := by decide +kernel
theorem dX7_nets_21 : decode cX7_nets 21 = .ok (.ifCond .ne 6, 3) := by decide +kernel
theorem dX7_nets_24 : decode cX7_nets 24 = .ok (.ldc 76, 2) := by decide +kernel
theorem dX7_nets_26 : decode cX7_nets 26 = .ok (.ireturn, 1) := by decide +kernel
theorem dX7_nets_27 : decode cX7_nets 27 = .ok (.iconst (-1), 1) := by decide +kernel
theorem dX7_nets_28 : decode cX7_nets 28 = .ok (.istore_n 3, 1) := by decide +kernel
theorem dX7_nets_29 : decode cX7_nets 29 = .ok (.iconst 0, 1) := by decide +kernel
theorem dX7_nets_30 : decode cX7_nets 30 = .ok (.istore 4, 2) := by decide +kernel
theorem dX7_nets_32 : decode cX7_nets 32 = .ok (.iload 4, 2) := by decide +kernel
theorem dX7_nets_34 : decode cX7_nets 34 = .ok (.iconst 1, 1) := by decide +kernel
theorem dX7_nets_35 : decode cX7_nets 35 = .ok (.aload_n 0, 1) := by decide +kernel
theorem dX7_nets_36 : decode cX7_nets 36 = .ok (.getfield 7, 3) := by decide +kernel
theorem dX7_nets_39 : decode cX7_nets 39 = .ok (.iconst 2, 1) := by decide +kernel
theorem dX7_nets_40 : decode cX7_nets 40 = .ok (.iaload, 1) := by decide +kernel
theorem dX7_nets_41 : decode cX7_nets 41 = .ok (.ishl, 1) := by decide +kernel
theorem dX7_nets_42 : decode cX7_nets 42 = .ok (.if_icmp .ge 107, 3) := by decide +kernel
theorem dX7_nets_45 : decode cX7_nets 45 = .ok (.iload 4, 2) := by decide +kernel
theorem dX7_nets_47 : decode cX7_nets 47 = .ok (.aload_n 0, 1) := by decide +kernel
theorem dX7_nets_48 : decode cX7_nets 48 = .ok (.getfield 16, 3) := by decide +kernel
theorem dX7_nets_51 : decode cX7_nets 51 = .ok (.bipush 14, 2) := by decide +kernel
theorem dX7_nets_53 : decode cX7_nets 53 = .ok (.iaload, 1) := by decide +kernel
theorem dX7_nets_54 : decode cX7_nets 54 = .ok (.iand, 1) := by decide +kernel
theorem dX7_nets_55 : decode cX7_nets 55 = .ok (.ifCond .ne 88, 3) := by decide +kernel
theorem dX7_nets_58 : decode cX7_nets 58 = .ok (.iload_n 3, 1) := by decide +kernel
theorem dX7_nets_59 : decode cX7_nets 59 = .ok (.iconst (-1), 1) := by decide +kernel
theorem dX7_nets_60 : decode cX7_nets 60 = .ok (.if_icmp .eq 15, 3) := by decide +kernel
theorem dX7_nets_63 : decode cX7_nets 63 = .ok (.iload 4, 2) := by decide +kernel
theorem dX7_nets_65 : decode cX7_nets 65 = .ok (.invokestatic 252, 3) := by decide +kernel
theorem dX7_nets_68 : decode cX7_nets 68 = .ok (.iload_n 3, 1) := by decide +kernel
theorem dX7_nets_69 : decode cX7_nets 69 = .ok (.invokestatic 252, 3) := by decide +kernel
theorem dX7_nets_72 : decode cX7_nets 72 = .ok (.if_icmp .ge 71, 3) := by decide +kernel
theorem dX7_nets_75 : decode cX7_nets 75 = .ok (.aload_n 0, 1) := by decide +kernel
theorem dX7_nets_76 : decode cX7_nets 76 = .ok (.getfield 7, 3) := by decide +kernel
theorem dX7_nets_79 : decode cX7_nets 79 = .ok (.iconst 1, 1) := by decide +kernel
theorem dX7_nets_80 : decode cX7_nets 80 = .ok (.iaload, 1) := by decide +kernel
theorem dX7_nets_81 : decode cX7_nets 81 = .ok (.ifCond .le 62, 3) := by decide +kernel
theorem dX7_nets_84 : decode cX7_nets 84 = .ok (.aload_n 0, 1) := by decide +kernel
theorem dX7_nets_85 : decode cX7_nets 85 = .ok (.invokevirtual 232, 3) := by decide +kernel
theorem dX7_nets_88 : decode cX7_nets 88 = .ok (.aload_n 0, 1) := by decide +kernel
theorem dX7_nets_89 : decode cX7_nets 89 = .ok (.getfield 19, 3) := by decide +kernel
theorem dX7_nets_92 : decode cX7_nets 92 = .ok (.bipush 14, 2) := by decide +kernel
theorem dX7_nets_94 : decode cX7_nets 94 = .ok (.dup2, 1) := by decide +kernel
theorem dX7_nets_95 : decode cX7_nets 95 = .ok (.iaload, 1) := by decide +kernel
theorem dX7_nets_96 : decode cX7_nets 96 = .ok (.iload 4, 2) := by decide +kernel
theorem dX7_nets_98 : decode cX7_nets 98 = .ok (.ior, 1) := by decide +kernel
theorem dX7_nets_99 : decode cX7_nets 99 = .ok (.iastore, 1) := by decide +kernel
theorem dX7_nets_100 : decode cX7_nets 100 = .ok (.iconst 0, 1) := by decide +kernel
theorem dX7_nets_101 : decode cX7_nets 101 = .ok (.istore 5, 2) := by decide +kernel
theorem dX7_nets_103 : decode cX7_nets 103 = .ok (.iload 5, 2) := by decide +kernel
theorem dX7_nets_105 : decode cX7_nets 105 = .ok (.iload_n 2, 1) := by decide +kernel
theorem dX7_nets_106 : decode cX7_nets 106 = .ok (.if_icmp .ge 18, 3) := by decide +kernel
theorem dX7_nets_109 : decode cX7_nets 109 = .ok (.aload_n 0, 1) := by decide +kernel
theorem dX7_nets_110 : decode cX7_nets 110 = .ok (.aload_n 0, 1) := by decide +kernel
theorem dX7_nets_111 : decode cX7_nets 111 = .ok (.getfield 19, 3) := by decide +kernel
theorem dX7_nets_114 : decode cX7_nets 114 = .ok (.iconst 1, 1) := by decide +kernel
theorem dX7_nets_115 : decode cX7_nets 115 = .ok (.invokevirtual 208, 3) := by decide +kernel
theorem dX7_nets_118 : decode cX7_nets 118 = .ok (.iinc 5 1, 3) := by decide +kernel
theorem dX7_nets_121 : decode cX7_nets 121 = .ok (.goto (-18), 3) := by decide +kernel
theorem dX7_nets_124 : decode cX7_nets 124 = .ok (.aload_n 0, 1) := by decide +kernel
theorem dX7_nets_125 : decode cX7_nets 125 = .ok (.aload_n 0, 1) := by decide +kernel
theorem dX7_nets_126 : decode cX7_nets 126 = .ok (.getfield 19, 3) := by decide +kernel
theorem dX7_nets_129 : decode cX7_nets 129 = .ok (.invokevirtual 165, 3) := by decide +kernel
theorem dX7_nets_132 : decode cX7_nets 132 = .ok (.iload_n 1, 1) := by decide +kernel
theorem dX7_nets_133 : decode cX7_nets 133 = .ok (.if_icmp .lt 8, 3) := by decide +kernel
theorem dX7_nets_136 : decode cX7_nets 136 = .ok (.iload 4, 2) := by decide +kernel
theorem dX7_nets_138 : decode cX7_nets 138 = .ok (.goto 4, 3) := by decide +kernel
theorem dX7_nets_141 : decode cX7_nets 141 = .ok (.iload_n 3, 1) := by decide +kernel
theorem dX7_nets_142 : decode cX7_nets 142 = .ok (.istore_n 3, 1) := by decide +kernel
theorem dX7_nets_143 : decode cX7_nets 143 = .ok (.iinc 4 1, 3) := by decide +kernel
theorem dX7_nets_146 : decode cX7_nets 146 = .ok (.goto (-114), 3) := by decide +kernel
theorem dX7_nets_149 : decode cX7_nets 149 = .ok (.iload_n 3, 1) := by decide +kernel
theorem dX7_nets_150 : decode cX7_nets 150 = .ok (.ireturn, 1) := by decide +kernel
theorem dX7_calm_0 : decode cX7_calm 0 = .ok (.iload_n 1, 1) := by decide +kernel
theorem dX7_calm_1 : decode cX7_calm 1 = .ok (.i2l, 1) := by decide +kernel
theorem dX7_calm_2 : decode cX7_calm 2 = .ok (.lconst 0, 1) := by decide +kernel
theorem dX7_calm_3 : decode cX7_calm 3 = .ok (.ldc2_w 203, 3) := by decide +kernel
theorem dX7_calm_6 : decode cX7_calm 6 = .ok (.invokestatic 72, 3) := by decide +kernel
theorem dX7_calm_9 : decode cX7_calm 9 = .ok (.ifCond .eq 15, 3) := by decide +kernel
theorem dX7_calm_12 : decode cX7_calm 12 = .ok (.iload_n 2, 1) := by decide +kernel
theorem dX7_calm_13 : decode cX7_calm 13 = .ok (.i2l, 1) := by decide +kernel
theorem dX7_calm_14 : decode cX7_calm 14 = .ok (.lconst 0, 1) := by decide +kernel
theorem dX7_calm_15 : decode cX7_calm 15 = .ok (.ldc2_w 230, 3) := by decide +kernel
theorem dX7_calm_18 : decode cX7_calm 18 = .ok (.invokestatic 72, 3) := by decide +kernel
theorem dX7_calm_21 : decode cX7_calm 21 = .ok (.ifCond .ne 6, 3) := by decide +kernel
theorem dX7_calm_24 : decode cX7_calm 24 = .ok (.ldc 76, 2) := by decide +kernel
theorem dX7_calm_26 : decode cX7_calm 26 = .ok (.ireturn, 1) := by decide +kernel
theorem dX7_calm_27 : decode cX7_calm 27 = .ok (.ldc2_w 255, 3) := by decide +kernel
theorem dX7_calm_30 : decode cX7_calm 30 = .ok (.lstore_n 3, 1) := by decide +kernel
theorem dX7_calm_31 : decode cX7_calm 31 = .ok (.iconst 0, 1) := by decide +kernel
theorem dX7_calm_32 : decode cX7_calm 32 = .ok (.istore 5, 2) := by decide +kernel
theorem dX7_calm_34 : decode cX7_calm 34 = .ok (.iload 5, 2) := by decide +kernel
theorem dX7_calm_36 : decode cX7_calm 36 = .ok (.iload_n 1, 1) := by decide +kernel
theorem dX7_calm_37 : decode cX7_calm 37 = .ok (.if_icmp .ge 18, 3) := by decide +kernel
theorem dX7_calm_40 : decode cX7_calm 40 = .ok (.lload_n 3, 1) := by decide +kernel
theorem dX7_calm_41 : decode cX7_calm 41 = .ok (.iload_n 2, 1) := by decide +kernel
theorem dX7_calm_42 : decode cX7_calm 42 = .ok (.i2l, 1) := by decide +kernel
theorem dX7_calm_43 : decode cX7_calm 43 = .ok (.lmul, 1) := by decide +kernel
theorem dX7_calm_44 : decode cX7_calm 44 = .ok (.ldc2_w 230, 3) := by decide +kernel
theorem dX7_calm_47 : decode cX7_calm 47 = .ok (.ldiv, 1) := by decide +kernel
theorem dX7_calm_48 : decode cX7_calm 48 = .ok (.lstore_n 3, 1) := by decide +kernel
theorem dX7_calm_49 : decode cX7_calm 49 = .ok (.iinc 5 1, 3) := by decide +kernel
theorem dX7_calm_52 : decode cX7_calm 52 = .ok (.goto (-18), 3) := by decide +kernel
theorem dX7_calm_55 : decode cX7_calm 55 = .ok (.lload_n 3, 1) := by decide +kernel
theorem dX7_calm_56 : decode cX7_calm 56 = .ok (.l2i, 1) := by decide +kernel
theorem dX7_calm_57 : decode cX7_calm 57 = .ok (.ireturn, 1) := by decide +kernel
theorem dX7_watch_0 : decode cX7_watch 0 = .ok (.iload_n 1, 1) := by decide +kernel
theorem dX7_watch_1 : decode cX7_watch 1 = .ok (.i2l, 1) := by decide +kernel
theorem dX7_watch_2 : decode cX7_watch 2 = .ok (.lconst 0, 1) := by decide +kernel
theorem dX7_watch_3 : decode cX7_watch 3 = .ok (.ldc2_w 192, 3) := by decide +kernel
theorem dX7_watch_6 : decode cX7_watch 6 = .ok (.invokestatic 72, 3) := by decide +kernel
theorem dX7_watch_9 : decode cX7_watch 9 = .ok (.ifCond .ne 6, 3) := by decide +kernel
theorem dX7_watch_12 : decode cX7_watch 12 = .ok (.ldc 76, 2) := by decide +kernel
theorem dX7_watch_14 : decode cX7_watch 14 = .ok (.ireturn, 1) := by decide +kernel
theorem dX7_watch_15 : decode cX7_watch 15 = .ok (.aload_n 0, 1) := by decide +kernel
theorem dX7_watch_16 : decode cX7_watch 16 = .ok (.getfield 61, 3) := by decide +kernel
theorem dX7_watch_19 : decode cX7_watch 19 = .ok (.bipush 6, 2) := by decide +kernel
theorem dX7_watch_21 : decode cX7_watch 21 = .ok (.if_icmp .ne 6, 3) := by decide +kernel
theorem dX7_watch_24 : decode cX7_watch 24 = .ok (.ldc 80, 2) := by decide +kernel
theorem dX7_watch_26 : decode cX7_watch 26 = .ok (.ireturn, 1) := by decide +kernel
theorem dX7_watch_27 : decode cX7_watch 27 = .ok (.aload_n 0, 1) := by decide +kernel
theorem dX7_watch_28 : decode cX7_watch 28 = .ok (.getfield 39, 3) := by decide +kernel
theorem dX7_watch_31 : decode cX7_watch 31 = .ok (.aload_n 0, 1) := by decide +kernel
theorem dX7_watch_32 : decode cX7_watch 32 = .ok (.getfield 61, 3) := by decide +kernel
theorem dX7_watch_35 : decode cX7_watch 35 = .ok (.iload_n 1, 1) := by decide +kernel
theorem dX7_watch_36 : decode cX7_watch 36 = .ok (.iastore, 1) := by decide +kernel
theorem dX7_watch_37 : decode cX7_watch 37 = .ok (.aload_n 0, 1) := by decide +kernel
theorem dX7_watch_38 : decode cX7_watch 38 = .ok (.dup, 1) := by decide +kernel
theorem dX7_watch_39 : decode cX7_watch 39 = .ok (.getfield 61, 3) := by decide +kernel
theorem dX7_watch_42 : decode cX7_watch 42 = .ok (.iconst 1, 1) := by decide +kernel
theorem dX7_watch_43 : decode cX7_watch 43 = .ok (.iadd, 1) := by decide +kernel
theorem dX7_watch_44 : decode cX7_watch 44 = .ok (.putfield 61, 3) := by decide +kernel
theorem dX7_watch_47 : decode cX7_watch 47 = .ok (.aload_n 0, 1) := by decide +kernel
theorem dX7_watch_48 : decode cX7_watch 48 = .ok (.getfield 61, 3) := by decide +kernel
theorem dX7_watch_51 : decode cX7_watch 51 = .ok (.ireturn, 1) := by decide +kernel
theorem dX7_feel_0 : decode cX7_feel 0 = .ok (.iload_n 1, 1) := by decide +kernel
theorem dX7_feel_1 : decode cX7_feel 1 = .ok (.i2l, 1) := by decide +kernel
theorem dX7_feel_2 : decode cX7_feel 2 = .ok (.lconst 0, 1) := by decide +kernel
theorem dX7_feel_3 : decode cX7_feel 3 = .ok (.ldc2_w 198, 3) := by decide +kernel
theorem dX7_feel_6 : decode cX7_feel 6 = .ok (.invokestatic 72, 3) := by decide +kernel
theorem dX7_feel_9 : decode cX7_feel 9 = .ok (.ifCond .eq 15, 3) := by decide +kernel
theorem dX7_feel_12 : decode cX7_feel 12 = .ok (.iload_n 2, 1) := by decide +kernel
theorem dX7_feel_13 : decode cX7_feel 13 = .ok (.i2l, 1) := by decide +kernel
theorem dX7_feel_14 : decode cX7_feel 14 = .ok (.lconst 0, 1) := by decide +kernel
theorem dX7_feel_15 : decode cX7_feel 15 = .ok (.ldc2_w 198, 3) := by decide +kernel
theorem dX7_feel_18 : decode cX7_feel 18 = .ok (.invokestatic 72, 3) := by decide +kernel
theorem dX7_feel_21 : decode cX7_feel 21 = .ok (.ifCond .ne 6, 3) := by decide +kernel
theorem dX7_feel_24 : decode cX7_feel 24 = .ok (.ldc 76, 2) := by decide +kernel
theorem dX7_feel_26 : decode cX7_feel 26 = .ok (.ireturn, 1) := by decide +kernel
theorem dX7_feel_27 : decode cX7_feel 27 = .ok (.aload_n 0, 1) := by decide +kernel
theorem dX7_feel_28 : decode cX7_feel 28 = .ok (.getfield 64, 3) := by decide +kernel
theorem dX7_feel_31 : decode cX7_feel 31 = .ok (.bipush 6, 2) := by decide +kernel
theorem dX7_feel_33 : decode cX7_feel 33 = .ok (.if_icmp .ne 6, 3) := by decide +kernel
theorem dX7_feel_36 : decode cX7_feel 36 = .ok (.ldc 80, 2) := by decide +kernel
theorem dX7_feel_38 : decode cX7_feel 38 = .ok (.ireturn, 1) := by decide +kernel
theorem dX7_feel_39 : decode cX7_feel 39 = .ok (.aload_n 0, 1) := by decide +kernel
theorem dX7_feel_40 : decode cX7_feel 40 = .ok (.getfield 42, 3) := by decide +kernel
theorem dX7_feel_43 : decode cX7_feel 43 = .ok (.iconst 3, 1) := by decide +kernel
theorem dX7_feel_44 : decode cX7_feel 44 = .ok (.aload_n 0, 1) := by decide +kernel
theorem dX7_feel_45 : decode cX7_feel 45 = .ok (.getfield 64, 3) := by decide +kernel
theorem dX7_feel_48 : decode cX7_feel 48 = .ok (.imul, 1) := by decide +kernel
theorem dX7_feel_49 : decode cX7_feel 49 = .ok (.iload_n 1, 1) := by decide +kernel
theorem dX7_feel_50 : decode cX7_feel 50 = .ok (.iastore, 1) := by decide +kernel
theorem dX7_feel_51 : decode cX7_feel 51 = .ok (.aload_n 0, 1) := by decide +kernel
theorem dX7_feel_52 : decode cX7_feel 52 = .ok (.getfield 42, 3) := by decide +kernel
theorem dX7_feel_55 : decode cX7_feel 55 = .ok (.iconst 3, 1) := by decide +kernel
theorem dX7_feel_56 : decode cX7_feel 56 = .ok (.aload_n 0, 1) := by decide +kernel
theorem dX7_feel_57 : decode cX7_feel 57 = .ok (.getfield 64, 3) := by decide +kernel
theorem dX7_feel_60 : decode cX7_feel 60 = .ok (.imul, 1) := by decide +kernel
theorem dX7_feel_61 : decode cX7_feel 61 = .ok (.iconst 1, 1) := by decide +kernel
theorem dX7_feel_62 : decode cX7_feel 62 = .ok (.iadd, 1) := by decide +kernel
theorem dX7_feel_63 : decode cX7_feel 63 = .ok (.iload_n 2, 1) := by decide +kernel
theorem dX7_feel_64 : decode cX7_feel 64 = .ok (.iastore, 1) := by decide +kernel
theorem dX7_feel_65 : decode cX7_feel 65 = .ok (.aload_n 0, 1) := by decide +kernel
theorem dX7_feel_66 : decode cX7_feel 66 = .ok (.getfield 42, 3) := by decide +kernel
theorem dX7_feel_69 : decode cX7_feel 69 = .ok (.iconst 3, 1) := by decide +kernel
theorem dX7_feel_70 : decode cX7_feel 70 = .ok (.aload_n 0, 1) := by decide +kernel
theorem dX7_feel_71 : decode cX7_feel 71 = .ok (.getfield 64, 3) := by decide +kernel
theorem dX7_feel_74 : decode cX7_feel 74 = .ok (.imul, 1) := by decide +kernel
theorem dX7_feel_75 : decode cX7_feel 75 = .ok (.iconst 2, 1) := by decide +kernel
theorem dX7_feel_76 : decode cX7_feel 76 = .ok (.iadd, 1) := by decide +kernel
theorem dX7_feel_77 : decode cX7_feel 77 = .ok (.iload_n 3, 1) := by decide +kernel
theorem dX7_feel_78 : decode cX7_feel 78 = .ok (.ifCond .eq 7, 3) := by decide +kernel
theorem dX7_feel_81 : decode cX7_feel 81 = .ok (.iconst 1, 1) := by decide +kernel
theorem dX7_feel_82 : decode cX7_feel 82 = .ok (.goto 4, 3) := by decide +kernel
theorem dX7_feel_85 : decode cX7_feel 85 = .ok (.iconst 0, 1) := by decide +kernel
theorem dX7_feel_86 : decode cX7_feel 86 = .ok (.iastore, 1) := by decide +kernel
theorem dX7_feel_87 : decode cX7_feel 87 = .ok (.aload_n 0, 1) := by decide +kernel
theorem dX7_feel_88 : decode cX7_feel 88 = .ok (.dup, 1) := by decide +kernel
theorem dX7_feel_89 : decode cX7_feel 89 = .ok (.getfield 64, 3) := by decide +kernel
theorem dX7_feel_92 : decode cX7_feel 92 = .ok (.iconst 1, 1) := by decide +kernel
theorem dX7_feel_93 : decode cX7_feel 93 = .ok (.iadd, 1) := by decide +kernel
theorem dX7_feel_94 : decode cX7_feel 94 = .ok (.putfield 64, 3) := by decide +kernel
theorem dX7_feel_97 : decode cX7_feel 97 = .ok (.aload_n 0, 1) := by decide +kernel
theorem dX7_feel_98 : decode cX7_feel 98 = .ok (.getfield 64, 3) := by decide +kernel
theorem dX7_feel_101 : decode cX7_feel 101 = .ok (.ireturn, 1) := by decide +kernel
theorem dX7_isSo_0 : decode cX7_isSo 0 = .ok (.iconst 1, 1) := by decide +kernel
theorem dX7_isSo_1 : decode cX7_isSo 1 = .ok (.istore_n 2, 1) := by decide +kernel
theorem dX7_isSo_2 : decode cX7_isSo 2 = .ok (.iconst 0, 1) := by decide +kernel
theorem dX7_isSo_3 : decode cX7_isSo 3 = .ok (.istore_n 3, 1) := by decide +kernel
theorem dX7_isSo_4 : decode cX7_isSo 4 = .ok (.iload_n 3, 1) := by decide +kernel
theorem dX7_isSo_5 : decode cX7_isSo 5 = .ok (.iconst 3, 1) := by decide +kernel
theorem dX7_isSo_6 : decode cX7_isSo 6 = .ok (.aload_n 0, 1) := by decide +kernel
theorem dX7_isSo_7 : decode cX7_isSo 7 = .ok (.getfield 64, 3) := by decide +kernel
theorem dX7_isSo_10 : decode cX7_isSo 10 = .ok (.imul, 1) := by decide +kernel
theorem dX7_isSo_11 : decode cX7_isSo 11 = .ok (.if_icmp .ge 63, 3) := by decide +kernel
theorem dX7_isSo_14 : decode cX7_isSo 14 = .ok (.iload_n 2, 1) := by decide +kernel
theorem dX7_isSo_15 : decode cX7_isSo 15 = .ok (.ifCond .eq 51, 3) := by decide +kernel
theorem dX7_isSo_18 : decode cX7_isSo 18 = .ok (.aload_n 0, 1) := by decide +kernel
theorem dX7_isSo_19 : decode cX7_isSo 19 = .ok (.getfield 42, 3) := by decide +kernel
theorem dX7_isSo_22 : decode cX7_isSo 22 = .ok (.iload_n 3, 1) := by decide +kernel
theorem dX7_isSo_23 : decode cX7_isSo 23 = .ok (.iaload, 1) := by decide +kernel
theorem dX7_isSo_24 : decode cX7_isSo 24 = .ok (.aload_n 0, 1) := by decide +kernel
theorem dX7_isSo_25 : decode cX7_isSo 25 = .ok (.getfield 42, 3) := by decide +kernel
theorem dX7_isSo_28 : decode cX7_isSo 28 = .ok (.iload_n 3, 1) := by decide +kernel
theorem dX7_isSo_29 : decode cX7_isSo 29 = .ok (.iconst 1, 1) := by decide +kernel
theorem dX7_isSo_30 : decode cX7_isSo 30 = .ok (.iadd, 1) := by decide +kernel
theorem dX7_isSo_31 : decode cX7_isSo 31 = .ok (.iaload, 1) := by decide +kernel
theorem dX7_isSo_32 : decode cX7_isSo 32 = .ok (.isub, 1) := by decide +kernel
theorem dX7_isSo_33 : decode cX7_isSo 33 = .ok (.i2l, 1) := by decide +kernel
theorem dX7_isSo_34 : decode cX7_isSo 34 = .ok (.iload_n 1, 1) := by decide +kernel
theorem dX7_isSo_35 : decode cX7_isSo 35 = .ok (.ineg, 1) := by decide +kernel
theorem dX7_isSo_36 : decode cX7_isSo 36 = .ok (.i2l, 1) := by decide +kernel
theorem dX7_isSo_37 : decode cX7_isSo 37 = .ok (.iload_n 1, 1) := by decide +kernel
theorem dX7_isSo_38 : decode cX7_isSo 38 = .ok (.i2l, 1) := by decide +kernel
theorem dX7_isSo_39 : decode cX7_isSo 39 = .ok (.invokestatic 72, 3) := by decide +kernel
theorem dX7_isSo_42 : decode cX7_isSo 42 = .ok (.aload_n 0, 1) := by decide +kernel
theorem dX7_isSo_43 : decode cX7_isSo 43 = .ok (.getfield 42, 3) := by decide +kernel
theorem dX7_isSo_46 : decode cX7_isSo 46 = .ok (.iload_n 3, 1) := by decide +kernel
theorem dX7_isSo_47 : decode cX7_isSo 47 = .ok (.iconst 2, 1) := by decide +kernel
theorem dX7_isSo_48 : decode cX7_isSo 48 = .ok (.iadd, 1) := by decide +kernel
theorem dX7_isSo_49 : decode cX7_isSo 49 = .ok (.iaload, 1) := by decide +kernel
theorem dX7_isSo_50 : decode cX7_isSo 50 = .ok (.iconst 1, 1) := by decide +kernel
theorem dX7_isSo_51 : decode cX7_isSo 51 = .ok (.if_icmp .ne 7, 3) := by decide +kernel
theorem dX7_isSo_54 : decode cX7_isSo 54 = .ok (.iconst 1, 1) := by decide +kernel
theorem dX7_isSo_55 : decode cX7_isSo 55 = .ok (.goto 4, 3) := by decide +kernel
theorem dX7_isSo_58 : decode cX7_isSo 58 = .ok (.iconst 0, 1) := by decide +kernel
theorem dX7_isSo_59 : decode cX7_isSo 59 = .ok (.if_icmp .ne 7, 3) := by decide +kernel
theorem dX7_isSo_62 : decode cX7_isSo 62 = .ok (.iconst 1, 1) := by decide +kernel
theorem dX7_isSo_63 : decode cX7_isSo 63 = .ok (.goto 4, 3) := by decide +kernel
theorem dX7_isSo_66 : decode cX7_isSo 66 = .ok (.iconst 0, 1) := by decide +kernel
theorem dX7_isSo_67 : decode cX7_isSo 67 = .ok (.istore_n 2, 1) := by decide +kernel
theorem dX7_isSo_68 : decode cX7_isSo 68 = .ok (.iinc 3 3, 3) := by decide +kernel
theorem dX7_isSo_71 : decode cX7_isSo 71 = .ok (.goto (-67), 3) := by decide +kernel
theorem dX7_isSo_74 : decode cX7_isSo 74 = .ok (.iload_n 2, 1) := by decide +kernel
theorem dX7_isSo_75 : decode cX7_isSo 75 = .ok (.ireturn, 1) := by decide +kernel
theorem dX7_reach_0 : decode cX7_reach 0 = .ok (.iload_n 1, 1) := by decide +kernel
theorem dX7_reach_1 : decode cX7_reach 1 = .ok (.i2l, 1) := by decide +kernel
theorem dX7_reach_2 : decode cX7_reach 2 = .ok (.lconst 0, 1) := by decide +kernel
theorem dX7_reach_3 : decode cX7_reach 3 = .ok (.ldc2_w 257, 3) := by decide +kernel
theorem dX7_reach_6 : decode cX7_reach 6 = .ok (.invokestatic 72, 3) := by decide +kernel
theorem dX7_reach_9 : decode cX7_reach 9 = .ok (.ifCond .ne 6, 3) := by decide +kernel
theorem dX7_reach_12 : decode cX7_reach 12 = .ok (.ldc 76, 2) := by decide +kernel
theorem dX7_reach_14 : decode cX7_reach 14 = .ok (.ireturn, 1) := by decide +kernel
theorem dX7_reach_15 : decode cX7_reach 15 = .ok (.iconst 0, 1) := by decide +kernel
theorem dX7_reach_16 : decode cX7_reach 16 = .ok (.istore_n 2, 1) := by decide +kernel
theorem dX7_reach_17 : decode cX7_reach 17 = .ok (.iconst (-1), 1) := by decide +kernel
theorem dX7_reach_18 : decode cX7_reach 18 = .ok (.istore_n 3, 1) := by decide +kernel
theorem dX7_reach_19 : decode cX7_reach 19 = .ok (.iconst (-1), 1) := by decide +kernel
theorem dX7_reach_20 : decode cX7_reach 20 = .ok (.istore 4, 2) := by decide +kernel
theorem dX7_reach_22 : decode cX7_reach 22 = .ok (.iconst 0, 1) := by decide +kernel
theorem dX7_reach_23 : decode cX7_reach 23 = .ok (.istore 5, 2) := by decide +kernel
theorem dX7_reach_25 : decode cX7_reach 25 = .ok (.iload 5, 2) := by decide +kernel
theorem dX7_reach_27 : decode cX7_reach 27 = .ok (.bipush 51, 2) := by decide +kernel
theorem dX7_reach_29 : decode cX7_reach 29 = .ok (.if_icmp .ge 61, 3) := by decide +kernel
theorem dX7_reach_32 : decode cX7_reach 32 = .ok (.aload_n 0, 1) := by decide +kernel
theorem dX7_reach_33 : decode cX7_reach 33 = .ok (.iload 5, 2) := by decide +kernel
theorem dX7_reach_35 : decode cX7_reach 35 = .ok (.invokevirtual 259, 3) := by decide +kernel
theorem dX7_reach_38 : decode cX7_reach 38 = .ok (.istore 6, 2) := by decide +kernel
theorem dX7_reach_40 : decode cX7_reach 40 = .ok (.iload_n 2, 1) := by decide +kernel
theorem dX7_reach_41 : decode cX7_reach 41 = .ok (.iload 6, 2) := by decide +kernel
theorem dX7_reach_43 : decode cX7_reach 43 = .ok (.ifCond .eq 7, 3) := by decide +kernel
theorem dX7_reach_46 : decode cX7_reach 46 = .ok (.iconst 1, 1) := by decide +kernel
theorem dX7_reach_47 : decode cX7_reach 47 = .ok (.goto 4, 3) := by decide +kernel
theorem dX7_reach_50 : decode cX7_reach 50 = .ok (.iconst 0, 1) := by decide +kernel
theorem dX7_reach_51 : decode cX7_reach 51 = .ok (.iadd, 1) := by decide +kernel
theorem dX7_reach_52 : decode cX7_reach 52 = .ok (.istore_n 2, 1) := by decide +kernel
theorem dX7_reach_53 : decode cX7_reach 53 = .ok (.iload 6, 2) := by decide +kernel
theorem dX7_reach_55 : decode cX7_reach 55 = .ok (.ifCond .eq 13, 3) := by decide +kernel
theorem dX7_reach_58 : decode cX7_reach 58 = .ok (.iload_n 3, 1) := by decide +kernel
theorem dX7_reach_59 : decode cX7_reach 59 = .ok (.iconst (-1), 1) := by decide +kernel
theorem dX7_reach_60 : decode cX7_reach 60 = .ok (.if_icmp .ne 8, 3) := by decide +kernel
theorem dX7_reach_63 : decode cX7_reach 63 = .ok (.iload 5, 2) := by decide +kernel
theorem dX7_reach_65 : decode cX7_reach 65 = .ok (.goto 4, 3) := by decide +kernel
theorem dX7_reach_68 : decode cX7_reach 68 = .ok (.iload_n 3, 1) := by decide +kernel
theorem dX7_reach_69 : decode cX7_reach 69 = .ok (.istore_n 3, 1) := by decide +kernel
theorem dX7_reach_70 : decode cX7_reach 70 = .ok (.iload 6, 2) := by decide +kernel
theorem dX7_reach_72 : decode cX7_reach 72 = .ok (.ifCond .eq 8, 3) := by decide +kernel
theorem dX7_reach_75 : decode cX7_reach 75 = .ok (.iload 5, 2) := by decide +kernel
theorem dX7_reach_77 : decode cX7_reach 77 = .ok (.goto 5, 3) := by decide +kernel
theorem dX7_reach_80 : decode cX7_reach 80 = .ok (.iload 4, 2) := by decide +kernel
theorem dX7_reach_82 : decode cX7_reach 82 = .ok (.istore 4, 2) := by decide +kernel
theorem dX7_reach_84 : decode cX7_reach 84 = .ok (.iinc 5 1, 3) := by decide +kernel
theorem dX7_reach_87 : decode cX7_reach 87 = .ok (.goto (-62), 3) := by decide +kernel
theorem dX7_reach_90 : decode cX7_reach 90 = .ok (.iload_n 1, 1) := by decide +kernel
theorem dX7_reach_91 : decode cX7_reach 91 = .ok (.iconst 3, 1) := by decide +kernel
theorem dX7_reach_92 : decode cX7_reach 92 = .ok (.if_icmp .ge 23, 3) := by decide +kernel
theorem dX7_reach_95 : decode cX7_reach 95 = .ok (.iload_n 1, 1) := by decide +kernel
theorem dX7_reach_96 : decode cX7_reach 96 = .ok (.ifCond .ne 7, 3) := by decide +kernel
theorem dX7_reach_99 : decode cX7_reach 99 = .ok (.iload_n 2, 1) := by decide +kernel
theorem dX7_reach_100 : decode cX7_reach 100 = .ok (.goto 14, 3) := by decide +kernel
theorem dX7_reach_103 : decode cX7_reach 103 = .ok (.iload_n 1, 1) := by decide +kernel
theorem dX7_reach_104 : decode cX7_reach 104 = .ok (.iconst 1, 1) := by decide +kernel
theorem dX7_reach_105 : decode cX7_reach 105 = .ok (.if_icmp .ne 7, 3) := by decide +kernel
theorem dX7_reach_108 : decode cX7_reach 108 = .ok (.iload_n 3, 1) := by decide +kernel
theorem dX7_reach_109 : decode cX7_reach 109 = .ok (.goto 5, 3) := by decide +kernel
theorem dX7_reach_112 : decode cX7_reach 112 = .ok (.iload 4, 2) := by decide +kernel
theorem dX7_reach_114 : decode cX7_reach 114 = .ok (.ireturn, 1) := by decide +kernel
theorem dX7_reach_115 : decode cX7_reach 115 = .ok (.iload_n 2, 1) := by decide +kernel
theorem dX7_reach_116 : decode cX7_reach 116 = .ok (.istore 5, 2) := by decide +kernel
theorem dX7_reach_118 : decode cX7_reach 118 = .ok (.iconst (-1), 1) := by decide +kernel
theorem dX7_reach_119 : decode cX7_reach 119 = .ok (.istore 6, 2) := by decide +kernel
theorem dX7_reach_121 : decode cX7_reach 121 = .ok (.iconst 0, 1) := by decide +kernel
theorem dX7_reach_122 : decode cX7_reach 122 = .ok (.istore 7, 2) := by decide +kernel
theorem dX7_reach_124 : decode cX7_reach 124 = .ok (.iload 7, 2) := by decide +kernel
theorem dX7_reach_126 : decode cX7_reach 126 = .ok (.bipush 51, 2) := by decide +kernel
theorem dX7_reach_128 : decode cX7_reach 128 = .ok (.if_icmp .ge 84, 3) := by decide +kernel
theorem dX7_reach_131 : decode cX7_reach 131 = .ok (.iconst 0, 1) := by decide +kernel
theorem dX7_reach_132 : decode cX7_reach 132 = .ok (.istore 8, 2) := by decide +kernel
theorem dX7_reach_134 : decode cX7_reach 134 = .ok (.iload 7, 2) := by decide +kernel
theorem dX7_reach_136 : decode cX7_reach 136 = .ok (.istore 9, 2) := by decide +kernel
theorem dX7_reach_138 : decode cX7_reach 138 = .ok (.iload 9, 2) := by decide +kernel
theorem dX7_reach_140 : decode cX7_reach 140 = .ok (.bipush 51, 2) := by decide +kernel
theorem dX7_reach_142 : decode cX7_reach 142 = .ok (.if_icmp .ge 28, 3) := by decide +kernel
theorem dX7_reach_145 : decode cX7_reach 145 = .ok (.iload 8, 2) := by decide +kernel
theorem dX7_reach_147 : decode cX7_reach 147 = .ok (.aload_n 0, 1) := by decide +kernel
theorem dX7_reach_148 : decode cX7_reach 148 = .ok (.iload 9, 2) := by decide +kernel
theorem dX7_reach_150 : decode cX7_reach 150 = .ok (.invokevirtual 259, 3) := by decide +kernel
theorem dX7_reach_153 : decode cX7_reach 153 = .ok (.ifCond .eq 7, 3) := by decide +kernel
theorem dX7_reach_156 : decode cX7_reach 156 = .ok (.iconst 1, 1) := by decide +kernel
theorem dX7_reach_157 : decode cX7_reach 157 = .ok (.goto 4, 3) := by decide +kernel
theorem dX7_reach_160 : decode cX7_reach 160 = .ok (.iconst 0, 1) := by decide +kernel
theorem dX7_reach_161 : decode cX7_reach 161 = .ok (.iadd, 1) := by decide +kernel
theorem dX7_reach_162 : decode cX7_reach 162 = .ok (.istore 8, 2) := by decide +kernel
theorem dX7_reach_164 : decode cX7_reach 164 = .ok (.iinc 9 1, 3) := by decide +kernel
theorem dX7_reach_167 : decode cX7_reach 167 = .ok (.goto (-29), 3) := by decide +kernel
theorem dX7_reach_170 : decode cX7_reach 170 = .ok (.iload 8, 2) := by decide +kernel
theorem dX7_reach_172 : decode cX7_reach 172 = .ok (.iload_n 2, 1) := by decide +kernel
theorem dX7_reach_173 : decode cX7_reach 173 = .ok (.iload 8, 2) := by decide +kernel
theorem dX7_reach_175 : decode cX7_reach 175 = .ok (.isub, 1) := by decide +kernel
theorem dX7_reach_176 : decode cX7_reach 176 = .ok (.invokestatic 235, 3) := by decide +kernel
theorem dX7_reach_179 : decode cX7_reach 179 = .ok (.istore 9, 2) := by decide +kernel
theorem dX7_reach_181 : decode cX7_reach 181 = .ok (.iload 9, 2) := by decide +kernel
theorem dX7_reach_183 : decode cX7_reach 183 = .ok (.iload 5, 2) := by decide +kernel
theorem dX7_reach_185 : decode cX7_reach 185 = .ok (.if_icmp .ge 8, 3) := by decide +kernel
theorem dX7_reach_188 : decode cX7_reach 188 = .ok (.iload 7, 2) := by decide +kernel
theorem dX7_reach_190 : decode cX7_reach 190 = .ok (.goto 5, 3) := by decide +kernel
theorem dX7_reach_193 : decode cX7_reach 193 = .ok (.iload 6, 2) := by decide +kernel
theorem dX7_reach_195 : decode cX7_reach 195 = .ok (.istore 6, 2) := by decide +kernel
theorem dX7_reach_197 : decode cX7_reach 197 = .ok (.iload 9, 2) := by decide +kernel
theorem dX7_reach_199 : decode cX7_reach 199 = .ok (.iload 5, 2) := by decide +kernel
theorem dX7_reach_201 : decode cX7_reach 201 = .ok (.invokestatic 138, 3) := by decide +kernel
theorem dX7_reach_204 : decode cX7_reach 204 = .ok (.istore 5, 2) := by decide +kernel
theorem dX7_reach_206 : decode cX7_reach 206 = .ok (.iinc 7 1, 3) := by decide +kernel
theorem dX7_reach_209 : decode cX7_reach 209 = .ok (.goto (-85), 3) := by decide +kernel
theorem dX7_reach_212 : decode cX7_reach 212 = .ok (.iload 6, 2) := by decide +kernel
theorem dX7_reach_214 : decode cX7_reach 214 = .ok (.ireturn, 1) := by decide +kernel
theorem dX7_write_0 : decode cX7_write 0 = .ok (.aload_n 0, 1) := by decide +kernel
theorem dX7_write_1 : decode cX7_write 1 = .ok (.iload_n 1, 1) := by decide +kernel
theorem dX7_write_2 : decode cX7_write 2 = .ok (.invokevirtual 180, 3) := by decide +kernel
theorem dX7_write_5 : decode cX7_write 5 = .ok (.ifCond .ne 6, 3) := by decide +kernel
theorem dX7_write_8 : decode cX7_write 8 = .ok (.ldc 183, 2) := by decide +kernel
theorem dX7_write_10 : decode cX7_write 10 = .ok (.ireturn, 1) := by decide +kernel
theorem dX7_write_11 : decode cX7_write 11 = .ok (.iload_n 2, 1) := by decide +kernel
theorem dX7_write_12 : decode cX7_write 12 = .ok (.i2l, 1) := by decide +kernel
theorem dX7_write_13 : decode cX7_write 13 = .ok (.lconst 0, 1) := by decide +kernel
theorem dX7_write_14 : decode cX7_write 14 = .ok (.ldc2_w 248, 3) := by decide +kernel
theorem dX7_write_17 : decode cX7_write 17 = .ok (.invokestatic 72, 3) := by decide +kernel
theorem dX7_write_20 : decode cX7_write 20 = .ok (.ifCond .ne 6, 3) := by decide +kernel
theorem dX7_write_23 : decode cX7_write 23 = .ok (.ldc 76, 2) := by decide +kernel
theorem dX7_write_25 : decode cX7_write 25 = .ok (.ireturn, 1) := by decide +kernel
theorem dX7_write_26 : decode cX7_write 26 = .ok (.aload_n 0, 1) := by decide +kernel
theorem dX7_write_27 : decode cX7_write 27 = .ok (.getfield 67, 3) := by decide +kernel
theorem dX7_write_30 : decode cX7_write 30 = .ok (.bipush 15, 2) := by decide +kernel
theorem dX7_write_32 : decode cX7_write 32 = .ok (.if_icmp .ne 6, 3) := by decide +kernel
theorem dX7_write_35 : decode cX7_write 35 = .ok (.ldc 80, 2) := by decide +kernel
theorem dX7_write_37 : decode cX7_write 37 = .ok (.ireturn, 1) := by decide +kernel
theorem dX7_write_38 : decode cX7_write 38 = .ok (.aload_n 0, 1) := by decide +kernel
theorem dX7_write_39 : decode cX7_write 39 = .ok (.getfield 45, 3) := by decide +kernel
theorem dX7_write_42 : decode cX7_write 42 = .ok (.iconst 2, 1) := by decide +kernel
theorem dX7_write_43 : decode cX7_write 43 = .ok (.aload_n 0, 1) := by decide +kernel
theorem dX7_write_44 : decode cX7_write 44 = .ok (.getfield 67, 3) := by decide +kernel
theorem dX7_write_47 : decode cX7_write 47 = .ok (.imul, 1) := by decide +kernel
theorem dX7_write_48 : decode cX7_write 48 = .ok (.iload_n 1, 1) := by decide +kernel
theorem dX7_write_49 : decode cX7_write 49 = .ok (.iastore, 1) := by decide +kernel
theorem dX7_write_50 : decode cX7_write 50 = .ok (.aload_n 0, 1) := by decide +kernel
theorem dX7_write_51 : decode cX7_write 51 = .ok (.getfield 45, 3) := by decide +kernel
theorem dX7_write_54 : decode cX7_write 54 = .ok (.iconst 2, 1) := by decide +kernel
theorem dX7_write_55 : decode cX7_write 55 = .ok (.aload_n 0, 1) := by decide +kernel
theorem dX7_write_56 : decode cX7_write 56 = .ok (.getfield 67, 3) := by decide +kernel
theorem dX7_write_59 : decode cX7_write 59 = .ok (.imul, 1) := by decide +kernel
theorem dX7_write_60 : decode cX7_write 60 = .ok (.iconst 1, 1) := by decide +kernel
theorem dX7_write_61 : decode cX7_write 61 = .ok (.iadd, 1) := by decide +kernel
theorem dX7_write_62 : decode cX7_write 62 = .ok (.iload_n 2, 1) := by decide +kernel
theorem dX7_write_63 : decode cX7_write 63 = .ok (.iastore, 1) := by decide +kernel
theorem dX7_write_64 : decode cX7_write 64 = .ok (.aload_n 0, 1) := by decide +kernel
theorem dX7_write_65 : decode cX7_write 65 = .ok (.dup, 1) := by decide +kernel
theorem dX7_write_66 : decode cX7_write 66 = .ok (.getfield 67, 3) := by decide +kernel
theorem dX7_write_69 : decode cX7_write 69 = .ok (.iconst 1, 1) := by decide +kernel
theorem dX7_write_70 : decode cX7_write 70 = .ok (.iadd, 1) := by decide +kernel
theorem dX7_write_71 : decode cX7_write 71 = .ok (.putfield 67, 3) := by decide +kernel
theorem dX7_write_74 : decode cX7_write 74 = .ok (.aload_n 0, 1) := by decide +kernel
theorem dX7_write_75 : decode cX7_write 75 = .ok (.getfield 67, 3) := by decide +kernel
theorem dX7_write_78 : decode cX7_write 78 = .ok (.ireturn, 1) := by decide +kernel
theorem dX7_tear_0 : decode cX7_tear 0 = .ok (.aload_n 0, 1) := by decide +kernel
theorem dX7_tear_1 : decode cX7_tear 1 = .ok (.getfield 61, 3) := by decide +kernel
theorem dX7_tear_4 : decode cX7_tear 4 = .ok (.aload_n 0, 1) := by decide +kernel
theorem dX7_tear_5 : decode cX7_tear 5 = .ok (.getfield 64, 3) := by decide +kernel
theorem dX7_tear_8 : decode cX7_tear 8 = .ok (.iadd, 1) := by decide +kernel
theorem dX7_tear_9 : decode cX7_tear 9 = .ok (.aload_n 0, 1) := by decide +kernel
theorem dX7_tear_10 : decode cX7_tear 10 = .ok (.getfield 67, 3) := by decide +kernel
theorem dX7_tear_13 : decode cX7_tear 13 = .ok (.iadd, 1) := by decide +kernel
theorem dX7_tear_14 : decode cX7_tear 14 = .ok (.istore_n 1, 1) := by decide +kernel
theorem dX7_tear_15 : decode cX7_tear 15 = .ok (.aload_n 0, 1) := by decide +kernel
theorem dX7_tear_16 : decode cX7_tear 16 = .ok (.iconst 0, 1) := by decide +kernel
theorem dX7_tear_17 : decode cX7_tear 17 = .ok (.putfield 61, 3) := by decide +kernel
theorem dX7_tear_20 : decode cX7_tear 20 = .ok (.aload_n 0, 1) := by decide +kernel
theorem dX7_tear_21 : decode cX7_tear 21 = .ok (.iconst 0, 1) := by decide +kernel
theorem dX7_tear_22 : decode cX7_tear 22 = .ok (.putfield 64, 3) := by decide +kernel
theorem dX7_tear_25 : decode cX7_tear 25 = .ok (.aload_n 0, 1) := by decide +kernel
theorem dX7_tear_26 : decode cX7_tear 26 = .ok (.iconst 0, 1) := by decide +kernel
theorem dX7_tear_27 : decode cX7_tear 27 = .ok (.putfield 67, 3) := by decide +kernel
theorem dX7_tear_30 : decode cX7_tear 30 = .ok (.iload_n 1, 1) := by decide +kernel
theorem dX7_tear_31 : decode cX7_tear 31 = .ok (.ireturn, 1) := by decide +kernel
theorem dX7_judge_0 : decode cX7_judge 0 = .ok (.iconst 0, 1) := by decide +kernel
theorem dX7_judge_1 : decode cX7_judge 1 = .ok (.istore_n 1, 1) := by decide +kernel
theorem dX7_judge_2 : decode cX7_judge 2 = .ok (.iload_n 1, 1) := by decide +kernel
theorem dX7_judge_3 : decode cX7_judge 3 = .ok (.aload_n 0, 1) := by decide +kernel
theorem dX7_judge_4 : decode cX7_judge 4 = .ok (.getfield 67, 3) := by decide +kernel
theorem dX7_judge_7 : decode cX7_judge 7 = .ok (.if_icmp .ge 39, 3) := by decide +kernel
theorem dX7_judge_10 : decode cX7_judge 10 = .ok (.aload_n 0, 1) := by decide +kernel
theorem dX7_judge_11 : decode cX7_judge 11 = .ok (.getfield 16, 3) := by decide +kernel
theorem dX7_judge_14 : decode cX7_judge 14 = .ok (.iconst 0, 1) := by decide +kernel
theorem dX7_judge_15 : decode cX7_judge 15 = .ok (.aload_n 0, 1) := by decide +kernel
theorem dX7_judge_16 : decode cX7_judge 16 = .ok (.getfield 45, 3) := by decide +kernel
theorem dX7_judge_19 : decode cX7_judge 19 = .ok (.iconst 2, 1) := by decide +kernel
theorem dX7_judge_20 : decode cX7_judge 20 = .ok (.iload_n 1, 1) := by decide +kernel
theorem dX7_judge_21 : decode cX7_judge 21 = .ok (.imul, 1) := by decide +kernel
theorem dX7_judge_22 : decode cX7_judge 22 = .ok (.iaload, 1) := by decide +kernel
theorem dX7_judge_23 : decode cX7_judge 23 = .ok (.iadd, 1) := by decide +kernel
theorem dX7_judge_24 : decode cX7_judge 24 = .ok (.iaload, 1) := by decide +kernel
theorem dX7_judge_25 : decode cX7_judge 25 = .ok (.aload_n 0, 1) := by decide +kernel
theorem dX7_judge_26 : decode cX7_judge 26 = .ok (.getfield 45, 3) := by decide +kernel
theorem dX7_judge_29 : decode cX7_judge 29 = .ok (.iconst 2, 1) := by decide +kernel
theorem dX7_judge_30 : decode cX7_judge 30 = .ok (.iload_n 1, 1) := by decide +kernel
theorem dX7_judge_31 : decode cX7_judge 31 = .ok (.imul, 1) := by decide +kernel
theorem dX7_judge_32 : decode cX7_judge 32 = .ok (.iconst 1, 1) := by decide +kernel
theorem dX7_judge_33 : decode cX7_judge 33 = .ok (.iadd, 1) := by decide +kernel
theorem dX7_judge_34 : decode cX7_judge 34 = .ok (.iaload, 1) := by decide +kernel
theorem dX7_judge_35 : decode cX7_judge 35 = .ok (.if_icmp .eq 5, 3) := by decide +kernel
theorem dX7_judge_38 : decode cX7_judge 38 = .ok (.iload_n 1, 1) := by decide +kernel
theorem dX7_judge_39 : decode cX7_judge 39 = .ok (.ireturn, 1) := by decide +kernel
theorem dX7_judge_40 : decode cX7_judge 40 = .ok (.iinc 1 1, 3) := by decide +kernel
theorem dX7_judge_43 : decode cX7_judge 43 = .ok (.goto (-41), 3) := by decide +kernel
theorem dX7_judge_46 : decode cX7_judge 46 = .ok (.iconst (-1), 1) := by decide +kernel
theorem dX7_judge_47 : decode cX7_judge 47 = .ok (.ireturn, 1) := by decide +kernel
theorem dX7_seed_0 : decode cX7_seed 0 = .ok (.iload_n 1, 1) := by decide +kernel
theorem dX7_seed_1 : decode cX7_seed 1 = .ok (.ifCond .ge 6, 3) := by decide +kernel
theorem dX7_seed_4 : decode cX7_seed 4 = .ok (.ldc 76, 2) := by decide +kernel
theorem dX7_seed_6 : decode cX7_seed 6 = .ok (.ireturn, 1) := by decide +kernel
theorem dX7_seed_7 : decode cX7_seed 7 = .ok (.aload_n 0, 1) := by decide +kernel
theorem dX7_seed_8 : decode cX7_seed 8 = .ok (.getfield 212, 3) := by decide +kernel
theorem dX7_seed_11 : decode cX7_seed 11 = .ok (.l2i, 1) := by decide +kernel
theorem dX7_seed_12 : decode cX7_seed 12 = .ok (.istore_n 2, 1) := by decide +kernel
theorem dX7_seed_13 : decode cX7_seed 13 = .ok (.aload_n 0, 1) := by decide +kernel
theorem dX7_seed_14 : decode cX7_seed 14 = .ok (.iload_n 1, 1) := by decide +kernel
theorem dX7_seed_15 : decode cX7_seed 15 = .ok (.i2l, 1) := by decide +kernel
theorem dX7_seed_16 : decode cX7_seed 16 = .ok (.putfield 212, 3) := by decide +kernel
theorem dX7_seed_19 : decode cX7_seed 19 = .ok (.iload_n 2, 1) := by decide +kernel
theorem dX7_seed_20 : decode cX7_seed 20 = .ok (.ireturn, 1) := by decide +kernel
theorem dX7_keep_0 : decode cX7_keep 0 = .ok (.iload_n 1, 1) := by decide +kernel
theorem dX7_keep_1 : decode cX7_keep 1 = .ok (.i2l, 1) := by decide +kernel
theorem dX7_keep_2 : decode cX7_keep 2 = .ok (.lconst 0, 1) := by decide +kernel
theorem dX7_keep_3 : decode cX7_keep 3 = .ok (.lconst 1, 1) := by decide +kernel
theorem dX7_keep_4 : decode cX7_keep 4 = .ok (.invokestatic 72, 3) := by decide +kernel
theorem dX7_keep_7 : decode cX7_keep 7 = .ok (.ifCond .ne 6, 3) := by decide +kernel
theorem dX7_keep_10 : decode cX7_keep 10 = .ok (.ldc 183, 2) := by decide +kernel
theorem dX7_keep_12 : decode cX7_keep 12 = .ok (.ireturn, 1) := by decide +kernel
theorem dX7_keep_13 : decode cX7_keep 13 = .ok (.aload_n 0, 1) := by decide +kernel
theorem dX7_keep_14 : decode cX7_keep 14 = .ok (.getfield 16, 3) := by decide +kernel
theorem dX7_keep_17 : decode cX7_keep 17 = .ok (.iconst 0, 1) := by decide +kernel
theorem dX7_keep_18 : decode cX7_keep 18 = .ok (.aload_n 0, 1) := by decide +kernel
theorem dX7_keep_19 : decode cX7_keep 19 = .ok (.getfield 25, 3) := by decide +kernel
theorem dX7_keep_22 : decode cX7_keep 22 = .ok (.bipush 49, 2) := by decide +kernel
theorem dX7_keep_24 : decode cX7_keep 24 = .ok (.iload_n 1, 1) := by decide +kernel
theorem dX7_keep_25 : decode cX7_keep 25 = .ok (.imul, 1) := by decide +kernel
theorem dX7_keep_26 : decode cX7_keep 26 = .ok (.bipush 48, 2) := by decide +kernel
theorem dX7_keep_28 : decode cX7_keep 28 = .ok (.invokestatic 54, 3) := by decide +kernel
theorem dX7_keep_31 : decode cX7_keep 31 = .ok (.aload_n 0, 1) := by decide +kernel
theorem dX7_keep_32 : decode cX7_keep 32 = .ok (.getfield 25, 3) := by decide +kernel
theorem dX7_keep_35 : decode cX7_keep 35 = .ok (.bipush 49, 2) := by decide +kernel
theorem dX7_keep_37 : decode cX7_keep 37 = .ok (.iload_n 1, 1) := by decide +kernel
theorem dX7_keep_38 : decode cX7_keep 38 = .ok (.imul, 1) := by decide +kernel
theorem dX7_keep_39 : decode cX7_keep 39 = .ok (.bipush 48, 2) := by decide +kernel
theorem dX7_keep_41 : decode cX7_keep 41 = .ok (.iadd, 1) := by decide +kernel
theorem dX7_keep_42 : decode cX7_keep 42 = .ok (.aload_n 0, 1) := by decide +kernel
