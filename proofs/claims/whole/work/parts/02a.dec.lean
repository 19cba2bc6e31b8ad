theorem dX0_init_0 : decode cX0_init 0 = .ok (.aload_n 0, 1) := by decide +kernel
theorem dX0_init_1 : decode cX0_init 1 = .ok (.invokespecial 3, 3) := by decide +kernel
theorem dX0_init_4 : decode cX0_init 4 = .ok (.aload_n 0, 1) := by decide +kernel
theorem dX0_init_5 : decode cX0_init 5 = .ok (.iconst 0, 1) := by decide +kernel
theorem dX0_init_6 : decode cX0_init 6 = .ok (.putfield 9, 3) := by decide +kernel
theorem dX0_init_9 : decode cX0_init 9 = .ok (.aload_n 0, 1) := by decide +kernel
theorem dX0_init_10 : decode cX0_init 10 = .ok (.iconst 0, 1) := by decide +kernel
theorem dX0_init_11 : decode cX0_init 11 = .ok (.putfield 15, 3) := by decide +kernel
theorem dX0_init_14 : decode cX0_init 14 = .ok (.aload_n 0, 1) := by decide +kernel
theorem dX0_init_15 : decode cX0_init 15 = .ok (.iconst 0, 1) := by decide +kernel
theorem dX0_init_16 : decode cX0_init 16 = .ok (.putfield 18, 3) := by decide +kernel
theorem dX0_init_19 : decode cX0_init 19 = .ok (.aload_n 0, 1) := by decide +kernel
theorem dX0_init_20 : decode cX0_init 20 = .ok (.iconst (-1), 1) := by decide +kernel
theorem dX0_init_21 : decode cX0_init 21 = .ok (.putfield 21, 3) := by decide +kernel
theorem dX0_init_24 : decode cX0_init 24 = .ok (.aload_n 0, 1) := by decide +kernel
theorem dX0_init_25 : decode cX0_init 25 = .ok (.iconst 0, 1) := by decide +kernel
theorem dX0_init_26 : decode cX0_init 26 = .ok (.putfield 24, 3) := by decide +kernel
theorem dX0_init_29 : decode cX0_init 29 = .ok (.aload_n 0, 1) := by decide +kernel
theorem dX0_init_30 : decode cX0_init 30 = .ok (.bipush 7, 2) := by decide +kernel
theorem dX0_init_32 : decode cX0_init 32 = .ok (.newarray .int, 2) := by decide +kernel
theorem dX0_init_34 : decode cX0_init 34 = .ok (.putfield 27, 3) := by decide +kernel
theorem dX0_init_37 : decode cX0_init 37 = .ok (.aload_n 0, 1) := by decide +kernel
theorem dX0_init_38 : decode cX0_init 38 = .ok (.bipush 7, 2) := by decide +kernel
theorem dX0_init_40 : decode cX0_init 40 = .ok (.newarray .int, 2) := by decide +kernel
theorem dX0_init_42 : decode cX0_init 42 = .ok (.putfield 31, 3) := by decide +kernel
theorem dX0_init_45 : decode cX0_init 45 = .ok (.aload_n 0, 1) := by decide +kernel
theorem dX0_init_46 : decode cX0_init 46 = .ok (.bipush 9, 2) := by decide +kernel
theorem dX0_init_48 : decode cX0_init 48 = .ok (.newarray .int, 2) := by decide +kernel
theorem dX0_init_50 : decode cX0_init 50 = .ok (.putfield 34, 3) := by decide +kernel
theorem dX0_init_53 : decode cX0_init 53 = .ok (.aload_n 0, 1) := by decide +kernel
theorem dX0_init_54 : decode cX0_init 54 = .ok (.bipush 20, 2) := by decide +kernel
theorem dX0_init_56 : decode cX0_init 56 = .ok (.newarray .int, 2) := by decide +kernel
theorem dX0_init_58 : decode cX0_init 58 = .ok (.putfield 37, 3) := by decide +kernel
theorem dX0_init_61 : decode cX0_init 61 = .ok (.return_, 1) := by decide +kernel
theorem dX0_begin_0 : decode cX0_begin 0 = .ok (.aload_n 0, 1) := by decide +kernel
theorem dX0_begin_1 : decode cX0_begin 1 = .ok (.aload_n 1, 1) := by decide +kernel
theorem dX0_begin_2 : decode cX0_begin 2 = .ok (.getfield 40, 3) := by decide +kernel
theorem dX0_begin_5 : decode cX0_begin 5 = .ok (.putfield 9, 3) := by decide +kernel
theorem dX0_begin_8 : decode cX0_begin 8 = .ok (.aload_n 0, 1) := by decide +kernel
theorem dX0_begin_9 : decode cX0_begin 9 = .ok (.iconst 0, 1) := by decide +kernel
theorem dX0_begin_10 : decode cX0_begin 10 = .ok (.putfield 15, 3) := by decide +kernel
theorem dX0_begin_13 : decode cX0_begin 13 = .ok (.aload_n 0, 1) := by decide +kernel
theorem dX0_begin_14 : decode cX0_begin 14 = .ok (.iconst 0, 1) := by decide +kernel
theorem dX0_begin_15 : decode cX0_begin 15 = .ok (.putfield 18, 3) := by decide +kernel
theorem dX0_begin_18 : decode cX0_begin 18 = .ok (.aload_n 0, 1) := by decide +kernel
theorem dX0_begin_19 : decode cX0_begin 19 = .ok (.aload_n 1, 1) := by decide +kernel
theorem dX0_begin_20 : decode cX0_begin 20 = .ok (.getfield 43, 3) := by decide +kernel
theorem dX0_begin_23 : decode cX0_begin 23 = .ok (.ifCond .eq 8, 3) := by decide +kernel
theorem dX0_begin_26 : decode cX0_begin 26 = .ok (.bipush (-2), 2) := by decide +kernel
theorem dX0_begin_28 : decode cX0_begin 28 = .ok (.goto 4, 3) := by decide +kernel
theorem dX0_begin_31 : decode cX0_begin 31 = .ok (.iconst (-1), 1) := by decide +kernel
theorem dX0_begin_32 : decode cX0_begin 32 = .ok (.putfield 21, 3) := by decide +kernel
theorem dX0_begin_35 : decode cX0_begin 35 = .ok (.bipush 6, 2) := by decide +kernel
theorem dX0_begin_37 : decode cX0_begin 37 = .ok (.istore_n 2, 1) := by decide +kernel
theorem dX0_begin_38 : decode cX0_begin 38 = .ok (.iload_n 2, 1) := by decide +kernel
theorem dX0_begin_39 : decode cX0_begin 39 = .ok (.ifCond .lt 61, 3) := by decide +kernel
theorem dX0_begin_42 : decode cX0_begin 42 = .ok (.aload_n 0, 1) := by decide +kernel
theorem dX0_begin_43 : decode cX0_begin 43 = .ok (.getfield 27, 3) := by decide +kernel
theorem dX0_begin_46 : decode cX0_begin 46 = .ok (.iload_n 2, 1) := by decide +kernel
theorem dX0_begin_47 : decode cX0_begin 47 = .ok (.aload_n 1, 1) := by decide +kernel
theorem dX0_begin_48 : decode cX0_begin 48 = .ok (.iload_n 2, 1) := by decide +kernel
theorem dX0_begin_49 : decode cX0_begin 49 = .ok (.invokevirtual 47, 3) := by decide +kernel
theorem dX0_begin_52 : decode cX0_begin 52 = .ok (.ifCond .eq 12, 3) := by decide +kernel
theorem dX0_begin_55 : decode cX0_begin 55 = .ok (.aload_n 1, 1) := by decide +kernel
theorem dX0_begin_56 : decode cX0_begin 56 = .ok (.getfield 51, 3) := by decide +kernel
theorem dX0_begin_59 : decode cX0_begin 59 = .ok (.iload_n 2, 1) := by decide +kernel
theorem dX0_begin_60 : decode cX0_begin 60 = .ok (.iaload, 1) := by decide +kernel
theorem dX0_begin_61 : decode cX0_begin 61 = .ok (.goto 4, 3) := by decide +kernel
theorem dX0_begin_64 : decode cX0_begin 64 = .ok (.iconst 0, 1) := by decide +kernel
theorem dX0_begin_65 : decode cX0_begin 65 = .ok (.iastore, 1) := by decide +kernel
theorem dX0_begin_66 : decode cX0_begin 66 = .ok (.aload_n 0, 1) := by decide +kernel
theorem dX0_begin_67 : decode cX0_begin 67 = .ok (.getfield 31, 3) := by decide +kernel
theorem dX0_begin_70 : decode cX0_begin 70 = .ok (.iload_n 2, 1) := by decide +kernel
theorem dX0_begin_71 : decode cX0_begin 71 = .ok (.iconst 0, 1) := by decide +kernel
theorem dX0_begin_72 : decode cX0_begin 72 = .ok (.iastore, 1) := by decide +kernel
theorem dX0_begin_73 : decode cX0_begin 73 = .ok (.aload_n 0, 1) := by decide +kernel
theorem dX0_begin_74 : decode cX0_begin 74 = .ok (.aload_n 0, 1) := by decide +kernel
theorem dX0_begin_75 : decode cX0_begin 75 = .ok (.getfield 27, 3) := by decide +kernel
theorem dX0_begin_78 : decode cX0_begin 78 = .ok (.iload_n 2, 1) := by decide +kernel
theorem dX0_begin_79 : decode cX0_begin 79 = .ok (.iaload, 1) := by decide +kernel
theorem dX0_begin_80 : decode cX0_begin 80 = .ok (.ifCond .le 7, 3) := by decide +kernel
theorem dX0_begin_83 : decode cX0_begin 83 = .ok (.iload_n 2, 1) := by decide +kernel
theorem dX0_begin_84 : decode cX0_begin 84 = .ok (.goto 7, 3) := by decide +kernel
theorem dX0_begin_87 : decode cX0_begin 87 = .ok (.aload_n 0, 1) := by decide +kernel
theorem dX0_begin_88 : decode cX0_begin 88 = .ok (.getfield 21, 3) := by decide +kernel
theorem dX0_begin_91 : decode cX0_begin 91 = .ok (.putfield 21, 3) := by decide +kernel
theorem dX0_begin_94 : decode cX0_begin 94 = .ok (.iinc 2 (-1), 3) := by decide +kernel
theorem dX0_begin_97 : decode cX0_begin 97 = .ok (.goto (-59), 3) := by decide +kernel
theorem dX0_begin_100 : decode cX0_begin 100 = .ok (.iconst 0, 1) := by decide +kernel
theorem dX0_begin_101 : decode cX0_begin 101 = .ok (.istore_n 2, 1) := by decide +kernel
theorem dX0_begin_102 : decode cX0_begin 102 = .ok (.iload_n 2, 1) := by decide +kernel
theorem dX0_begin_103 : decode cX0_begin 103 = .ok (.bipush 9, 2) := by decide +kernel
theorem dX0_begin_105 : decode cX0_begin 105 = .ok (.if_icmp .ge 33, 3) := by decide +kernel
theorem dX0_begin_108 : decode cX0_begin 108 = .ok (.aload_n 0, 1) := by decide +kernel
theorem dX0_begin_109 : decode cX0_begin 109 = .ok (.getfield 34, 3) := by decide +kernel
theorem dX0_begin_112 : decode cX0_begin 112 = .ok (.iload_n 2, 1) := by decide +kernel
theorem dX0_begin_113 : decode cX0_begin 113 = .ok (.aload_n 1, 1) := by decide +kernel
theorem dX0_begin_114 : decode cX0_begin 114 = .ok (.iload_n 2, 1) := by decide +kernel
theorem dX0_begin_115 : decode cX0_begin 115 = .ok (.invokevirtual 52, 3) := by decide +kernel
theorem dX0_begin_118 : decode cX0_begin 118 = .ok (.ifCond .eq 12, 3) := by decide +kernel
theorem dX0_begin_121 : decode cX0_begin 121 = .ok (.aload_n 1, 1) := by decide +kernel
theorem dX0_begin_122 : decode cX0_begin 122 = .ok (.getfield 55, 3) := by decide +kernel
theorem dX0_begin_125 : decode cX0_begin 125 = .ok (.iload_n 2, 1) := by decide +kernel
theorem dX0_begin_126 : decode cX0_begin 126 = .ok (.iaload, 1) := by decide +kernel
theorem dX0_begin_127 : decode cX0_begin 127 = .ok (.goto 4, 3) := by decide +kernel
theorem dX0_begin_130 : decode cX0_begin 130 = .ok (.iconst 0, 1) := by decide +kernel
theorem dX0_begin_131 : decode cX0_begin 131 = .ok (.iastore, 1) := by decide +kernel
theorem dX0_begin_132 : decode cX0_begin 132 = .ok (.iinc 2 1, 3) := by decide +kernel
theorem dX0_begin_135 : decode cX0_begin 135 = .ok (.goto (-33), 3) := by decide +kernel
theorem dX0_begin_138 : decode cX0_begin 138 = .ok (.aload_n 0, 1) := by decide +kernel
theorem dX0_begin_139 : decode cX0_begin 139 = .ok (.iconst 0, 1) := by decide +kernel
theorem dX0_begin_140 : decode cX0_begin 140 = .ok (.putfield 24, 3) := by decide +kernel
theorem dX0_begin_143 : decode cX0_begin 143 = .ok (.aload_n 1, 1) := by decide +kernel
theorem dX0_begin_144 : decode cX0_begin 144 = .ok (.getfield 43, 3) := by decide +kernel
theorem dX0_begin_147 : decode cX0_begin 147 = .ok (.ifCond .eq 7, 3) := by decide +kernel
theorem dX0_begin_150 : decode cX0_begin 150 = .ok (.aload_n 0, 1) := by decide +kernel
theorem dX0_begin_151 : decode cX0_begin 151 = .ok (.invokevirtual 56, 3) := by decide +kernel
theorem dX0_begin_154 : decode cX0_begin 154 = .ok (.return_, 1) := by decide +kernel
theorem dX0_copyFrom_0 : decode cX0_copyFrom 0 = .ok (.aload_n 0, 1) := by decide +kernel
theorem dX0_copyFrom_1 : decode cX0_copyFrom 1 = .ok (.aload_n 1, 1) := by decide +kernel
theorem dX0_copyFrom_2 : decode cX0_copyFrom 2 = .ok (.getfield 9, 3) := by decide +kernel
theorem dX0_copyFrom_5 : decode cX0_copyFrom 5 = .ok (.putfield 9, 3) := by decide +kernel
theorem dX0_copyFrom_8 : decode cX0_copyFrom 8 = .ok (.aload_n 0, 1) := by decide +kernel
theorem dX0_copyFrom_9 : decode cX0_copyFrom 9 = .ok (.aload_n 1, 1) := by decide +kernel
theorem dX0_copyFrom_10 : decode cX0_copyFrom 10 = .ok (.getfield 15, 3) := by decide +kernel
theorem dX0_copyFrom_13 : decode cX0_copyFrom 13 = .ok (.putfield 15, 3) := by decide +kernel
theorem dX0_copyFrom_16 : decode cX0_copyFrom 16 = .ok (.aload_n 0, 1) := by decide +kernel
theorem dX0_copyFrom_17 : decode cX0_copyFrom 17 = .ok (.aload_n 1, 1) := by decide +kernel
theorem dX0_copyFrom_18 : decode cX0_copyFrom 18 = .ok (.getfield 18, 3) := by decide +kernel
theorem dX0_copyFrom_21 : decode cX0_copyFrom 21 = .ok (.putfield 18, 3) := by decide +kernel
theorem dX0_copyFrom_24 : decode cX0_copyFrom 24 = .ok (.aload_n 0, 1) := by decide +kernel
theorem dX0_copyFrom_25 : decode cX0_copyFrom 25 = .ok (.aload_n 1, 1) := by decide +kernel
theorem dX0_copyFrom_26 : decode cX0_copyFrom 26 = .ok (.getfield 21, 3) := by decide +kernel
theorem dX0_copyFrom_29 : decode cX0_copyFrom 29 = .ok (.putfield 21, 3) := by decide +kernel
theorem dX0_copyFrom_32 : decode cX0_copyFrom 32 = .ok (.aload_n 0, 1) := by decide +kernel
theorem dX0_copyFrom_33 : decode cX0_copyFrom 33 = .ok (.aload_n 1, 1) := by decide +kernel
theorem dX0_copyFrom_34 : decode cX0_copyFrom 34 = .ok (.getfield 24, 3) := by decide +kernel
theorem dX0_copyFrom_37 : decode cX0_copyFrom 37 = .ok (.putfield 24, 3) := by decide +kernel
theorem dX0_copyFrom_40 : decode cX0_copyFrom 40 = .ok (.aload_n 1, 1) := by decide +kernel
theorem dX0_copyFrom_41 : decode cX0_copyFrom 41 = .ok (.getfield 27, 3) := by decide +kernel
theorem dX0_copyFrom_44 : decode cX0_copyFrom 44 = .ok (.iconst 0, 1) := by decide +kernel
theorem dX0_copyFrom_45 : decode cX0_copyFrom 45 = .ok (.aload_n 0, 1) := by decide +kernel
theorem dX0_copyFrom_46 : decode cX0_copyFrom 46 = .ok (.getfield 27, 3) := by decide +kernel
theorem dX0_copyFrom_49 : decode cX0_copyFrom 49 = .ok (.iconst 0, 1) := by decide +kernel
theorem dX0_copyFrom_50 : decode cX0_copyFrom 50 = .ok (.bipush 7, 2) := by decide +kernel
theorem dX0_copyFrom_52 : decode cX0_copyFrom 52 = .ok (.invokestatic 59, 3) := by decide +kernel
theorem dX0_copyFrom_55 : decode cX0_copyFrom 55 = .ok (.aload_n 1, 1) := by decide +kernel
theorem dX0_copyFrom_56 : decode cX0_copyFrom 56 = .ok (.getfield 31, 3) := by decide +kernel
theorem dX0_copyFrom_59 : decode cX0_copyFrom 59 = .ok (.iconst 0, 1) := by decide +kernel
theorem dX0_copyFrom_60 : decode cX0_copyFrom 60 = .ok (.aload_n 0, 1) := by decide +kernel
theorem dX0_copyFrom_61 : decode cX0_copyFrom 61 = .ok (.getfield 31, 3) := by decide +kernel
theorem dX0_copyFrom_64 : decode cX0_copyFrom 64 = .ok (.iconst 0, 1) := by decide +kernel
theorem dX0_copyFrom_65 : decode cX0_copyFrom 65 = .ok (.bipush 7, 2) := by decide +kernel
theorem dX0_copyFrom_67 : decode cX0_copyFrom 67 = .ok (.invokestatic 59, 3) := by decide +kernel
theorem dX0_copyFrom_70 : decode cX0_copyFrom 70 = .ok (.aload_n 1, 1) := by decide +kernel
theorem dX0_copyFrom_71 : decode cX0_copyFrom 71 = .ok (.getfield 34, 3) := by decide +kernel
theorem dX0_copyFrom_74 : decode cX0_copyFrom 74 = .ok (.iconst 0, 1) := by decide +kernel
theorem dX0_copyFrom_75 : decode cX0_copyFrom 75 = .ok (.aload_n 0, 1) := by decide +kernel
theorem dX0_copyFrom_76 : decode cX0_copyFrom 76 = .ok (.getfield 34, 3) := by decide +kernel
theorem dX0_copyFrom_79 : decode cX0_copyFrom 79 = .ok (.iconst 0, 1) := by decide +kernel
theorem dX0_copyFrom_80 : decode cX0_copyFrom 80 = .ok (.bipush 9, 2) := by decide +kernel
theorem dX0_copyFrom_82 : decode cX0_copyFrom 82 = .ok (.invokestatic 59, 3) := by decide +kernel
theorem dX0_copyFrom_85 : decode cX0_copyFrom 85 = .ok (.aload_n 1, 1) := by decide +kernel
theorem dX0_copyFrom_86 : decode cX0_copyFrom 86 = .ok (.getfield 37, 3) := by decide +kernel
theorem dX0_copyFrom_89 : decode cX0_copyFrom 89 = .ok (.iconst 0, 1) := by decide +kernel
theorem dX0_copyFrom_90 : decode cX0_copyFrom 90 = .ok (.aload_n 0, 1) := by decide +kernel
theorem dX0_copyFrom_91 : decode cX0_copyFrom 91 = .ok (.getfield 37, 3) := by decide +kernel
theorem dX0_copyFrom_94 : decode cX0_copyFrom 94 = .ok (.iconst 0, 1) := by decide +kernel
theorem dX0_copyFrom_95 : decode cX0_copyFrom 95 = .ok (.bipush 20, 2) := by decide +kernel
theorem dX0_copyFrom_97 : decode cX0_copyFrom 97 = .ok (.invokestatic 59, 3) := by decide +kernel
theorem dX0_copyFrom_100 : decode cX0_copyFrom 100 = .ok (.return_, 1) := by decide +kernel
theorem dX0_hasNet_0 : decode cX0_hasNet 0 = .ok (.aload_n 0, 1) := by decide +kernel
theorem dX0_hasNet_1 : decode cX0_hasNet 1 = .ok (.getfield 18, 3) := by decide +kernel
theorem dX0_hasNet_4 : decode cX0_hasNet 4 = .ok (.iload_n 1, 1) := by decide +kernel
theorem dX0_hasNet_5 : decode cX0_hasNet 5 = .ok (.invokestatic 65, 3) := by decide +kernel
theorem dX0_hasNet_8 : decode cX0_hasNet 8 = .ok (.ireturn, 1) := by decide +kernel
theorem dX0_inAllHats_0 : decode cX0_inAllHats 0 = .ok (.iconst 0, 1) := by decide +kernel
theorem dX0_inAllHats_1 : decode cX0_inAllHats 1 = .ok (.istore_n 1, 1) := by decide +kernel
theorem dX0_inAllHats_2 : decode cX0_inAllHats 2 = .ok (.iconst 0, 1) := by decide +kernel
theorem dX0_inAllHats_3 : decode cX0_inAllHats 3 = .ok (.istore_n 2, 1) := by decide +kernel
theorem dX0_inAllHats_4 : decode cX0_inAllHats 4 = .ok (.iload_n 2, 1) := by decide +kernel
theorem dX0_inAllHats_5 : decode cX0_inAllHats 5 = .ok (.aload_n 0, 1) := by decide +kernel
theorem dX0_inAllHats_6 : decode cX0_inAllHats 6 = .ok (.getfield 27, 3) := by decide +kernel
theorem dX0_inAllHats_9 : decode cX0_inAllHats 9 = .ok (.arraylength, 1) := by decide +kernel
theorem dX0_inAllHats_10 : decode cX0_inAllHats 10 = .ok (.if_icmp .ge 18, 3) := by decide +kernel
theorem dX0_inAllHats_13 : decode cX0_inAllHats 13 = .ok (.iload_n 1, 1) := by decide +kernel
theorem dX0_inAllHats_14 : decode cX0_inAllHats 14 = .ok (.aload_n 0, 1) := by decide +kernel
theorem dX0_inAllHats_15 : decode cX0_inAllHats 15 = .ok (.getfield 27, 3) := by decide +kernel
theorem dX0_inAllHats_18 : decode cX0_inAllHats 18 = .ok (.iload_n 2, 1) := by decide +kernel
theorem dX0_inAllHats_19 : decode cX0_inAllHats 19 = .ok (.iaload, 1) := by decide +kernel
theorem dX0_inAllHats_20 : decode cX0_inAllHats 20 = .ok (.iadd, 1) := by decide +kernel
theorem dX0_inAllHats_21 : decode cX0_inAllHats 21 = .ok (.istore_n 1, 1) := by decide +kernel
theorem dX0_inAllHats_22 : decode cX0_inAllHats 22 = .ok (.iinc 2 1, 3) := by decide +kernel
theorem dX0_inAllHats_25 : decode cX0_inAllHats 25 = .ok (.goto (-21), 3) := by decide +kernel
theorem dX0_inAllHats_28 : decode cX0_inAllHats 28 = .ok (.iload_n 1, 1) := by decide +kernel
theorem dX0_inAllHats_29 : decode cX0_inAllHats 29 = .ok (.ireturn, 1) := by decide +kernel
theorem dX0_notePlace_0 : decode cX0_notePlace 0 = .ok (.aload_n 0, 1) := by decide +kernel
theorem dX0_notePlace_1 : decode cX0_notePlace 1 = .ok (.getfield 37, 3) := by decide +kernel
theorem dX0_notePlace_4 : decode cX0_notePlace 4 = .ok (.aload_n 0, 1) := by decide +kernel
theorem dX0_notePlace_5 : decode cX0_notePlace 5 = .ok (.getfield 24, 3) := by decide +kernel
theorem dX0_notePlace_8 : decode cX0_notePlace 8 = .ok (.bipush 20, 2) := by decide +kernel
theorem dX0_notePlace_10 : decode cX0_notePlace 10 = .ok (.invokestatic 69, 3) := by decide +kernel
theorem dX0_notePlace_13 : decode cX0_notePlace 13 = .ok (.aload_n 0, 1) := by decide +kernel
theorem dX0_notePlace_14 : decode cX0_notePlace 14 = .ok (.getfield 21, 3) := by decide +kernel
theorem dX0_notePlace_17 : decode cX0_notePlace 17 = .ok (.iastore, 1) := by decide +kernel
theorem dX0_notePlace_18 : decode cX0_notePlace 18 = .ok (.aload_n 0, 1) := by decide +kernel
theorem dX0_notePlace_19 : decode cX0_notePlace 19 = .ok (.dup, 1) := by decide +kernel
theorem dX0_notePlace_20 : decode cX0_notePlace 20 = .ok (.getfield 24, 3) := by decide +kernel
theorem dX0_notePlace_23 : decode cX0_notePlace 23 = .ok (.iconst 1, 1) := by decide +kernel
theorem dX0_notePlace_24 : decode cX0_notePlace 24 = .ok (.iadd, 1) := by decide +kernel
theorem dX0_notePlace_25 : decode cX0_notePlace 25 = .ok (.putfield 24, 3) := by decide +kernel
theorem dX0_notePlace_28 : decode cX0_notePlace 28 = .ok (.return_, 1) := by decide +kernel
theorem dX0_placesKnown_0 : decode cX0_placesKnown 0 = .ok (.aload_n 0, 1) := by decide +kernel
theorem dX0_placesKnown_1 : decode cX0_placesKnown 1 = .ok (.getfield 24, 3) := by decide +kernel
theorem dX0_placesKnown_4 : decode cX0_placesKnown 4 = .ok (.bipush 20, 2) := by decide +kernel
theorem dX0_placesKnown_6 : decode cX0_placesKnown 6 = .ok (.invokestatic 75, 3) := by decide +kernel
theorem dX0_placesKnown_9 : decode cX0_placesKnown 9 = .ok (.ireturn, 1) := by decide +kernel
theorem dX0_placeBack_0 : decode cX0_placeBack 0 = .ok (.iload_n 1, 1) := by decide +kernel
theorem dX0_placeBack_1 : decode cX0_placeBack 1 = .ok (.ifCond .lt 11, 3) := by decide +kernel
theorem dX0_placeBack_4 : decode cX0_placeBack 4 = .ok (.iload_n 1, 1) := by decide +kernel
theorem dX0_placeBack_5 : decode cX0_placeBack 5 = .ok (.aload_n 0, 1) := by decide +kernel
theorem dX0_placeBack_6 : decode cX0_placeBack 6 = .ok (.invokevirtual 78, 3) := by decide +kernel
theorem dX0_placeBack_9 : decode cX0_placeBack 9 = .ok (.if_icmp .lt 5, 3) := by decide +kernel
theorem dX0_placeBack_12 : decode cX0_placeBack 12 = .ok (.iconst (-1), 1) := by decide +kernel
theorem dX0_placeBack_13 : decode cX0_placeBack 13 = .ok (.ireturn, 1) := by decide +kernel
theorem dX0_placeBack_14 : decode cX0_placeBack 14 = .ok (.aload_n 0, 1) := by decide +kernel
theorem dX0_placeBack_15 : decode cX0_placeBack 15 = .ok (.getfield 37, 3) := by decide +kernel
theorem dX0_placeBack_18 : decode cX0_placeBack 18 = .ok (.aload_n 0, 1) := by decide +kernel
theorem dX0_placeBack_19 : decode cX0_placeBack 19 = .ok (.getfield 24, 3) := by decide +kernel
theorem dX0_placeBack_22 : decode cX0_placeBack 22 = .ok (.iconst 1, 1) := by decide +kernel
theorem dX0_placeBack_23 : decode cX0_placeBack 23 = .ok (.isub, 1) := by decide +kernel
theorem dX0_placeBack_24 : decode cX0_placeBack 24 = .ok (.iload_n 1, 1) := by decide +kernel
theorem dX0_placeBack_25 : decode cX0_placeBack 25 = .ok (.isub, 1) := by decide +kernel
theorem dX0_placeBack_26 : decode cX0_placeBack 26 = .ok (.bipush 20, 2) := by decide +kernel
theorem dX0_placeBack_28 : decode cX0_placeBack 28 = .ok (.invokestatic 69, 3) := by decide +kernel
theorem dX0_placeBack_31 : decode cX0_placeBack 31 = .ok (.iaload, 1) := by decide +kernel
theorem dX0_placeBack_32 : decode cX0_placeBack 32 = .ok (.ireturn, 1) := by decide +kernel
theorem dX0_move_0 : decode cX0_move 0 = .ok (.aload_n 0, 1) := by decide +kernel
theorem dX0_move_1 : decode cX0_move 1 = .ok (.iload_n 1, 1) := by decide +kernel
theorem dX0_move_2 : decode cX0_move 2 = .ok (.iload_n 3, 1) := by decide +kernel
theorem dX0_move_3 : decode cX0_move 3 = .ok (.ineg, 1) := by decide +kernel
theorem dX0_move_4 : decode cX0_move 4 = .ok (.invokevirtual 82, 3) := by decide +kernel
theorem dX0_move_7 : decode cX0_move 7 = .ok (.aload_n 0, 1) := by decide +kernel
theorem dX0_move_8 : decode cX0_move 8 = .ok (.iload_n 2, 1) := by decide +kernel
theorem dX0_move_9 : decode cX0_move 9 = .ok (.iload_n 3, 1) := by decide +kernel
theorem dX0_move_10 : decode cX0_move 10 = .ok (.invokevirtual 82, 3) := by decide +kernel
theorem dX0_move_13 : decode cX0_move 13 = .ok (.iload_n 3, 1) := by decide +kernel
theorem dX0_move_14 : decode cX0_move 14 = .ok (.ifCond .le 20, 3) := by decide +kernel
theorem dX0_move_17 : decode cX0_move 17 = .ok (.aload_n 0, 1) := by decide +kernel
theorem dX0_move_18 : decode cX0_move 18 = .ok (.getfield 21, 3) := by decide +kernel
theorem dX0_move_21 : decode cX0_move 21 = .ok (.iload_n 1, 1) := by decide +kernel
theorem dX0_move_22 : decode cX0_move 22 = .ok (.if_icmp .ne 12, 3) := by decide +kernel
theorem dX0_move_25 : decode cX0_move 25 = .ok (.aload_n 0, 1) := by decide +kernel
theorem dX0_move_26 : decode cX0_move 26 = .ok (.iload_n 2, 1) := by decide +kernel
theorem dX0_move_27 : decode cX0_move 27 = .ok (.putfield 21, 3) := by decide +kernel
theorem dX0_move_30 : decode cX0_move 30 = .ok (.aload_n 0, 1) := by decide +kernel
theorem dX0_move_31 : decode cX0_move 31 = .ok (.invokevirtual 56, 3) := by decide +kernel
theorem dX0_move_34 : decode cX0_move 34 = .ok (.return_, 1) := by decide +kernel
theorem dX0_changeBy_0 : decode cX0_changeBy 0 = .ok (.iload_n 1, 1) := by decide +kernel
theorem dX0_changeBy_1 : decode cX0_changeBy 1 = .ok (.ifCond .lt 25, 3) := by decide +kernel
theorem dX0_changeBy_4 : decode cX0_changeBy 4 = .ok (.iload_n 1, 1) := by decide +kernel
theorem dX0_changeBy_5 : decode cX0_changeBy 5 = .ok (.aload_n 0, 1) := by decide +kernel
theorem dX0_changeBy_6 : decode cX0_changeBy 6 = .ok (.getfield 27, 3) := by decide +kernel
theorem dX0_changeBy_9 : decode cX0_changeBy 9 = .ok (.arraylength, 1) := by decide +kernel
theorem dX0_changeBy_10 : decode cX0_changeBy 10 = .ok (.if_icmp .ge 16, 3) := by decide +kernel
theorem dX0_changeBy_13 : decode cX0_changeBy 13 = .ok (.aload_n 0, 1) := by decide +kernel
theorem dX0_changeBy_14 : decode cX0_changeBy 14 = .ok (.getfield 27, 3) := by decide +kernel
theorem dX0_changeBy_17 : decode cX0_changeBy 17 = .ok (.iload_n 1, 1) := by decide +kernel
theorem dX0_changeBy_18 : decode cX0_changeBy 18 = .ok (.dup2, 1) := by decide +kernel
theorem dX0_changeBy_19 : decode cX0_changeBy 19 = .ok (.iaload, 1) := by decide +kernel
theorem dX0_changeBy_20 : decode cX0_changeBy 20 = .ok (.iload_n 2, 1) := by decide +kernel
theorem dX0_changeBy_21 : decode cX0_changeBy 21 = .ok (.iadd, 1) := by decide +kernel
theorem dX0_changeBy_22 : decode cX0_changeBy 22 = .ok (.iastore, 1) := by decide +kernel
theorem dX0_changeBy_23 : decode cX0_changeBy 23 = .ok (.goto 13, 3) := by decide +kernel
theorem dX0_changeBy_26 : decode cX0_changeBy 26 = .ok (.aload_n 0, 1) := by decide +kernel
theorem dX0_changeBy_27 : decode cX0_changeBy 27 = .ok (.dup, 1) := by decide +kernel
theorem dX0_changeBy_28 : decode cX0_changeBy 28 = .ok (.getfield 9, 3) := by decide +kernel
theorem dX0_changeBy_31 : decode cX0_changeBy 31 = .ok (.iload_n 2, 1) := by decide +kernel
theorem dX0_changeBy_32 : decode cX0_changeBy 32 = .ok (.iadd, 1) := by decide +kernel
theorem dX0_changeBy_33 : decode cX0_changeBy 33 = .ok (.putfield 9, 3) := by decide +kernel
theorem dX0_changeBy_36 : decode cX0_changeBy 36 = .ok (.return_, 1) := by decide +kernel
theorem dX0_addCrumbs_0 : decode cX0_addCrumbs 0 = .ok (.iload_n 1, 1) := by decide +kernel
theorem dX0_addCrumbs_1 : decode cX0_addCrumbs 1 = .ok (.ifCond .lt 31, 3) := by decide +kernel
theorem dX0_addCrumbs_4 : decode cX0_addCrumbs 4 = .ok (.iload_n 1, 1) := by decide +kernel
theorem dX0_addCrumbs_5 : decode cX0_addCrumbs 5 = .ok (.aload_n 0, 1) := by decide +kernel
theorem dX0_addCrumbs_6 : decode cX0_addCrumbs 6 = .ok (.getfield 31, 3) := by decide +kernel
theorem dX0_addCrumbs_9 : decode cX0_addCrumbs 9 = .ok (.arraylength, 1) := by decide +kernel
theorem dX0_addCrumbs_10 : decode cX0_addCrumbs 10 = .ok (.if_icmp .ge 22, 3) := by decide +kernel
theorem dX0_addCrumbs_13 : decode cX0_addCrumbs 13 = .ok (.aload_n 0, 1) := by decide +kernel
theorem dX0_addCrumbs_14 : decode cX0_addCrumbs 14 = .ok (.getfield 31, 3) := by decide +kernel
theorem dX0_addCrumbs_17 : decode cX0_addCrumbs 17 = .ok (.iload_n 1, 1) := by decide +kernel
theorem dX0_addCrumbs_18 : decode cX0_addCrumbs 18 = .ok (.aload_n 0, 1) := by decide +kernel
theorem dX0_addCrumbs_19 : decode cX0_addCrumbs 19 = .ok (.getfield 31, 3) := by decide +kernel
theorem dX0_addCrumbs_22 : decode cX0_addCrumbs 22 = .ok (.iload_n 1, 1) := by decide +kernel
theorem dX0_addCrumbs_23 : decode cX0_addCrumbs 23 = .ok (.iaload, 1) := by decide +kernel
theorem dX0_addCrumbs_24 : decode cX0_addCrumbs 24 = .ok (.iload_n 2, 1) := by decide +kernel
theorem dX0_addCrumbs_25 : decode cX0_addCrumbs 25 = .ok (.iadd, 1) := by decide +kernel
theorem dX0_addCrumbs_26 : decode cX0_addCrumbs 26 = .ok (.bipush 99, 2) := by decide +kernel
theorem dX0_addCrumbs_28 : decode cX0_addCrumbs 28 = .ok (.invokestatic 75, 3) := by decide +kernel
theorem dX0_addCrumbs_31 : decode cX0_addCrumbs 31 = .ok (.iastore, 1) := by decide +kernel
theorem dX0_addCrumbs_32 : decode cX0_addCrumbs 32 = .ok (.return_, 1) := by decide +kernel
theorem dX0_lessenDebts_0 : decode cX0_lessenDebts 0 = .ok (.iload 4, 2) := by decide +kernel
theorem dX0_lessenDebts_2 : decode cX0_lessenDebts 2 = .ok (.istore 5, 2) := by decide +kernel
theorem dX0_lessenDebts_4 : decode cX0_lessenDebts 4 = .ok (.iconst 0, 1) := by decide +kernel
theorem dX0_lessenDebts_5 : decode cX0_lessenDebts 5 = .ok (.istore 6, 2) := by decide +kernel
theorem dX0_lessenDebts_7 : decode cX0_lessenDebts 7 = .ok (.iconst 0, 1) := by decide +kernel
theorem dX0_lessenDebts_8 : decode cX0_lessenDebts 8 = .ok (.istore 7, 2) := by decide +kernel
theorem dX0_lessenDebts_10 : decode cX0_lessenDebts 10 = .ok (.iload 7, 2) := by decide +kernel
theorem dX0_lessenDebts_12 : decode cX0_lessenDebts 12 = .ok (.aload_n 1, 1) := by decide +kernel
theorem dX0_lessenDebts_13 : decode cX0_lessenDebts 13 = .ok (.getfield 86, 3) := by decide +kernel
theorem dX0_lessenDebts_16 : decode cX0_lessenDebts 16 = .ok (.if_icmp .ge 76, 3) := by decide +kernel
theorem dX0_lessenDebts_19 : decode cX0_lessenDebts 19 = .ok (.aload_n 1, 1) := by decide +kernel
theorem dX0_lessenDebts_20 : decode cX0_lessenDebts 20 = .ok (.getfield 89, 3) := by decide +kernel
theorem dX0_lessenDebts_23 : decode cX0_lessenDebts 23 = .ok (.iload 7, 2) := by decide +kernel
theorem dX0_lessenDebts_25 : decode cX0_lessenDebts 25 = .ok (.iaload, 1) := by decide +kernel
theorem dX0_lessenDebts_26 : decode cX0_lessenDebts 26 = .ok (.iload_n 2, 1) := by decide +kernel
theorem dX0_lessenDebts_27 : decode cX0_lessenDebts 27 = .ok (.if_icmp .ne 59, 3) := by decide +kernel
theorem dX0_lessenDebts_30 : decode cX0_lessenDebts 30 = .ok (.aload_n 1, 1) := by decide +kernel
theorem dX0_lessenDebts_31 : decode cX0_lessenDebts 31 = .ok (.getfield 92, 3) := by decide +kernel
theorem dX0_lessenDebts_34 : decode cX0_lessenDebts 34 = .ok (.iload 7, 2) := by decide +kernel
theorem dX0_lessenDebts_36 : decode cX0_lessenDebts 36 = .ok (.iaload, 1) := by decide +kernel
theorem dX0_lessenDebts_37 : decode cX0_lessenDebts 37 = .ok (.iload_n 3, 1) := by decide +kernel
theorem dX0_lessenDebts_38 : decode cX0_lessenDebts 38 = .ok (.if_icmp .ne 48, 3) := by decide +kernel
theorem dX0_lessenDebts_41 : decode cX0_lessenDebts 41 = .ok (.iload 5, 2) := by decide +kernel
theorem dX0_lessenDebts_43 : decode cX0_lessenDebts 43 = .ok (.aload_n 0, 1) := by decide +kernel
theorem dX0_lessenDebts_44 : decode cX0_lessenDebts 44 = .ok (.getfield 34, 3) := by decide +kernel
theorem dX0_lessenDebts_47 : decode cX0_lessenDebts 47 = .ok (.iload 7, 2) := by decide +kernel
theorem dX0_lessenDebts_49 : decode cX0_lessenDebts 49 = .ok (.iaload, 1) := by decide +kernel
theorem dX0_lessenDebts_50 : decode cX0_lessenDebts 50 = .ok (.invokestatic 75, 3) := by decide +kernel
theorem dX0_lessenDebts_53 : decode cX0_lessenDebts 53 = .ok (.istore 8, 2) := by decide +kernel
theorem dX0_lessenDebts_55 : decode cX0_lessenDebts 55 = .ok (.aload_n 0, 1) := by decide +kernel
theorem dX0_lessenDebts_56 : decode cX0_lessenDebts 56 = .ok (.getfield 34, 3) := by decide +kernel
theorem dX0_lessenDebts_59 : decode cX0_lessenDebts 59 = .ok (.iload 7, 2) := by decide +kernel
theorem dX0_lessenDebts_61 : decode cX0_lessenDebts 61 = .ok (.dup2, 1) := by decide +kernel
theorem dX0_lessenDebts_62 : decode cX0_lessenDebts 62 = .ok (.iaload, 1) := by decide +kernel
theorem dX0_lessenDebts_63 : decode cX0_lessenDebts 63 = .ok (.iload 8, 2) := by decide +kernel
theorem dX0_lessenDebts_65 : decode cX0_lessenDebts 65 = .ok (.isub, 1) := by decide +kernel
theorem dX0_lessenDebts_66 : decode cX0_lessenDebts 66 = .ok (.iastore, 1) := by decide +kernel
theorem dX0_lessenDebts_67 : decode cX0_lessenDebts 67 = .ok (.iload 5, 2) := by decide +kernel
theorem dX0_lessenDebts_69 : decode cX0_lessenDebts 69 = .ok (.iload 8, 2) := by decide +kernel
theorem dX0_lessenDebts_71 : decode cX0_lessenDebts 71 = .ok (.isub, 1) := by decide +kernel
theorem dX0_lessenDebts_72 : decode cX0_lessenDebts 72 = .ok (.istore 5, 2) := by decide +kernel
theorem dX0_lessenDebts_74 : decode cX0_lessenDebts 74 = .ok (.iload 6, 2) := by decide +kernel
theorem dX0_lessenDebts_76 : decode cX0_lessenDebts 76 = .ok (.aload_n 0, 1) := by decide +kernel
theorem dX0_lessenDebts_77 : decode cX0_lessenDebts 77 = .ok (.getfield 34, 3) := by decide +kernel
theorem dX0_lessenDebts_80 : decode cX0_lessenDebts 80 = .ok (.iload 7, 2) := by decide +kernel
theorem dX0_lessenDebts_82 : decode cX0_lessenDebts 82 = .ok (.iaload, 1) := by decide +kernel
theorem dX0_lessenDebts_83 : decode cX0_lessenDebts 83 = .ok (.iadd, 1) := by decide +kernel
theorem dX0_lessenDebts_84 : decode cX0_lessenDebts 84 = .ok (.istore 6, 2) := by decide +kernel
theorem dX0_lessenDebts_86 : decode cX0_lessenDebts 86 = .ok (.iinc 7 1, 3) := by decide +kernel
theorem dX0_lessenDebts_89 : decode cX0_lessenDebts 89 = .ok (.goto (-79), 3) := by decide +kernel
theorem dX0_lessenDebts_92 : decode cX0_lessenDebts 92 = .ok (.iload 6, 2) := by decide +kernel
theorem dX0_lessenDebts_94 : decode cX0_lessenDebts 94 = .ok (.ireturn, 1) := by decide +kernel
theorem dX0_scare_0 : decode cX0_scare 0 = .ok (.iconst 0, 1) := by decide +kernel
theorem dX0_scare_1 : decode cX0_scare 1 = .ok (.istore 4, 2) := by decide +kernel
theorem dX0_scare_3 : decode cX0_scare 3 = .ok (.iconst 0, 1) := by decide +kernel
theorem dX0_scare_4 : decode cX0_scare 4 = .ok (.istore 5, 2) := by decide +kernel
theorem dX0_scare_6 : decode cX0_scare 6 = .ok (.iload 5, 2) := by decide +kernel
theorem dX0_scare_8 : decode cX0_scare 8 = .ok (.aload_n 1, 1) := by decide +kernel
theorem dX0_scare_9 : decode cX0_scare 9 = .ok (.getfield 95, 3) := by decide +kernel
theorem dX0_scare_12 : decode cX0_scare 12 = .ok (.if_icmp .ge 61, 3) := by decide +kernel
theorem dX0_scare_15 : decode cX0_scare 15 = .ok (.aload_n 1, 1) := by decide +kernel
theorem dX0_scare_16 : decode cX0_scare 16 = .ok (.getfield 98, 3) := by decide +kernel
theorem dX0_scare_19 : decode cX0_scare 19 = .ok (.iload 5, 2) := by decide +kernel
theorem dX0_scare_21 : decode cX0_scare 21 = .ok (.iaload, 1) := by decide +kernel
theorem dX0_scare_22 : decode cX0_scare 22 = .ok (.iload_n 2, 1) := by decide +kernel
theorem dX0_scare_23 : decode cX0_scare 23 = .ok (.isub, 1) := by decide +kernel
theorem dX0_scare_24 : decode cX0_scare 24 = .ok (.invokestatic 101, 3) := by decide +kernel
theorem dX0_scare_27 : decode cX0_scare 27 = .ok (.iload_n 3, 1) := by decide +kernel
theorem dX0_scare_28 : decode cX0_scare 28 = .ok (.if_icmp .gt 39, 3) := by decide +kernel
theorem dX0_scare_31 : decode cX0_scare 31 = .ok (.aload_n 0, 1) := by decide +kernel
theorem dX0_scare_32 : decode cX0_scare 32 = .ok (.iload 5, 2) := by decide +kernel
theorem dX0_scare_34 : decode cX0_scare 34 = .ok (.invokevirtual 105, 3) := by decide +kernel
theorem dX0_scare_37 : decode cX0_scare 37 = .ok (.ifCond .ne 30, 3) := by decide +kernel
theorem dX0_scare_40 : decode cX0_scare 40 = .ok (.iload 4, 2) := by decide +kernel
theorem dX0_scare_42 : decode cX0_scare 42 = .ok (.aload_n 0, 1) := by decide +kernel
theorem dX0_scare_43 : decode cX0_scare 43 = .ok (.getfield 27, 3) := by decide +kernel
theorem dX0_scare_46 : decode cX0_scare 46 = .ok (.iload 5, 2) := by decide +kernel
theorem dX0_scare_48 : decode cX0_scare 48 = .ok (.iaload, 1) := by decide +kernel
theorem dX0_scare_49 : decode cX0_scare 49 = .ok (.iadd, 1) := by decide +kernel
theorem dX0_scare_50 : decode cX0_scare 50 = .ok (.istore 4, 2) := by decide +kernel
theorem dX0_scare_52 : decode cX0_scare 52 = .ok (.aload_n 0, 1) := by decide +kernel
theorem dX0_scare_53 : decode cX0_scare 53 = .ok (.iload 5, 2) := by decide +kernel
theorem dX0_scare_55 : decode cX0_scare 55 = .ok (.bipush (-2), 2) := by decide +kernel
theorem dX0_scare_57 : decode cX0_scare 57 = .ok (.aload_n 0, 1) := by decide +kernel
theorem dX0_scare_58 : decode cX0_scare 58 = .ok (.getfield 27, 3) := by decide +kernel
theorem dX0_scare_61 : decode cX0_scare 61 = .ok (.iload 5, 2) := by decide +kernel
theorem dX0_scare_63 : decode cX0_scare 63 = .ok (.iaload, 1) := by decide +kernel
theorem dX0_scare_64 : decode cX0_scare 64 = .ok (.invokevirtual 108, 3) := by decide +kernel
theorem dX0_scare_67 : decode cX0_scare 67 = .ok (.iinc 5 1, 3) := by decide +kernel
theorem dX0_scare_70 : decode cX0_scare 70 = .ok (.goto (-64), 3) := by decide +kernel
theorem dX0_scare_73 : decode cX0_scare 73 = .ok (.iload 4, 2) := by decide +kernel
theorem dX0_scare_75 : decode cX0_scare 75 = .ok (.ireturn, 1) := by decide +kernel
theorem dX0_loss_0 : decode cX0_loss 0 = .ok (.aload_n 0, 1) := by decide +kernel
theorem dX0_loss_1 : decode cX0_loss 1 = .ok (.getfield 27, 3) := by decide +kernel
theorem dX0_loss_4 : decode cX0_loss 4 = .ok (.iload_n 2, 1) := by decide +kernel
theorem dX0_loss_5 : decode cX0_loss 5 = .ok (.iaload, 1) := by decide +kernel
theorem dX0_loss_6 : decode cX0_loss 6 = .ok (.istore 4, 2) := by decide +kernel
theorem dX0_loss_8 : decode cX0_loss 8 = .ok (.iload 4, 2) := by decide +kernel
theorem dX0_loss_10 : decode cX0_loss 10 = .ok (.ifCond .eq 11, 3) := by decide +kernel
theorem dX0_loss_13 : decode cX0_loss 13 = .ok (.aload_n 0, 1) := by decide +kernel
theorem dX0_loss_14 : decode cX0_loss 14 = .ok (.iload_n 2, 1) := by decide +kernel
theorem dX0_loss_15 : decode cX0_loss 15 = .ok (.invokevirtual 105, 3) := by decide +kernel
theorem dX0_loss_18 : decode cX0_loss 18 = .ok (.ifCond .eq 5, 3) := by decide +kernel
theorem dX0_loss_21 : decode cX0_loss 21 = .ok (.iconst 0, 1) := by decide +kernel
theorem dX0_loss_22 : decode cX0_loss 22 = .ok (.ireturn, 1) := by decide +kernel
theorem dX0_loss_23 : decode cX0_loss 23 = .ok (.iload 4, 2) := by decide +kernel
theorem dX0_loss_25 : decode cX0_loss 25 = .ok (.bipush 10, 2) := by decide +kernel
theorem dX0_loss_27 : decode cX0_loss 27 = .ok (.idiv, 1) := by decide +kernel
theorem dX0_loss_28 : decode cX0_loss 28 = .ok (.iconst 1, 1) := by decide +kernel
theorem dX0_loss_29 : decode cX0_loss 29 = .ok (.iadd, 1) := by decide +kernel
theorem dX0_loss_30 : decode cX0_loss 30 = .ok (.istore 5, 2) := by decide +kernel
theorem dX0_loss_32 : decode cX0_loss 32 = .ok (.aload_n 1, 1) := by decide +kernel
theorem dX0_loss_33 : decode cX0_loss 33 = .ok (.getfield 112, 3) := by decide +kernel
theorem dX0_loss_36 : decode cX0_loss 36 = .ok (.iload_n 2, 1) := by decide +kernel
theorem dX0_loss_37 : decode cX0_loss 37 = .ok (.iaload, 1) := by decide +kernel
theorem dX0_loss_38 : decode cX0_loss 38 = .ok (.tableswitch 58 1 4 #[30, 35, 37, 47], 30) := by decide +kernel
theorem dX0_loss_68 : decode cX0_loss 68 = .ok (.iload 5, 2) := by decide +kernel
theorem dX0_loss_70 : decode cX0_loss 70 = .ok (.iconst 2, 1) := by decide +kernel
theorem dX0_loss_71 : decode cX0_loss 71 = .ok (.idiv, 1) := by decide +kernel
theorem dX0_loss_72 : decode cX0_loss 72 = .ok (.ireturn, 1) := by decide +kernel
theorem dX0_loss_73 : decode cX0_loss 73 = .ok (.iconst 0, 1) := by decide +kernel
theorem dX0_loss_74 : decode cX0_loss 74 = .ok (.ireturn, 1) := by decide +kernel
theorem dX0_loss_75 : decode cX0_loss 75 = .ok (.iconst 2, 1) := by decide +kernel
theorem dX0_loss_76 : decode cX0_loss 76 = .ok (.iload 5, 2) := by decide +kernel
theorem dX0_loss_78 : decode cX0_loss 78 = .ok (.imul, 1) := by decide +kernel
theorem dX0_loss_79 : decode cX0_loss 79 = .ok (.iload 4, 2) := by decide +kernel
theorem dX0_loss_81 : decode cX0_loss 81 = .ok (.invokestatic 75, 3) := by decide +kernel
theorem dX0_loss_84 : decode cX0_loss 84 = .ok (.ireturn, 1) := by decide +kernel
theorem dX0_loss_85 : decode cX0_loss 85 = .ok (.iload_n 3, 1) := by decide +kernel
theorem dX0_loss_86 : decode cX0_loss 86 = .ok (.ifCond .eq 7, 3) := by decide +kernel
theorem dX0_loss_89 : decode cX0_loss 89 = .ok (.iconst 0, 1) := by decide +kernel
theorem dX0_loss_90 : decode cX0_loss 90 = .ok (.goto 5, 3) := by decide +kernel
theorem dX0_loss_93 : decode cX0_loss 93 = .ok (.iload 5, 2) := by decide +kernel
theorem dX0_loss_95 : decode cX0_loss 95 = .ok (.ireturn, 1) := by decide +kernel
theorem dX0_loss_96 : decode cX0_loss 96 = .ok (.iload 5, 2) := by decide +kernel
theorem dX0_loss_98 : decode cX0_loss 98 = .ok (.ireturn, 1) := by decide +kernel
theorem dX0_drawnBy_0 : decode cX0_drawnBy 0 = .ok (.iconst 0, 1) := by decide +kernel
theorem dX0_drawnBy_1 : decode cX0_drawnBy 1 = .ok (.istore_n 3, 1) := by decide +kernel
theorem dX0_drawnBy_2 : decode cX0_drawnBy 2 = .ok (.iconst 0, 1) := by decide +kernel
theorem dX0_drawnBy_3 : decode cX0_drawnBy 3 = .ok (.istore 4, 2) := by decide +kernel
theorem dX0_drawnBy_5 : decode cX0_drawnBy 5 = .ok (.iload 4, 2) := by decide +kernel
theorem dX0_drawnBy_7 : decode cX0_drawnBy 7 = .ok (.aload_n 1, 1) := by decide +kernel
theorem dX0_drawnBy_8 : decode cX0_drawnBy 8 = .ok (.getfield 95, 3) := by decide +kernel
theorem dX0_drawnBy_11 : decode cX0_drawnBy 11 = .ok (.if_icmp .ge 30, 3) := by decide +kernel
theorem dX0_drawnBy_14 : decode cX0_drawnBy 14 = .ok (.iload_n 3, 1) := by decide +kernel
theorem dX0_drawnBy_15 : decode cX0_drawnBy 15 = .ok (.iload 4, 2) := by decide +kernel
theorem dX0_drawnBy_17 : decode cX0_drawnBy 17 = .ok (.iload_n 2, 1) := by decide +kernel
theorem dX0_drawnBy_18 : decode cX0_drawnBy 18 = .ok (.if_icmp .ne 7, 3) := by decide +kernel
theorem dX0_drawnBy_21 : decode cX0_drawnBy 21 = .ok (.iconst 0, 1) := by decide +kernel
theorem dX0_drawnBy_22 : decode cX0_drawnBy 22 = .ok (.goto 11, 3) := by decide +kernel
theorem dX0_drawnBy_25 : decode cX0_drawnBy 25 = .ok (.aload_n 0, 1) := by decide +kernel
theorem dX0_drawnBy_26 : decode cX0_drawnBy 26 = .ok (.aload_n 1, 1) := by decide +kernel
theorem dX0_drawnBy_27 : decode cX0_drawnBy 27 = .ok (.iload 4, 2) := by decide +kernel
theorem dX0_drawnBy_29 : decode cX0_drawnBy 29 = .ok (.iconst 0, 1) := by decide +kernel
theorem dX0_drawnBy_30 : decode cX0_drawnBy 30 = .ok (.invokevirtual 115, 3) := by decide +kernel
theorem dX0_drawnBy_33 : decode cX0_drawnBy 33 = .ok (.iadd, 1) := by decide +kernel
theorem dX0_drawnBy_34 : decode cX0_drawnBy 34 = .ok (.istore_n 3, 1) := by decide +kernel
theorem dX0_drawnBy_35 : decode cX0_drawnBy 35 = .ok (.iinc 4 1, 3) := by decide +kernel
theorem dX0_drawnBy_38 : decode cX0_drawnBy 38 = .ok (.goto (-33), 3) := by decide +kernel
theorem dX0_drawnBy_41 : decode cX0_drawnBy 41 = .ok (.iload_n 3, 1) := by decide +kernel
theorem dX0_drawnBy_42 : decode cX0_drawnBy 42 = .ok (.ireturn, 1) := by decide +kernel
theorem dX0_whoDraws_0 : decode cX0_whoDraws 0 = .ok (.bipush (-2), 2) := by decide +kernel
theorem dX0_whoDraws_2 : decode cX0_whoDraws 2 = .ok (.istore_n 1, 1) := by decide +kernel
theorem dX0_whoDraws_3 : decode cX0_whoDraws 3 = .ok (.iconst 0, 1) := by decide +kernel
theorem dX0_whoDraws_4 : decode cX0_whoDraws 4 = .ok (.istore_n 2, 1) := by decide +kernel
theorem dX0_whoDraws_5 : decode cX0_whoDraws 5 = .ok (.iconst 0, 1) := by decide +kernel
theorem dX0_whoDraws_6 : decode cX0_whoDraws 6 = .ok (.istore_n 3, 1) := by decide +kernel
theorem dX0_whoDraws_7 : decode cX0_whoDraws 7 = .ok (.iload_n 3, 1) := by decide +kernel
theorem dX0_whoDraws_8 : decode cX0_whoDraws 8 = .ok (.aload_n 0, 1) := by decide +kernel
theorem dX0_whoDraws_9 : decode cX0_whoDraws 9 = .ok (.getfield 31, 3) := by decide +kernel
theorem dX0_whoDraws_12 : decode cX0_whoDraws 12 = .ok (.arraylength, 1) := by decide +kernel
theorem dX0_whoDraws_13 : decode cX0_whoDraws 13 = .ok (.if_icmp .ge 28, 3) := by decide +kernel
theorem dX0_whoDraws_16 : decode cX0_whoDraws 16 = .ok (.aload_n 0, 1) := by decide +kernel
theorem dX0_whoDraws_17 : decode cX0_whoDraws 17 = .ok (.getfield 31, 3) := by decide +kernel
theorem dX0_whoDraws_20 : decode cX0_whoDraws 20 = .ok (.iload_n 3, 1) := by decide +kernel
theorem dX0_whoDraws_21 : decode cX0_whoDraws 21 = .ok (.iaload, 1) := by decide +kernel
theorem dX0_whoDraws_22 : decode cX0_whoDraws 22 = .ok (.iload_n 2, 1) := by decide +kernel
theorem dX0_whoDraws_23 : decode cX0_whoDraws 23 = .ok (.if_icmp .le 12, 3) := by decide +kernel
theorem dX0_whoDraws_26 : decode cX0_whoDraws 26 = .ok (.aload_n 0, 1) := by decide +kernel
theorem dX0_whoDraws_27 : decode cX0_whoDraws 27 = .ok (.getfield 31, 3) := by decide +kernel
theorem dX0_whoDraws_30 : decode cX0_whoDraws 30 = .ok (.iload_n 3, 1) := by decide +kernel
theorem dX0_whoDraws_31 : decode cX0_whoDraws 31 = .ok (.iaload, 1) := by decide +kernel
theorem dX0_whoDraws_32 : decode cX0_whoDraws 32 = .ok (.istore_n 2, 1) := by decide +kernel
theorem dX0_whoDraws_33 : decode cX0_whoDraws 33 = .ok (.iload_n 3, 1) := by decide +kernel
theorem dX0_whoDraws_34 : decode cX0_whoDraws 34 = .ok (.istore_n 1, 1) := by decide +kernel
theorem dX0_whoDraws_35 : decode cX0_whoDraws 35 = .ok (.iinc 3 1, 3) := by decide +kernel
theorem dX0_whoDraws_38 : decode cX0_whoDraws 38 = .ok (.goto (-31), 3) := by decide +kernel
theorem dX0_whoDraws_41 : decode cX0_whoDraws 41 = .ok (.iload_n 1, 1) := by decide +kernel
theorem dX0_whoDraws_42 : decode cX0_whoDraws 42 = .ok (.ireturn, 1) := by decide +kernel
theorem dX0_flyForAnHour_0 : decode cX0_flyForAnHour 0 = .ok (.aload_n 0, 1) := by decide +kernel
theorem dX0_flyForAnHour_1 : decode cX0_flyForAnHour 1 = .ok (.invokevirtual 119, 3) := by decide +kernel
theorem dX0_flyForAnHour_4 : decode cX0_flyForAnHour 4 = .ok (.istore_n 2, 1) := by decide +kernel
theorem dX0_flyForAnHour_5 : decode cX0_flyForAnHour 5 = .ok (.iconst 0, 1) := by decide +kernel
theorem dX0_flyForAnHour_6 : decode cX0_flyForAnHour 6 = .ok (.istore_n 3, 1) := by decide +kernel
theorem dX0_flyForAnHour_7 : decode cX0_flyForAnHour 7 = .ok (.iload_n 3, 1) := by decide +kernel
theorem dX0_flyForAnHour_8 : decode cX0_flyForAnHour 8 = .ok (.aload_n 1, 1) := by decide +kernel
theorem dX0_flyForAnHour_9 : decode cX0_flyForAnHour 9 = .ok (.getfield 95, 3) := by decide +kernel
theorem dX0_flyForAnHour_12 : decode cX0_flyForAnHour 12 = .ok (.if_icmp .ge 40, 3) := by decide +kernel
theorem dX0_flyForAnHour_15 : decode cX0_flyForAnHour 15 = .ok (.iload_n 3, 1) := by decide +kernel
theorem dX0_flyForAnHour_16 : decode cX0_flyForAnHour 16 = .ok (.iload_n 2, 1) := by decide +kernel
theorem dX0_flyForAnHour_17 : decode cX0_flyForAnHour 17 = .ok (.if_icmp .eq 29, 3) := by decide +kernel
theorem dX0_flyForAnHour_20 : decode cX0_flyForAnHour 20 = .ok (.aload_n 0, 1) := by decide +kernel
theorem dX0_flyForAnHour_21 : decode cX0_flyForAnHour 21 = .ok (.iload_n 3, 1) := by decide +kernel
theorem dX0_flyForAnHour_22 : decode cX0_flyForAnHour 22 = .ok (.iload_n 2, 1) := by decide +kernel
theorem dX0_flyForAnHour_23 : decode cX0_flyForAnHour 23 = .ok (.aload_n 0, 1) := by decide +kernel
theorem dX0_flyForAnHour_24 : decode cX0_flyForAnHour 24 = .ok (.aload_n 1, 1) := by decide +kernel
theorem dX0_flyForAnHour_25 : decode cX0_flyForAnHour 25 = .ok (.iload_n 3, 1) := by decide +kernel
theorem dX0_flyForAnHour_26 : decode cX0_flyForAnHour 26 = .ok (.aload_n 0, 1) := by decide +kernel
theorem dX0_flyForAnHour_27 : decode cX0_flyForAnHour 27 = .ok (.getfield 31, 3) := by decide +kernel
theorem dX0_flyForAnHour_30 : decode cX0_flyForAnHour 30 = .ok (.iload_n 3, 1) := by decide +kernel
theorem dX0_flyForAnHour_31 : decode cX0_flyForAnHour 31 = .ok (.iaload, 1) := by decide +kernel
theorem dX0_flyForAnHour_32 : decode cX0_flyForAnHour 32 = .ok (.ifCond .le 7, 3) := by decide +kernel
theorem dX0_flyForAnHour_35 : decode cX0_flyForAnHour 35 = .ok (.iconst 1, 1) := by decide +kernel
theorem dX0_flyForAnHour_36 : decode cX0_flyForAnHour 36 = .ok (.goto 4, 3) := by decide +kernel
theorem dX0_flyForAnHour_39 : decode cX0_flyForAnHour 39 = .ok (.iconst 0, 1) := by decide +kernel
theorem dX0_flyForAnHour_40 : decode cX0_flyForAnHour 40 = .ok (.invokevirtual 115, 3) := by decide +kernel
theorem dX0_flyForAnHour_43 : decode cX0_flyForAnHour 43 = .ok (.invokevirtual 108, 3) := by decide +kernel
theorem dX0_flyForAnHour_46 : decode cX0_flyForAnHour 46 = .ok (.iinc 3 1, 3) := by decide +kernel
theorem dX0_flyForAnHour_49 : decode cX0_flyForAnHour 49 = .ok (.goto (-42), 3) := by decide +kernel
theorem dX0_flyForAnHour_52 : decode cX0_flyForAnHour 52 = .ok (.iconst 0, 1) := by decide +kernel
theorem dX0_flyForAnHour_53 : decode cX0_flyForAnHour 53 = .ok (.istore_n 3, 1) := by decide +kernel
theorem dX0_flyForAnHour_54 : decode cX0_flyForAnHour 54 = .ok (.iload_n 3, 1) := by decide +kernel
theorem dX0_flyForAnHour_55 : decode cX0_flyForAnHour 55 = .ok (.aload_n 0, 1) := by decide +kernel
theorem dX0_flyForAnHour_56 : decode cX0_flyForAnHour 56 = .ok (.getfield 31, 3) := by decide +kernel
theorem dX0_flyForAnHour_59 : decode cX0_flyForAnHour 59 = .ok (.arraylength, 1) := by decide +kernel
theorem dX0_flyForAnHour_60 : decode cX0_flyForAnHour 60 = .ok (.if_icmp .ge 19, 3) := by decide +kernel
theorem dX0_flyForAnHour_63 : decode cX0_flyForAnHour 63 = .ok (.aload_n 0, 1) := by decide +kernel
theorem dX0_flyForAnHour_64 : decode cX0_flyForAnHour 64 = .ok (.getfield 31, 3) := by decide +kernel
theorem dX0_flyForAnHour_67 : decode cX0_flyForAnHour 67 = .ok (.iload_n 3, 1) := by decide +kernel
theorem dX0_flyForAnHour_68 : decode cX0_flyForAnHour 68 = .ok (.dup2, 1) := by decide +kernel
theorem dX0_flyForAnHour_69 : decode cX0_flyForAnHour 69 = .ok (.iaload, 1) := by decide +kernel
theorem dX0_flyForAnHour_70 : decode cX0_flyForAnHour 70 = .ok (.iconst 2, 1) := by decide +kernel
theorem dX0_flyForAnHour_71 : decode cX0_flyForAnHour 71 = .ok (.idiv, 1) := by decide +kernel
theorem dX0_flyForAnHour_72 : decode cX0_flyForAnHour 72 = .ok (.iastore, 1) := by decide +kernel
theorem dX0_flyForAnHour_73 : decode cX0_flyForAnHour 73 = .ok (.iinc 3 1, 3) := by decide +kernel
theorem dX0_flyForAnHour_76 : decode cX0_flyForAnHour 76 = .ok (.goto (-22), 3) := by decide +kernel
theorem dX0_flyForAnHour_79 : decode cX0_flyForAnHour 79 = .ok (.aload_n 0, 1) := by decide +kernel
theorem dX0_flyForAnHour_80 : decode cX0_flyForAnHour 80 = .ok (.dup, 1) := by decide +kernel
theorem dX0_flyForAnHour_81 : decode cX0_flyForAnHour 81 = .ok (.getfield 15, 3) := by decide +kernel
theorem dX0_flyForAnHour_84 : decode cX0_flyForAnHour 84 = .ok (.iconst 1, 1) := by decide +kernel
theorem dX0_flyForAnHour_85 : decode cX0_flyForAnHour 85 = .ok (.iadd, 1) := by decide +kernel
theorem dX0_flyForAnHour_86 : decode cX0_flyForAnHour 86 = .ok (.putfield 15, 3) := by decide +kernel
theorem dX0_flyForAnHour_89 : decode cX0_flyForAnHour 89 = .ok (.return_, 1) := by decide +kernel
theorem dX0_isDusk_0 : decode cX0_isDusk 0 = .ok (.aload_n 1, 1) := by decide +kernel
theorem dX0_isDusk_1 : decode cX0_isDusk 1 = .ok (.getfield 122, 3) := by decide +kernel
theorem dX0_isDusk_4 : decode cX0_isDusk 4 = .ok (.ifCond .le 19, 3) := by decide +kernel
theorem dX0_isDusk_7 : decode cX0_isDusk 7 = .ok (.aload_n 0, 1) := by decide +kernel
theorem dX0_isDusk_8 : decode cX0_isDusk 8 = .ok (.getfield 15, 3) := by decide +kernel
theorem dX0_isDusk_11 : decode cX0_isDusk 11 = .ok (.aload_n 1, 1) := by decide +kernel
theorem dX0_isDusk_12 : decode cX0_isDusk 12 = .ok (.getfield 122, 3) := by decide +kernel
theorem dX0_isDusk_15 : decode cX0_isDusk 15 = .ok (.irem, 1) := by decide +kernel
theorem dX0_isDusk_16 : decode cX0_isDusk 16 = .ok (.ifCond .ne 7, 3) := by decide +kernel
theorem dX0_isDusk_19 : decode cX0_isDusk 19 = .ok (.iconst 1, 1) := by decide +kernel
theorem dX0_isDusk_20 : decode cX0_isDusk 20 = .ok (.goto 4, 3) := by decide +kernel
theorem dX0_isDusk_23 : decode cX0_isDusk 23 = .ok (.iconst 0, 1) := by decide +kernel
theorem dX0_isDusk_24 : decode cX0_isDusk 24 = .ok (.ireturn, 1) := by decide +kernel
theorem dX0_passHour_0 : decode cX0_passHour 0 = .ok (.aload_n 0, 1) := by decide +kernel
theorem dX0_passHour_1 : decode cX0_passHour 1 = .ok (.aload_n 1, 1) := by decide +kernel
theorem dX0_passHour_2 : decode cX0_passHour 2 = .ok (.invokevirtual 125, 3) := by decide +kernel
theorem dX0_passHour_5 : decode cX0_passHour 5 = .ok (.aload_n 0, 1) := by decide +kernel
theorem dX0_passHour_6 : decode cX0_passHour 6 = .ok (.aload_n 1, 1) := by decide +kernel
theorem dX0_passHour_7 : decode cX0_passHour 7 = .ok (.invokevirtual 129, 3) := by decide +kernel
theorem dX0_passHour_10 : decode cX0_passHour 10 = .ok (.ifCond .eq 8, 3) := by decide +kernel
theorem dX0_passHour_13 : decode cX0_passHour 13 = .ok (.aload_n 0, 1) := by decide +kernel
theorem dX0_passHour_14 : decode cX0_passHour 14 = .ok (.aload_n 1, 1) := by decide +kernel
theorem dX0_passHour_15 : decode cX0_passHour 15 = .ok (.invokevirtual 133, 3) := by decide +kernel
theorem dX0_passHour_18 : decode cX0_passHour 18 = .ok (.return_, 1) := by decide +kernel
theorem dX0_goHome_0 : decode cX0_goHome 0 = .ok (.iconst 0, 1) := by decide +kernel
theorem dX0_goHome_1 : decode cX0_goHome 1 = .ok (.istore_n 2, 1) := by decide +kernel
theorem dX0_goHome_2 : decode cX0_goHome 2 = .ok (.iload_n 2, 1) := by decide +kernel
theorem dX0_goHome_3 : decode cX0_goHome 3 = .ok (.aload_n 1, 1) := by decide +kernel
theorem dX0_goHome_4 : decode cX0_goHome 4 = .ok (.getfield 95, 3) := by decide +kernel
theorem dX0_goHome_7 : decode cX0_goHome 7 = .ok (.if_icmp .ge 32, 3) := by decide +kernel
theorem dX0_goHome_10 : decode cX0_goHome 10 = .ok (.aload_n 1, 1) := by decide +kernel
theorem dX0_goHome_11 : decode cX0_goHome 11 = .ok (.getfield 112, 3) := by decide +kernel
theorem dX0_goHome_14 : decode cX0_goHome 14 = .ok (.iload_n 2, 1) := by decide +kernel
theorem dX0_goHome_15 : decode cX0_goHome 15 = .ok (.iaload, 1) := by decide +kernel
theorem dX0_goHome_16 : decode cX0_goHome 16 = .ok (.iconst 2, 1) := by decide +kernel
theorem dX0_goHome_17 : decode cX0_goHome 17 = .ok (.if_icmp .eq 16, 3) := by decide +kernel
theorem dX0_goHome_20 : decode cX0_goHome 20 = .ok (.aload_n 0, 1) := by decide +kernel
theorem dX0_goHome_21 : decode cX0_goHome 21 = .ok (.iload_n 2, 1) := by decide +kernel
theorem dX0_goHome_22 : decode cX0_goHome 22 = .ok (.bipush (-2), 2) := by decide +kernel
theorem dX0_goHome_24 : decode cX0_goHome 24 = .ok (.aload_n 0, 1) := by decide +kernel
theorem dX0_goHome_25 : decode cX0_goHome 25 = .ok (.getfield 27, 3) := by decide +kernel
theorem dX0_goHome_28 : decode cX0_goHome 28 = .ok (.iload_n 2, 1) := by decide +kernel
theorem dX0_goHome_29 : decode cX0_goHome 29 = .ok (.iaload, 1) := by decide +kernel
theorem dX0_goHome_30 : decode cX0_goHome 30 = .ok (.invokevirtual 108, 3) := by decide +kernel
theorem dX0_goHome_33 : decode cX0_goHome 33 = .ok (.iinc 2 1, 3) := by decide +kernel
theorem dX0_goHome_36 : decode cX0_goHome 36 = .ok (.goto (-34), 3) := by decide +kernel
theorem dX0_goHome_39 : decode cX0_goHome 39 = .ok (.return_, 1) := by decide +kernel
theorem dX1_init_0 : decode cX1_init 0 = .ok (.aload_n 0, 1) := by decide +kernel
theorem dX1_init_1 : decode cX1_init 1 = .ok (.invokespecial 3, 3) := by decide +kernel
theorem dX1_init_4 : decode cX1_init 4 = .ok (.aload_n 0, 1) := by decide +kernel
theorem dX1_init_5 : decode cX1_init 5 = .ok (.iconst 0, 1) := by decide +kernel
theorem dX1_init_6 : decode cX1_init 6 = .ok (.putfield 9, 3) := by decide +kernel
theorem dX1_init_9 : decode cX1_init 9 = .ok (.aload_n 0, 1) := by decide +kernel
theorem dX1_init_10 : decode cX1_init 10 = .ok (.iconst 0, 1) := by decide +kernel
theorem dX1_init_11 : decode cX1_init 11 = .ok (.putfield 15, 3) := by decide +kernel
theorem dX1_init_14 : decode cX1_init 14 = .ok (.aload_n 0, 1) := by decide +kernel
theorem dX1_init_15 : decode cX1_init 15 = .ok (.iconst 0, 1) := by decide +kernel
theorem dX1_init_16 : decode cX1_init 16 = .ok (.putfield 19, 3) := by decide +kernel
theorem dX1_init_19 : decode cX1_init 19 = .ok (.aload_n 0, 1) := by decide +kernel
theorem dX1_init_20 : decode cX1_init 20 = .ok (.iconst 0, 1) := by decide +kernel
theorem dX1_init_21 : decode cX1_init 21 = .ok (.putfield 22, 3) := by decide +kernel
theorem dX1_init_24 : decode cX1_init 24 = .ok (.aload_n 0, 1) := by decide +kernel
theorem dX1_init_25 : decode cX1_init 25 = .ok (.iconst 0, 1) := by decide +kernel
theorem dX1_init_26 : decode cX1_init 26 = .ok (.putfield 25, 3) := by decide +kernel
theorem dX1_init_29 : decode cX1_init 29 = .ok (.aload_n 0, 1) := by decide +kernel
theorem dX1_init_30 : decode cX1_init 30 = .ok (.bipush 7, 2) := by decide +kernel
theorem dX1_init_32 : decode cX1_init 32 = .ok (.newarray .int, 2) := by decide +kernel
theorem dX1_init_34 : decode cX1_init 34 = .ok (.putfield 28, 3) := by decide +kernel
theorem dX1_init_37 : decode cX1_init 37 = .ok (.aload_n 0, 1) := by decide +kernel
theorem dX1_init_38 : decode cX1_init 38 = .ok (.bipush 7, 2) := by decide +kernel
theorem dX1_init_40 : decode cX1_init 40 = .ok (.newarray .int, 2) := by decide +kernel
theorem dX1_init_42 : decode cX1_init 42 = .ok (.putfield 32, 3) := by decide +kernel
theorem dX1_init_45 : decode cX1_init 45 = .ok (.aload_n 0, 1) := by decide +kernel
theorem dX1_init_46 : decode cX1_init 46 = .ok (.bipush 7, 2) := by decide +kernel
theorem dX1_init_48 : decode cX1_init 48 = .ok (.newarray .int, 2) := by decide +kernel
theorem dX1_init_50 : decode cX1_init 50 = .ok (.putfield 35, 3) := by decide +kernel
theorem dX1_init_53 : decode cX1_init 53 = .ok (.aload_n 0, 1) := by decide +kernel
theorem dX1_init_54 : decode cX1_init 54 = .ok (.bipush 9, 2) := by decide +kernel
theorem dX1_init_56 : decode cX1_init 56 = .ok (.newarray .int, 2) := by decide +kernel
theorem dX1_init_58 : decode cX1_init 58 = .ok (.putfield 38, 3) := by decide +kernel
theorem dX1_init_61 : decode cX1_init 61 = .ok (.aload_n 0, 1) := by decide +kernel
theorem dX1_init_62 : decode cX1_init 62 = .ok (.bipush 9, 2) := by decide +kernel
theorem dX1_init_64 : decode cX1_init 64 = .ok (.newarray .int, 2) := by decide +kernel
theorem dX1_init_66 : decode cX1_init 66 = .ok (.putfield 41, 3) := by decide +kernel
theorem dX1_init_69 : decode cX1_init 69 = .ok (.aload_n 0, 1) := by decide +kernel
theorem dX1_init_70 : decode cX1_init 70 = .ok (.bipush 9, 2) := by decide +kernel
theorem dX1_init_72 : decode cX1_init 72 = .ok (.newarray .int, 2) := by decide +kernel
theorem dX1_init_74 : decode cX1_init 74 = .ok (.putfield 44, 3) := by decide +kernel
theorem dX1_init_77 : decode cX1_init 77 = .ok (.return_, 1) := by decide +kernel
theorem dX1_clear_0 : decode cX1_clear 0 = .ok (.aload_n 0, 1) := by decide +kernel
theorem dX1_clear_1 : decode cX1_clear 1 = .ok (.iconst 0, 1) := by decide +kernel
theorem dX1_clear_2 : decode cX1_clear 2 = .ok (.putfield 9, 3) := by decide +kernel
theorem dX1_clear_5 : decode cX1_clear 5 = .ok (.aload_n 0, 1) := by decide +kernel
theorem dX1_clear_6 : decode cX1_clear 6 = .ok (.iconst 0, 1) := by decide +kernel
theorem dX1_clear_7 : decode cX1_clear 7 = .ok (.putfield 15, 3) := by decide +kernel
theorem dX1_clear_10 : decode cX1_clear 10 = .ok (.aload_n 0, 1) := by decide +kernel
theorem dX1_clear_11 : decode cX1_clear 11 = .ok (.iconst 0, 1) := by decide +kernel
theorem dX1_clear_12 : decode cX1_clear 12 = .ok (.putfield 19, 3) := by decide +kernel
theorem dX1_clear_15 : decode cX1_clear 15 = .ok (.aload_n 0, 1) := by decide +kernel
theorem dX1_clear_16 : decode cX1_clear 16 = .ok (.iconst 0, 1) := by decide +kernel
theorem dX1_clear_17 : decode cX1_clear 17 = .ok (.putfield 22, 3) := by decide +kernel
theorem dX1_clear_20 : decode cX1_clear 20 = .ok (.aload_n 0, 1) := by decide +kernel
theorem dX1_clear_21 : decode cX1_clear 21 = .ok (.iconst 0, 1) := by decide +kernel
theorem dX1_clear_22 : decode cX1_clear 22 = .ok (.putfield 25, 3) := by decide +kernel
theorem dX1_clear_25 : decode cX1_clear 25 = .ok (.return_, 1) := by decide +kernel
theorem dX1_setTree_0 : decode cX1_setTree 0 = .ok (.aload_n 0, 1) := by decide +kernel
theorem dX1_setTree_1 : decode cX1_setTree 1 = .ok (.iconst 1, 1) := by decide +kernel
theorem dX1_setTree_2 : decode cX1_setTree 2 = .ok (.putfield 9, 3) := by decide +kernel
theorem dX1_setTree_5 : decode cX1_setTree 5 = .ok (.aload_n 0, 1) := by decide +kernel
theorem dX1_setTree_6 : decode cX1_setTree 6 = .ok (.iload_n 1, 1) := by decide +kernel
theorem dX1_setTree_7 : decode cX1_setTree 7 = .ok (.putfield 19, 3) := by decide +kernel
theorem dX1_setTree_10 : decode cX1_setTree 10 = .ok (.aload_n 0, 1) := by decide +kernel
theorem dX1_setTree_11 : decode cX1_setTree 11 = .ok (.iload_n 2, 1) := by decide +kernel
theorem dX1_setTree_12 : decode cX1_setTree 12 = .ok (.putfield 15, 3) := by decide +kernel
theorem dX1_setTree_15 : decode cX1_setTree 15 = .ok (.return_, 1) := by decide +kernel
theorem dX1_addPerson_0 : decode cX1_addPerson 0 = .ok (.aload_n 0, 1) := by decide +kernel
theorem dX1_addPerson_1 : decode cX1_addPerson 1 = .ok (.getfield 22, 3) := by decide +kernel
theorem dX1_addPerson_4 : decode cX1_addPerson 4 = .ok (.bipush 7, 2) := by decide +kernel
theorem dX1_addPerson_6 : decode cX1_addPerson 6 = .ok (.if_icmp .ge 43, 3) := by decide +kernel
theorem dX1_addPerson_9 : decode cX1_addPerson 9 = .ok (.aload_n 0, 1) := by decide +kernel
theorem dX1_addPerson_10 : decode cX1_addPerson 10 = .ok (.getfield 28, 3) := by decide +kernel
theorem dX1_addPerson_13 : decode cX1_addPerson 13 = .ok (.aload_n 0, 1) := by decide +kernel
theorem dX1_addPerson_14 : decode cX1_addPerson 14 = .ok (.getfield 22, 3) := by decide +kernel
theorem dX1_addPerson_17 : decode cX1_addPerson 17 = .ok (.iload_n 1, 1) := by decide +kernel
theorem dX1_addPerson_18 : decode cX1_addPerson 18 = .ok (.iastore, 1) := by decide +kernel
theorem dX1_addPerson_19 : decode cX1_addPerson 19 = .ok (.aload_n 0, 1) := by decide +kernel
theorem dX1_addPerson_20 : decode cX1_addPerson 20 = .ok (.getfield 32, 3) := by decide +kernel
theorem dX1_addPerson_23 : decode cX1_addPerson 23 = .ok (.aload_n 0, 1) := by decide +kernel
theorem dX1_addPerson_24 : decode cX1_addPerson 24 = .ok (.getfield 22, 3) := by decide +kernel
theorem dX1_addPerson_27 : decode cX1_addPerson 27 = .ok (.iload_n 2, 1) := by decide +kernel
theorem dX1_addPerson_28 : decode cX1_addPerson 28 = .ok (.iastore, 1) := by decide +kernel
theorem dX1_addPerson_29 : decode cX1_addPerson 29 = .ok (.aload_n 0, 1) := by decide +kernel
theorem dX1_addPerson_30 : decode cX1_addPerson 30 = .ok (.getfield 35, 3) := by decide +kernel
theorem dX1_addPerson_33 : decode cX1_addPerson 33 = .ok (.aload_n 0, 1) := by decide +kernel
theorem dX1_addPerson_34 : decode cX1_addPerson 34 = .ok (.getfield 22, 3) := by decide +kernel
theorem dX1_addPerson_37 : decode cX1_addPerson 37 = .ok (.iload_n 3, 1) := by decide +kernel
theorem dX1_addPerson_38 : decode cX1_addPerson 38 = .ok (.iastore, 1) := by decide +kernel
theorem dX1_addPerson_39 : decode cX1_addPerson 39 = .ok (.aload_n 0, 1) := by decide +kernel
theorem dX1_addPerson_40 : decode cX1_addPerson 40 = .ok (.dup, 1) := by decide +kernel
theorem dX1_addPerson_41 : decode cX1_addPerson 41 = .ok (.getfield 22, 3) := by decide +kernel
theorem dX1_addPerson_44 : decode cX1_addPerson 44 = .ok (.iconst 1, 1) := by decide +kernel
theorem dX1_addPerson_45 : decode cX1_addPerson 45 = .ok (.iadd, 1) := by decide +kernel
theorem dX1_addPerson_46 : decode cX1_addPerson 46 = .ok (.putfield 22, 3) := by decide +kernel
theorem dX1_addPerson_49 : decode cX1_addPerson 49 = .ok (.return_, 1) := by decide +kernel
theorem dX1_addDebt_0 : decode cX1_addDebt 0 = .ok (.aload_n 0, 1) := by decide +kernel
theorem dX1_addDebt_1 : decode cX1_addDebt 1 = .ok (.getfield 25, 3) := by decide +kernel
theorem dX1_addDebt_4 : decode cX1_addDebt 4 = .ok (.bipush 9, 2) := by decide +kernel
theorem dX1_addDebt_6 : decode cX1_addDebt 6 = .ok (.if_icmp .ge 43, 3) := by decide +kernel
theorem dX1_addDebt_9 : decode cX1_addDebt 9 = .ok (.aload_n 0, 1) := by decide +kernel
theorem dX1_addDebt_10 : decode cX1_addDebt 10 = .ok (.getfield 38, 3) := by decide +kernel
theorem dX1_addDebt_13 : decode cX1_addDebt 13 = .ok (.aload_n 0, 1) := by decide +kernel
theorem dX1_addDebt_14 : decode cX1_addDebt 14 = .ok (.getfield 25, 3) := by decide +kernel
theorem dX1_addDebt_17 : decode cX1_addDebt 17 = .ok (.iload_n 1, 1) := by decide +kernel
theorem dX1_addDebt_18 : decode cX1_addDebt 18 = .ok (.iastore, 1) := by decide +kernel
theorem dX1_addDebt_19 : decode cX1_addDebt 19 = .ok (.aload_n 0, 1) := by decide +kernel
theorem dX1_addDebt_20 : decode cX1_addDebt 20 = .ok (.getfield 41, 3) := by decide +kernel
theorem dX1_addDebt_23 : decode cX1_addDebt 23 = .ok (.aload_n 0, 1) := by decide +kernel
theorem dX1_addDebt_24 : decode cX1_addDebt 24 = .ok (.getfield 25, 3) := by decide +kernel
theorem dX1_addDebt_27 : decode cX1_addDebt 27 = .ok (.iload_n 2, 1) := by decide +kernel
theorem dX1_addDebt_28 : decode cX1_addDebt 28 = .ok (.iastore, 1) := by decide +kernel
theorem dX1_addDebt_29 : decode cX1_addDebt 29 = .ok (.aload_n 0, 1) := by decide +kernel
theorem dX1_addDebt_30 : decode cX1_addDebt 30 = .ok (.getfield 44, 3) := by decide +kernel
theorem dX1_addDebt_33 : decode cX1_addDebt 33 = .ok (.aload_n 0, 1) := by decide +kernel
theorem dX1_addDebt_34 : decode cX1_addDebt 34 = .ok (.getfield 25, 3) := by decide +kernel
theorem dX1_addDebt_37 : decode cX1_addDebt 37 = .ok (.iload_n 3, 1) := by decide +kernel
theorem dX1_addDebt_38 : decode cX1_addDebt 38 = .ok (.iastore, 1) := by decide +kernel
theorem dX1_addDebt_39 : decode cX1_addDebt 39 = .ok (.aload_n 0, 1) := by decide +kernel
theorem dX1_addDebt_40 : decode cX1_addDebt 40 = .ok (.dup, 1) := by decide +kernel
theorem dX1_addDebt_41 : decode cX1_addDebt 41 = .ok (.getfield 25, 3) := by decide +kernel
theorem dX1_addDebt_44 : decode cX1_addDebt 44 = .ok (.iconst 1, 1) := by decide +kernel
theorem dX1_addDebt_45 : decode cX1_addDebt 45 = .ok (.iadd, 1) := by decide +kernel
theorem dX1_addDebt_46 : decode cX1_addDebt 46 = .ok (.putfield 25, 3) := by decide +kernel
theorem dX1_addDebt_49 : decode cX1_addDebt 49 = .ok (.return_, 1) := by decide +kernel
theorem dX1_hasPerson_0 : decode cX1_hasPerson 0 = .ok (.iload_n 1, 1) := by decide +kernel
theorem dX1_hasPerson_1 : decode cX1_hasPerson 1 = .ok (.ifCond .lt 15, 3) := by decide +kernel
theorem dX1_hasPerson_4 : decode cX1_hasPerson 4 = .ok (.iload_n 1, 1) := by decide +kernel
theorem dX1_hasPerson_5 : decode cX1_hasPerson 5 = .ok (.aload_n 0, 1) := by decide +kernel
theorem dX1_hasPerson_6 : decode cX1_hasPerson 6 = .ok (.getfield 22, 3) := by decide +kernel
theorem dX1_hasPerson_9 : decode cX1_hasPerson 9 = .ok (.if_icmp .ge 7, 3) := by decide +kernel
theorem dX1_hasPerson_12 : decode cX1_hasPerson 12 = .ok (.iconst 1, 1) := by decide +kernel
theorem dX1_hasPerson_13 : decode cX1_hasPerson 13 = .ok (.goto 4, 3) := by decide +kernel
theorem dX1_hasPerson_16 : decode cX1_hasPerson 16 = .ok (.iconst 0, 1) := by decide +kernel
theorem dX1_hasPerson_17 : decode cX1_hasPerson 17 = .ok (.ireturn, 1) := by decide +kernel
theorem dX1_hasDebt_0 : decode cX1_hasDebt 0 = .ok (.iload_n 1, 1) := by decide +kernel
theorem dX1_hasDebt_1 : decode cX1_hasDebt 1 = .ok (.ifCond .lt 15, 3) := by decide +kernel
theorem dX1_hasDebt_4 : decode cX1_hasDebt 4 = .ok (.iload_n 1, 1) := by decide +kernel
theorem dX1_hasDebt_5 : decode cX1_hasDebt 5 = .ok (.aload_n 0, 1) := by decide +kernel
theorem dX1_hasDebt_6 : decode cX1_hasDebt 6 = .ok (.getfield 25, 3) := by decide +kernel
theorem dX1_hasDebt_9 : decode cX1_hasDebt 9 = .ok (.if_icmp .ge 7, 3) := by decide +kernel
theorem dX1_hasDebt_12 : decode cX1_hasDebt 12 = .ok (.iconst 1, 1) := by decide +kernel
theorem dX1_hasDebt_13 : decode cX1_hasDebt 13 = .ok (.goto 4, 3) := by decide +kernel
theorem dX1_hasDebt_16 : decode cX1_hasDebt 16 = .ok (.iconst 0, 1) := by decide +kernel
theorem dX1_hasDebt_17 : decode cX1_hasDebt 17 = .ok (.ireturn, 1) := by decide +kernel
theorem dX2_init_0 : decode cX2_init 0 = .ok (.aload_n 0, 1) := by decide +kernel
theorem dX2_init_1 : decode cX2_init 1 = .ok (.invokespecial 3, 3) := by decide +kernel
theorem dX2_init_4 : decode cX2_init 4 = .ok (.aload_n 0, 1) := by decide +kernel
theorem dX2_init_5 : decode cX2_init 5 = .ok (.bipush 16, 2) := by decide +kernel
theorem dX2_init_7 : decode cX2_init 7 = .ok (.anewarray 9, 3) := by decide +kernel
theorem dX2_init_10 : decode cX2_init 10 = .ok (.putfield 11, 3) := by decide +kernel
theorem dX2_init_13 : decode cX2_init 13 = .ok (.aload_n 0, 1) := by decide +kernel
theorem dX2_init_14 : decode cX2_init 14 = .ok (.iconst 0, 1) := by decide +kernel
theorem dX2_init_15 : decode cX2_init 15 = .ok (.putfield 17, 3) := by decide +kernel
theorem dX2_init_18 : decode cX2_init 18 = .ok (.aload_n 0, 1) := by decide +kernel
theorem dX2_init_19 : decode cX2_init 19 = .ok (.iconst 0, 1) := by decide +kernel
theorem dX2_init_20 : decode cX2_init 20 = .ok (.putfield 21, 3) := by decide +kernel
theorem dX2_init_23 : decode cX2_init 23 = .ok (.iconst 0, 1) := by decide +kernel
theorem dX2_init_24 : decode cX2_init 24 = .ok (.istore_n 1, 1) := by decide +kernel
theorem dX2_init_25 : decode cX2_init 25 = .ok (.iload_n 1, 1) := by decide +kernel
theorem dX2_init_26 : decode cX2_init 26 = .ok (.aload_n 0, 1) := by decide +kernel
theorem dX2_init_27 : decode cX2_init 27 = .ok (.getfield 11, 3) := by decide +kernel
theorem dX2_init_30 : decode cX2_init 30 = .ok (.arraylength, 1) := by decide +kernel
theorem dX2_init_31 : decode cX2_init 31 = .ok (.if_icmp .ge 22, 3) := by decide +kernel
theorem dX2_init_34 : decode cX2_init 34 = .ok (.aload_n 0, 1) := by decide +kernel
theorem dX2_init_35 : decode cX2_init 35 = .ok (.getfield 11, 3) := by decide +kernel
theorem dX2_init_38 : decode cX2_init 38 = .ok (.iload_n 1, 1) := by decide +kernel
theorem dX2_init_39 : decode cX2_init 39 = .ok (.new 9, 3) := by decide +kernel
theorem dX2_init_42 : decode cX2_init 42 = .ok (.dup, 1) := by decide +kernel
theorem dX2_init_43 : decode cX2_init 43 = .ok (.invokespecial 24, 3) := by decide +kernel
theorem dX2_init_46 : decode cX2_init 46 = .ok (.aastore, 1) := by decide +kernel
theorem dX2_init_47 : decode cX2_init 47 = .ok (.iinc 1 1, 3) := by decide +kernel
theorem dX2_init_50 : decode cX2_init 50 = .ok (.goto (-25), 3) := by decide +kernel
theorem dX2_init_53 : decode cX2_init 53 = .ok (.return_, 1) := by decide +kernel
theorem dX2_forget_0 : decode cX2_forget 0 = .ok (.aload_n 0, 1) := by decide +kernel
theorem dX2_forget_1 : decode cX2_forget 1 = .ok (.iconst 0, 1) := by decide +kernel
theorem dX2_forget_2 : decode cX2_forget 2 = .ok (.putfield 21, 3) := by decide +kernel
theorem dX2_forget_5 : decode cX2_forget 5 = .ok (.return_, 1) := by decide +kernel
theorem dX2_remember_0 : decode cX2_remember 0 = .ok (.aload_n 0, 1) := by decide +kernel
theorem dX2_remember_1 : decode cX2_remember 1 = .ok (.getfield 11, 3) := by decide +kernel
theorem dX2_remember_4 : decode cX2_remember 4 = .ok (.aload_n 0, 1) := by decide +kernel
theorem dX2_remember_5 : decode cX2_remember 5 = .ok (.getfield 17, 3) := by decide +kernel
theorem dX2_remember_8 : decode cX2_remember 8 = .ok (.aaload, 1) := by decide +kernel
theorem dX2_remember_9 : decode cX2_remember 9 = .ok (.aload_n 1, 1) := by decide +kernel
theorem dX2_remember_10 : decode cX2_remember 10 = .ok (.invokevirtual 25, 3) := by decide +kernel
theorem dX2_remember_13 : decode cX2_remember 13 = .ok (.aload_n 0, 1) := by decide +kernel
theorem dX2_remember_14 : decode cX2_remember 14 = .ok (.aload_n 0, 1) := by decide +kernel
theorem dX2_remember_15 : decode cX2_remember 15 = .ok (.getfield 17, 3) := by decide +kernel
theorem dX2_remember_18 : decode cX2_remember 18 = .ok (.iconst 1, 1) := by decide +kernel
theorem dX2_remember_19 : decode cX2_remember 19 = .ok (.iadd, 1) := by decide +kernel
theorem dX2_remember_20 : decode cX2_remember 20 = .ok (.bipush 16, 2) := by decide +kernel
theorem dX2_remember_22 : decode cX2_remember 22 = .ok (.irem, 1) := by decide +kernel
theorem dX2_remember_23 : decode cX2_remember 23 = .ok (.putfield 17, 3) := by decide +kernel
theorem dX2_remember_26 : decode cX2_remember 26 = .ok (.aload_n 0, 1) := by decide +kernel
theorem dX2_remember_27 : decode cX2_remember 27 = .ok (.aload_n 0, 1) := by decide +kernel
theorem dX2_remember_28 : decode cX2_remember 28 = .ok (.getfield 21, 3) := by decide +kernel
theorem dX2_remember_31 : decode cX2_remember 31 = .ok (.iconst 1, 1) := by decide +kernel
theorem dX2_remember_32 : decode cX2_remember 32 = .ok (.iadd, 1) := by decide +kernel
theorem dX2_remember_33 : decode cX2_remember 33 = .ok (.bipush 16, 2) := by decide +kernel
theorem dX2_remember_35 : decode cX2_remember 35 = .ok (.invokestatic 29, 3) := by decide +kernel
theorem dX2_remember_38 : decode cX2_remember 38 = .ok (.putfield 21, 3) := by decide +kernel
theorem dX2_remember_41 : decode cX2_remember 41 = .ok (.return_, 1) := by decide +kernel
theorem dX2_recallInto_0 : decode cX2_recallInto 0 = .ok (.aload_n 0, 1) := by decide +kernel
theorem dX2_recallInto_1 : decode cX2_recallInto 1 = .ok (.getfield 21, 3) := by decide +kernel
theorem dX2_recallInto_4 : decode cX2_recallInto 4 = .ok (.ifCond .le 42, 3) := by decide +kernel
theorem dX2_recallInto_7 : decode cX2_recallInto 7 = .ok (.aload_n 0, 1) := by decide +kernel
theorem dX2_recallInto_8 : decode cX2_recallInto 8 = .ok (.aload_n 0, 1) := by decide +kernel
theorem dX2_recallInto_9 : decode cX2_recallInto 9 = .ok (.getfield 17, 3) := by decide +kernel
theorem dX2_recallInto_12 : decode cX2_recallInto 12 = .ok (.bipush 16, 2) := by decide +kernel
theorem dX2_recallInto_14 : decode cX2_recallInto 14 = .ok (.iadd, 1) := by decide +kernel
theorem dX2_recallInto_15 : decode cX2_recallInto 15 = .ok (.iconst 1, 1) := by decide +kernel
theorem dX2_recallInto_16 : decode cX2_recallInto 16 = .ok (.isub, 1) := by decide +kernel
theorem dX2_recallInto_17 : decode cX2_recallInto 17 = .ok (.bipush 16, 2) := by decide +kernel
theorem dX2_recallInto_19 : decode cX2_recallInto 19 = .ok (.irem, 1) := by decide +kernel
theorem dX2_recallInto_20 : decode cX2_recallInto 20 = .ok (.putfield 17, 3) := by decide +kernel
theorem dX2_recallInto_23 : decode cX2_recallInto 23 = .ok (.aload_n 0, 1) := by decide +kernel
theorem dX2_recallInto_24 : decode cX2_recallInto 24 = .ok (.dup, 1) := by decide +kernel
theorem dX2_recallInto_25 : decode cX2_recallInto 25 = .ok (.getfield 21, 3) := by decide +kernel
theorem dX2_recallInto_28 : decode cX2_recallInto 28 = .ok (.iconst 1, 1) := by decide +kernel
theorem dX2_recallInto_29 : decode cX2_recallInto 29 = .ok (.isub, 1) := by decide +kernel
theorem dX2_recallInto_30 : decode cX2_recallInto 30 = .ok (.putfield 21, 3) := by decide +kernel
theorem dX2_recallInto_33 : decode cX2_recallInto 33 = .ok (.aload_n 1, 1) := by decide +kernel
theorem dX2_recallInto_34 : decode cX2_recallInto 34 = .ok (.aload_n 0, 1) := by decide +kernel
theorem dX2_recallInto_35 : decode cX2_recallInto 35 = .ok (.getfield 11, 3) := by decide +kernel
theorem dX2_recallInto_38 : decode cX2_recallInto 38 = .ok (.aload_n 0, 1) := by decide +kernel
theorem dX2_recallInto_39 : decode cX2_recallInto 39 = .ok (.getfield 17, 3) := by decide +kernel
theorem dX2_recallInto_42 : decode cX2_recallInto 42 = .ok (.aaload, 1) := by decide +kernel
theorem dX2_recallInto_43 : decode cX2_recallInto 43 = .ok (.invokevirtual 25, 3) := by decide +kernel
theorem dX2_recallInto_46 : decode cX2_recallInto 46 = .ok (.return_, 1) := by decide +kernel
theorem dX3_init_0 : decode cX3_init 0 = .ok (.aload_n 0, 1) := by decide +kernel
theorem dX3_init_1 : decode cX3_init 1 = .ok (.invokespecial 3, 3) := by decide +kernel
theorem dX3_init_4 : decode cX3_init 4 = .ok (.aload_n 0, 1) := by decide +kernel
theorem dX3_init_5 : decode cX3_init 5 = .ok (.bipush 6, 2) := by decide +kernel
theorem dX3_init_7 : decode cX3_init 7 = .ok (.newarray .int, 2) := by decide +kernel
theorem dX3_init_9 : decode cX3_init 9 = .ok (.putfield 9, 3) := by decide +kernel
theorem dX3_init_12 : decode cX3_init 12 = .ok (.aload_n 0, 1) := by decide +kernel
theorem dX3_init_13 : decode cX3_init 13 = .ok (.bipush 6, 2) := by decide +kernel
theorem dX3_init_15 : decode cX3_init 15 = .ok (.newarray .int, 2) := by decide +kernel
theorem dX3_init_17 : decode cX3_init 17 = .ok (.putfield 15, 3) := by decide +kernel
theorem dX3_init_20 : decode cX3_init 20 = .ok (.aload_n 0, 1) := by decide +kernel
theorem dX3_init_21 : decode cX3_init 21 = .ok (.bipush 6, 2) := by decide +kernel
theorem dX3_init_23 : decode cX3_init 23 = .ok (.newarray .boolean, 2) := by decide +kernel
theorem dX3_init_25 : decode cX3_init 25 = .ok (.putfield 18, 3) := by decide +kernel
theorem dX3_init_28 : decode cX3_init 28 = .ok (.aload_n 0, 1) := by decide +kernel
theorem dX3_init_29 : decode cX3_init 29 = .ok (.bipush 15, 2) := by decide +kernel
theorem dX3_init_31 : decode cX3_init 31 = .ok (.newarray .int, 2) := by decide +kernel
theorem dX3_init_33 : decode cX3_init 33 = .ok (.putfield 22, 3) := by decide +kernel
theorem dX3_init_36 : decode cX3_init 36 = .ok (.aload_n 0, 1) := by decide +kernel
theorem dX3_init_37 : decode cX3_init 37 = .ok (.bipush 15, 2) := by decide +kernel
theorem dX3_init_39 : decode cX3_init 39 = .ok (.newarray .int, 2) := by decide +kernel
theorem dX3_init_41 : decode cX3_init 41 = .ok (.putfield 25, 3) := by decide +kernel
theorem dX3_init_44 : decode cX3_init 44 = .ok (.aload_n 0, 1) := by decide +kernel
theorem dX3_init_45 : decode cX3_init 45 = .ok (.iconst 0, 1) := by decide +kernel
theorem dX3_init_46 : decode cX3_init 46 = .ok (.putfield 28, 3) := by decide +kernel
theorem dX3_init_49 : decode cX3_init 49 = .ok (.aload_n 0, 1) := by decide +kernel
theorem dX3_init_50 : decode cX3_init 50 = .ok (.iconst 0, 1) := by decide +kernel
theorem dX3_init_51 : decode cX3_init 51 = .ok (.putfield 32, 3) := by decide +kernel
theorem dX3_init_54 : decode cX3_init 54 = .ok (.aload_n 0, 1) := by decide +kernel
theorem dX3_init_55 : decode cX3_init 55 = .ok (.iconst 0, 1) := by decide +kernel
theorem dX3_init_56 : decode cX3_init 56 = .ok (.putfield 35, 3) := by decide +kernel
theorem dX3_init_59 : decode cX3_init 59 = .ok (.return_, 1) := by decide +kernel
theorem dX3_forget_0 : decode cX3_forget 0 = .ok (.aload_n 0, 1) := by decide +kernel
theorem dX3_forget_1 : decode cX3_forget 1 = .ok (.iconst 0, 1) := by decide +kernel
theorem dX3_forget_2 : decode cX3_forget 2 = .ok (.putfield 28, 3) := by decide +kernel
theorem dX3_forget_5 : decode cX3_forget 5 = .ok (.aload_n 0, 1) := by decide +kernel
theorem dX3_forget_6 : decode cX3_forget 6 = .ok (.iconst 0, 1) := by decide +kernel
theorem dX3_forget_7 : decode cX3_forget 7 = .ok (.putfield 32, 3) := by decide +kernel
theorem dX3_forget_10 : decode cX3_forget 10 = .ok (.aload_n 0, 1) := by decide +kernel
theorem dX3_forget_11 : decode cX3_forget 11 = .ok (.iconst 0, 1) := by decide +kernel
theorem dX3_forget_12 : decode cX3_forget 12 = .ok (.putfield 35, 3) := by decide +kernel
theorem dX3_forget_15 : decode cX3_forget 15 = .ok (.return_, 1) := by decide +kernel
theorem dX3_addWatched_0 : decode cX3_addWatched 0 = .ok (.aload_n 0, 1) := by decide +kernel
theorem dX3_addWatched_1 : decode cX3_addWatched 1 = .ok (.getfield 28, 3) := by decide +kernel
theorem dX3_addWatched_4 : decode cX3_addWatched 4 = .ok (.bipush 6, 2) := by decide +kernel
theorem dX3_addWatched_6 : decode cX3_addWatched 6 = .ok (.if_icmp .ge 23, 3) := by decide +kernel
theorem dX3_addWatched_9 : decode cX3_addWatched 9 = .ok (.aload_n 0, 1) := by decide +kernel
theorem dX3_addWatched_10 : decode cX3_addWatched 10 = .ok (.getfield 9, 3) := by decide +kernel
theorem dX3_addWatched_13 : decode cX3_addWatched 13 = .ok (.aload_n 0, 1) := by decide +kernel
theorem dX3_addWatched_14 : decode cX3_addWatched 14 = .ok (.getfield 28, 3) := by decide +kernel
theorem dX3_addWatched_17 : decode cX3_addWatched 17 = .ok (.iload_n 1, 1) := by decide +kernel
theorem dX3_addWatched_18 : decode cX3_addWatched 18 = .ok (.iastore, 1) := by decide +kernel
theorem dX3_addWatched_19 : decode cX3_addWatched 19 = .ok (.aload_n 0, 1) := by decide +kernel
theorem dX3_addWatched_20 : decode cX3_addWatched 20 = .ok (.dup, 1) := by decide +kernel
theorem dX3_addWatched_21 : decode cX3_addWatched 21 = .ok (.getfield 28, 3) := by decide +kernel
theorem dX3_addWatched_24 : decode cX3_addWatched 24 = .ok (.iconst 1, 1) := by decide +kernel
theorem dX3_addWatched_25 : decode cX3_addWatched 25 = .ok (.iadd, 1) := by decide +kernel
theorem dX3_addWatched_26 : decode cX3_addWatched 26 = .ok (.putfield 28, 3) := by decide +kernel
theorem dX3_addWatched_29 : decode cX3_addWatched 29 = .ok (.aload_n 0, 1) := by decide +kernel
theorem dX3_addWatched_30 : decode cX3_addWatched 30 = .ok (.getfield 28, 3) := by decide +kernel
theorem dX3_addWatched_33 : decode cX3_addWatched 33 = .ok (.ireturn, 1) := by decide +kernel
theorem dX3_addFelt_0 : decode cX3_addFelt 0 = .ok (.aload_n 0, 1) := by decide +kernel
theorem dX3_addFelt_1 : decode cX3_addFelt 1 = .ok (.getfield 32, 3) := by decide +kernel
theorem dX3_addFelt_4 : decode cX3_addFelt 4 = .ok (.bipush 6, 2) := by decide +kernel
theorem dX3_addFelt_6 : decode cX3_addFelt 6 = .ok (.if_icmp .ge 33, 3) := by decide +kernel
theorem dX3_addFelt_9 : decode cX3_addFelt 9 = .ok (.aload_n 0, 1) := by decide +kernel
theorem dX3_addFelt_10 : decode cX3_addFelt 10 = .ok (.getfield 15, 3) := by decide +kernel
theorem dX3_addFelt_13 : decode cX3_addFelt 13 = .ok (.aload_n 0, 1) := by decide +kernel
theorem dX3_addFelt_14 : decode cX3_addFelt 14 = .ok (.getfield 32, 3) := by decide +kernel
theorem dX3_addFelt_17 : decode cX3_addFelt 17 = .ok (.iload_n 1, 1) := by decide +kernel
theorem dX3_addFelt_18 : decode cX3_addFelt 18 = .ok (.iastore, 1) := by decide +kernel
theorem dX3_addFelt_19 : decode cX3_addFelt 19 = .ok (.aload_n 0, 1) := by decide +kernel
theorem dX3_addFelt_20 : decode cX3_addFelt 20 = .ok (.getfield 18, 3) := by decide +kernel
theorem dX3_addFelt_23 : decode cX3_addFelt 23 = .ok (.aload_n 0, 1) := by decide +kernel
theorem dX3_addFelt_24 : decode cX3_addFelt 24 = .ok (.getfield 32, 3) := by decide +kernel
theorem dX3_addFelt_27 : decode cX3_addFelt 27 = .ok (.iload_n 2, 1) := by decide +kernel
theorem dX3_addFelt_28 : decode cX3_addFelt 28 = .ok (.bastore, 1) := by decide +kernel
theorem dX3_addFelt_29 : decode cX3_addFelt 29 = .ok (.aload_n 0, 1) := by decide +kernel
theorem dX3_addFelt_30 : decode cX3_addFelt 30 = .ok (.dup, 1) := by decide +kernel
