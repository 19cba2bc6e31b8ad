theorem dX7_drawnBy_21 : decode cX7_drawnBy 21 = .ok (.getfield 16, 3) := by decide +kernel
theorem dX7_drawnBy_24 : decode cX7_drawnBy 24 = .ok (.bipush 14, 2) := by decide +kernel
theorem dX7_drawnBy_26 : decode cX7_drawnBy 26 = .ok (.iaload, 1) := by decide +kernel
theorem dX7_drawnBy_27 : decode cX7_drawnBy 27 = .ok (.iload_n 3, 1) := by decide +kernel
theorem dX7_drawnBy_28 : decode cX7_drawnBy 28 = .ok (.invokestatic 142, 3) := by decide +kernel
theorem dX7_drawnBy_31 : decode cX7_drawnBy 31 = .ok (.ifCond .eq 7, 3) := by decide +kernel
theorem dX7_drawnBy_34 : decode cX7_drawnBy 34 = .ok (.iconst 0, 1) := by decide +kernel
theorem dX7_drawnBy_35 : decode cX7_drawnBy 35 = .ok (.goto 23, 3) := by decide +kernel
theorem dX7_drawnBy_38 : decode cX7_drawnBy 38 = .ok (.aload_n 0, 1) := by decide +kernel
theorem dX7_drawnBy_39 : decode cX7_drawnBy 39 = .ok (.getfield 7, 3) := by decide +kernel
theorem dX7_drawnBy_42 : decode cX7_drawnBy 42 = .ok (.iconst 4, 1) := by decide +kernel
theorem dX7_drawnBy_43 : decode cX7_drawnBy 43 = .ok (.iload_n 3, 1) := by decide +kernel
theorem dX7_drawnBy_44 : decode cX7_drawnBy 44 = .ok (.iadd, 1) := by decide +kernel
theorem dX7_drawnBy_45 : decode cX7_drawnBy 45 = .ok (.iaload, 1) := by decide +kernel
theorem dX7_drawnBy_46 : decode cX7_drawnBy 46 = .ok (.aload_n 0, 1) := by decide +kernel
theorem dX7_drawnBy_47 : decode cX7_drawnBy 47 = .ok (.getfield 16, 3) := by decide +kernel
theorem dX7_drawnBy_50 : decode cX7_drawnBy 50 = .ok (.iconst 0, 1) := by decide +kernel
theorem dX7_drawnBy_51 : decode cX7_drawnBy 51 = .ok (.iload_n 3, 1) := by decide +kernel
theorem dX7_drawnBy_52 : decode cX7_drawnBy 52 = .ok (.iadd, 1) := by decide +kernel
theorem dX7_drawnBy_53 : decode cX7_drawnBy 53 = .ok (.iaload, 1) := by decide +kernel
theorem dX7_drawnBy_54 : decode cX7_drawnBy 54 = .ok (.iconst 0, 1) := by decide +kernel
theorem dX7_drawnBy_55 : decode cX7_drawnBy 55 = .ok (.invokestatic 146, 3) := by decide +kernel
theorem dX7_drawnBy_58 : decode cX7_drawnBy 58 = .ok (.iadd, 1) := by decide +kernel
theorem dX7_drawnBy_59 : decode cX7_drawnBy 59 = .ok (.istore_n 2, 1) := by decide +kernel
theorem dX7_drawnBy_60 : decode cX7_drawnBy 60 = .ok (.iinc 3 1, 3) := by decide +kernel
theorem dX7_drawnBy_63 : decode cX7_drawnBy 63 = .ok (.goto (-59), 3) := by decide +kernel
theorem dX7_drawnBy_66 : decode cX7_drawnBy 66 = .ok (.iload_n 2, 1) := by decide +kernel
theorem dX7_drawnBy_67 : decode cX7_drawnBy 67 = .ok (.ireturn, 1) := by decide +kernel
theorem dX7_who_0 : decode cX7_who 0 = .ok (.iconst 0, 1) := by decide +kernel
theorem dX7_who_1 : decode cX7_who 1 = .ok (.istore_n 1, 1) := by decide +kernel
theorem dX7_who_2 : decode cX7_who 2 = .ok (.iconst 0, 1) := by decide +kernel
theorem dX7_who_3 : decode cX7_who 3 = .ok (.istore_n 2, 1) := by decide +kernel
theorem dX7_who_4 : decode cX7_who 4 = .ok (.iload_n 2, 1) := by decide +kernel
theorem dX7_who_5 : decode cX7_who 5 = .ok (.aload_n 0, 1) := by decide +kernel
theorem dX7_who_6 : decode cX7_who 6 = .ok (.getfield 7, 3) := by decide +kernel
theorem dX7_who_9 : decode cX7_who 9 = .ok (.iconst 2, 1) := by decide +kernel
theorem dX7_who_10 : decode cX7_who 10 = .ok (.iaload, 1) := by decide +kernel
theorem dX7_who_11 : decode cX7_who 11 = .ok (.if_icmp .ge 68, 3) := by decide +kernel
theorem dX7_who_14 : decode cX7_who 14 = .ok (.iconst 1, 1) := by decide +kernel
theorem dX7_who_15 : decode cX7_who 15 = .ok (.istore_n 3, 1) := by decide +kernel
theorem dX7_who_16 : decode cX7_who 16 = .ok (.iconst 0, 1) := by decide +kernel
theorem dX7_who_17 : decode cX7_who 17 = .ok (.istore 4, 2) := by decide +kernel
theorem dX7_who_19 : decode cX7_who 19 = .ok (.iload 4, 2) := by decide +kernel
theorem dX7_who_21 : decode cX7_who 21 = .ok (.aload_n 0, 1) := by decide +kernel
theorem dX7_who_22 : decode cX7_who 22 = .ok (.getfield 61, 3) := by decide +kernel
theorem dX7_who_25 : decode cX7_who 25 = .ok (.if_icmp .ge 34, 3) := by decide +kernel
theorem dX7_who_28 : decode cX7_who 28 = .ok (.iload_n 3, 1) := by decide +kernel
theorem dX7_who_29 : decode cX7_who 29 = .ok (.ifCond .eq 22, 3) := by decide +kernel
theorem dX7_who_32 : decode cX7_who 32 = .ok (.aload_n 0, 1) := by decide +kernel
theorem dX7_who_33 : decode cX7_who 33 = .ok (.iload_n 2, 1) := by decide +kernel
theorem dX7_who_34 : decode cX7_who 34 = .ok (.invokevirtual 162, 3) := by decide +kernel
theorem dX7_who_37 : decode cX7_who 37 = .ok (.aload_n 0, 1) := by decide +kernel
theorem dX7_who_38 : decode cX7_who 38 = .ok (.getfield 39, 3) := by decide +kernel
theorem dX7_who_41 : decode cX7_who 41 = .ok (.iload 4, 2) := by decide +kernel
theorem dX7_who_43 : decode cX7_who 43 = .ok (.iaload, 1) := by decide +kernel
theorem dX7_who_44 : decode cX7_who 44 = .ok (.if_icmp .ne 7, 3) := by decide +kernel
theorem dX7_who_47 : decode cX7_who 47 = .ok (.iconst 1, 1) := by decide +kernel
theorem dX7_who_48 : decode cX7_who 48 = .ok (.goto 4, 3) := by decide +kernel
theorem dX7_who_51 : decode cX7_who 51 = .ok (.iconst 0, 1) := by decide +kernel
theorem dX7_who_52 : decode cX7_who 52 = .ok (.istore_n 3, 1) := by decide +kernel
theorem dX7_who_53 : decode cX7_who 53 = .ok (.iinc 4 1, 3) := by decide +kernel
theorem dX7_who_56 : decode cX7_who 56 = .ok (.goto (-37), 3) := by decide +kernel
theorem dX7_who_59 : decode cX7_who 59 = .ok (.iload_n 1, 1) := by decide +kernel
theorem dX7_who_60 : decode cX7_who 60 = .ok (.iload_n 3, 1) := by decide +kernel
theorem dX7_who_61 : decode cX7_who 61 = .ok (.ifCond .eq 9, 3) := by decide +kernel
theorem dX7_who_64 : decode cX7_who 64 = .ok (.iconst 1, 1) := by decide +kernel
theorem dX7_who_65 : decode cX7_who 65 = .ok (.iload_n 2, 1) := by decide +kernel
theorem dX7_who_66 : decode cX7_who 66 = .ok (.ishl, 1) := by decide +kernel
theorem dX7_who_67 : decode cX7_who 67 = .ok (.goto 4, 3) := by decide +kernel
theorem dX7_who_70 : decode cX7_who 70 = .ok (.iconst 0, 1) := by decide +kernel
theorem dX7_who_71 : decode cX7_who 71 = .ok (.ior, 1) := by decide +kernel
theorem dX7_who_72 : decode cX7_who 72 = .ok (.istore_n 1, 1) := by decide +kernel
theorem dX7_who_73 : decode cX7_who 73 = .ok (.iinc 2 1, 3) := by decide +kernel
theorem dX7_who_76 : decode cX7_who 76 = .ok (.goto (-72), 3) := by decide +kernel
theorem dX7_who_79 : decode cX7_who 79 = .ok (.iload_n 1, 1) := by decide +kernel
theorem dX7_who_80 : decode cX7_who 80 = .ok (.ireturn, 1) := by decide +kernel
theorem dX7_told_0 : decode cX7_told 0 = .ok (.iload_n 1, 1) := by decide +kernel
theorem dX7_told_1 : decode cX7_told 1 = .ok (.tableswitch 192 0 17 #[87, 87, 87, 96, 101, 109, 117, 126, 134, 142, 150, 155, 160, 167, 172, 177, 182, 187], 87) := by decide +kernel
theorem dX7_told_88 : decode cX7_told 88 = .ok (.aload_n 0, 1) := by decide +kernel
theorem dX7_told_89 : decode cX7_told 89 = .ok (.getfield 7, 3) := by decide +kernel
theorem dX7_told_92 : decode cX7_told 92 = .ok (.iload_n 1, 1) := by decide +kernel
theorem dX7_told_93 : decode cX7_told 93 = .ok (.iconst 1, 1) := by decide +kernel
theorem dX7_told_94 : decode cX7_told 94 = .ok (.iadd, 1) := by decide +kernel
theorem dX7_told_95 : decode cX7_told 95 = .ok (.iaload, 1) := by decide +kernel
theorem dX7_told_96 : decode cX7_told 96 = .ok (.ireturn, 1) := by decide +kernel
theorem dX7_told_97 : decode cX7_told 97 = .ok (.aload_n 0, 1) := by decide +kernel
theorem dX7_told_98 : decode cX7_told 98 = .ok (.getfield 77, 3) := by decide +kernel
theorem dX7_told_101 : decode cX7_told 101 = .ok (.ireturn, 1) := by decide +kernel
theorem dX7_told_102 : decode cX7_told 102 = .ok (.aload_n 0, 1) := by decide +kernel
theorem dX7_told_103 : decode cX7_told 103 = .ok (.getfield 16, 3) := by decide +kernel
theorem dX7_told_106 : decode cX7_told 106 = .ok (.bipush 16, 2) := by decide +kernel
theorem dX7_told_108 : decode cX7_told 108 = .ok (.iaload, 1) := by decide +kernel
theorem dX7_told_109 : decode cX7_told 109 = .ok (.ireturn, 1) := by decide +kernel
theorem dX7_told_110 : decode cX7_told 110 = .ok (.aload_n 0, 1) := by decide +kernel
theorem dX7_told_111 : decode cX7_told 111 = .ok (.getfield 16, 3) := by decide +kernel
theorem dX7_told_114 : decode cX7_told 114 = .ok (.bipush 15, 2) := by decide +kernel
theorem dX7_told_116 : decode cX7_told 116 = .ok (.iaload, 1) := by decide +kernel
theorem dX7_told_117 : decode cX7_told 117 = .ok (.ireturn, 1) := by decide +kernel
theorem dX7_told_118 : decode cX7_told 118 = .ok (.aload_n 0, 1) := by decide +kernel
theorem dX7_told_119 : decode cX7_told 119 = .ok (.aload_n 0, 1) := by decide +kernel
theorem dX7_told_120 : decode cX7_told 120 = .ok (.getfield 16, 3) := by decide +kernel
theorem dX7_told_123 : decode cX7_told 123 = .ok (.invokevirtual 165, 3) := by decide +kernel
theorem dX7_told_126 : decode cX7_told 126 = .ok (.ireturn, 1) := by decide +kernel
theorem dX7_told_127 : decode cX7_told 127 = .ok (.aload_n 0, 1) := by decide +kernel
theorem dX7_told_128 : decode cX7_told 128 = .ok (.getfield 16, 3) := by decide +kernel
theorem dX7_told_131 : decode cX7_told 131 = .ok (.bipush 14, 2) := by decide +kernel
theorem dX7_told_133 : decode cX7_told 133 = .ok (.iaload, 1) := by decide +kernel
theorem dX7_told_134 : decode cX7_told 134 = .ok (.ireturn, 1) := by decide +kernel
theorem dX7_told_135 : decode cX7_told 135 = .ok (.aload_n 0, 1) := by decide +kernel
theorem dX7_told_136 : decode cX7_told 136 = .ok (.getfield 16, 3) := by decide +kernel
theorem dX7_told_139 : decode cX7_told 139 = .ok (.bipush 26, 2) := by decide +kernel
theorem dX7_told_141 : decode cX7_told 141 = .ok (.iaload, 1) := by decide +kernel
theorem dX7_told_142 : decode cX7_told 142 = .ok (.ireturn, 1) := by decide +kernel
theorem dX7_told_143 : decode cX7_told 143 = .ok (.aload_n 0, 1) := by decide +kernel
theorem dX7_told_144 : decode cX7_told 144 = .ok (.getfield 16, 3) := by decide +kernel
theorem dX7_told_147 : decode cX7_told 147 = .ok (.bipush 27, 2) := by decide +kernel
theorem dX7_told_149 : decode cX7_told 149 = .ok (.iaload, 1) := by decide +kernel
theorem dX7_told_150 : decode cX7_told 150 = .ok (.ireturn, 1) := by decide +kernel
theorem dX7_told_151 : decode cX7_told 151 = .ok (.aload_n 0, 1) := by decide +kernel
theorem dX7_told_152 : decode cX7_told 152 = .ok (.invokevirtual 168, 3) := by decide +kernel
theorem dX7_told_155 : decode cX7_told 155 = .ok (.ireturn, 1) := by decide +kernel
theorem dX7_told_156 : decode cX7_told 156 = .ok (.aload_n 0, 1) := by decide +kernel
theorem dX7_told_157 : decode cX7_told 157 = .ok (.invokevirtual 171, 3) := by decide +kernel
theorem dX7_told_160 : decode cX7_told 160 = .ok (.ireturn, 1) := by decide +kernel
theorem dX7_told_161 : decode cX7_told 161 = .ok (.aload_n 0, 1) := by decide +kernel
theorem dX7_told_162 : decode cX7_told 162 = .ok (.iconst (-1), 1) := by decide +kernel
theorem dX7_told_163 : decode cX7_told 163 = .ok (.iconst (-1), 1) := by decide +kernel
theorem dX7_told_164 : decode cX7_told 164 = .ok (.invokevirtual 174, 3) := by decide +kernel
theorem dX7_told_167 : decode cX7_told 167 = .ok (.ireturn, 1) := by decide +kernel
theorem dX7_told_168 : decode cX7_told 168 = .ok (.aload_n 0, 1) := by decide +kernel
theorem dX7_told_169 : decode cX7_told 169 = .ok (.invokevirtual 177, 3) := by decide +kernel
theorem dX7_told_172 : decode cX7_told 172 = .ok (.ireturn, 1) := by decide +kernel
theorem dX7_told_173 : decode cX7_told 173 = .ok (.aload_n 0, 1) := by decide +kernel
theorem dX7_told_174 : decode cX7_told 174 = .ok (.getfield 61, 3) := by decide +kernel
theorem dX7_told_177 : decode cX7_told 177 = .ok (.ireturn, 1) := by decide +kernel
theorem dX7_told_178 : decode cX7_told 178 = .ok (.aload_n 0, 1) := by decide +kernel
theorem dX7_told_179 : decode cX7_told 179 = .ok (.getfield 64, 3) := by decide +kernel
theorem dX7_told_182 : decode cX7_told 182 = .ok (.ireturn, 1) := by decide +kernel
theorem dX7_told_183 : decode cX7_told 183 = .ok (.aload_n 0, 1) := by decide +kernel
theorem dX7_told_184 : decode cX7_told 184 = .ok (.getfield 67, 3) := by decide +kernel
theorem dX7_told_187 : decode cX7_told 187 = .ok (.ireturn, 1) := by decide +kernel
theorem dX7_told_188 : decode cX7_told 188 = .ok (.aload_n 0, 1) := by decide +kernel
theorem dX7_told_189 : decode cX7_told 189 = .ok (.getfield 58, 3) := by decide +kernel
theorem dX7_told_192 : decode cX7_told 192 = .ok (.ireturn, 1) := by decide +kernel
theorem dX7_told_193 : decode cX7_told 193 = .ok (.ldc 76, 2) := by decide +kernel
theorem dX7_told_195 : decode cX7_told 195 = .ok (.ireturn, 1) := by decide +kernel
theorem dX7_person_0 : decode cX7_person 0 = .ok (.aload_n 0, 1) := by decide +kernel
theorem dX7_person_1 : decode cX7_person 1 = .ok (.iload_n 1, 1) := by decide +kernel
theorem dX7_person_2 : decode cX7_person 2 = .ok (.invokevirtual 180, 3) := by decide +kernel
theorem dX7_person_5 : decode cX7_person 5 = .ok (.ifCond .ne 6, 3) := by decide +kernel
theorem dX7_person_8 : decode cX7_person 8 = .ok (.ldc 183, 2) := by decide +kernel
theorem dX7_person_10 : decode cX7_person 10 = .ok (.ireturn, 1) := by decide +kernel
theorem dX7_person_11 : decode cX7_person 11 = .ok (.iload_n 2, 1) := by decide +kernel
theorem dX7_person_12 : decode cX7_person 12 = .ok (.tableswitch 154 0 9 #[56, 65, 74, 84, 94, 106, 118, 130, 137, 144], 56) := by decide +kernel
theorem dX7_person_68 : decode cX7_person 68 = .ok (.aload_n 0, 1) := by decide +kernel
theorem dX7_person_69 : decode cX7_person 69 = .ok (.getfield 7, 3) := by decide +kernel
theorem dX7_person_72 : decode cX7_person 72 = .ok (.iconst 4, 1) := by decide +kernel
theorem dX7_person_73 : decode cX7_person 73 = .ok (.iload_n 1, 1) := by decide +kernel
theorem dX7_person_74 : decode cX7_person 74 = .ok (.iadd, 1) := by decide +kernel
theorem dX7_person_75 : decode cX7_person 75 = .ok (.iaload, 1) := by decide +kernel
theorem dX7_person_76 : decode cX7_person 76 = .ok (.ireturn, 1) := by decide +kernel
theorem dX7_person_77 : decode cX7_person 77 = .ok (.aload_n 0, 1) := by decide +kernel
theorem dX7_person_78 : decode cX7_person 78 = .ok (.getfield 16, 3) := by decide +kernel
theorem dX7_person_81 : decode cX7_person 81 = .ok (.iconst 0, 1) := by decide +kernel
theorem dX7_person_82 : decode cX7_person 82 = .ok (.iload_n 1, 1) := by decide +kernel
theorem dX7_person_83 : decode cX7_person 83 = .ok (.iadd, 1) := by decide +kernel
theorem dX7_person_84 : decode cX7_person 84 = .ok (.iaload, 1) := by decide +kernel
theorem dX7_person_85 : decode cX7_person 85 = .ok (.ireturn, 1) := by decide +kernel
theorem dX7_person_86 : decode cX7_person 86 = .ok (.aload_n 0, 1) := by decide +kernel
theorem dX7_person_87 : decode cX7_person 87 = .ok (.getfield 7, 3) := by decide +kernel
theorem dX7_person_90 : decode cX7_person 90 = .ok (.bipush 18, 2) := by decide +kernel
theorem dX7_person_92 : decode cX7_person 92 = .ok (.iload_n 1, 1) := by decide +kernel
theorem dX7_person_93 : decode cX7_person 93 = .ok (.iadd, 1) := by decide +kernel
theorem dX7_person_94 : decode cX7_person 94 = .ok (.iaload, 1) := by decide +kernel
theorem dX7_person_95 : decode cX7_person 95 = .ok (.ireturn, 1) := by decide +kernel
theorem dX7_person_96 : decode cX7_person 96 = .ok (.aload_n 0, 1) := by decide +kernel
theorem dX7_person_97 : decode cX7_person 97 = .ok (.getfield 16, 3) := by decide +kernel
theorem dX7_person_100 : decode cX7_person 100 = .ok (.bipush 7, 2) := by decide +kernel
theorem dX7_person_102 : decode cX7_person 102 = .ok (.iload_n 1, 1) := by decide +kernel
theorem dX7_person_103 : decode cX7_person 103 = .ok (.iadd, 1) := by decide +kernel
theorem dX7_person_104 : decode cX7_person 104 = .ok (.iaload, 1) := by decide +kernel
theorem dX7_person_105 : decode cX7_person 105 = .ok (.ireturn, 1) := by decide +kernel
theorem dX7_person_106 : decode cX7_person 106 = .ok (.aload_n 0, 1) := by decide +kernel
theorem dX7_person_107 : decode cX7_person 107 = .ok (.getfield 16, 3) := by decide +kernel
theorem dX7_person_110 : decode cX7_person 110 = .ok (.bipush 14, 2) := by decide +kernel
theorem dX7_person_112 : decode cX7_person 112 = .ok (.iaload, 1) := by decide +kernel
theorem dX7_person_113 : decode cX7_person 113 = .ok (.iload_n 1, 1) := by decide +kernel
theorem dX7_person_114 : decode cX7_person 114 = .ok (.ishr, 1) := by decide +kernel
theorem dX7_person_115 : decode cX7_person 115 = .ok (.iconst 1, 1) := by decide +kernel
theorem dX7_person_116 : decode cX7_person 116 = .ok (.iand, 1) := by decide +kernel
theorem dX7_person_117 : decode cX7_person 117 = .ok (.ireturn, 1) := by decide +kernel
theorem dX7_person_118 : decode cX7_person 118 = .ok (.aload_n 0, 1) := by decide +kernel
theorem dX7_person_119 : decode cX7_person 119 = .ok (.getfield 16, 3) := by decide +kernel
theorem dX7_person_122 : decode cX7_person 122 = .ok (.iconst 0, 1) := by decide +kernel
theorem dX7_person_123 : decode cX7_person 123 = .ok (.iload_n 1, 1) := by decide +kernel
theorem dX7_person_124 : decode cX7_person 124 = .ok (.iadd, 1) := by decide +kernel
theorem dX7_person_125 : decode cX7_person 125 = .ok (.iaload, 1) := by decide +kernel
theorem dX7_person_126 : decode cX7_person 126 = .ok (.bipush 9, 2) := by decide +kernel
theorem dX7_person_128 : decode cX7_person 128 = .ok (.idiv, 1) := by decide +kernel
theorem dX7_person_129 : decode cX7_person 129 = .ok (.ireturn, 1) := by decide +kernel
theorem dX7_person_130 : decode cX7_person 130 = .ok (.aload_n 0, 1) := by decide +kernel
theorem dX7_person_131 : decode cX7_person 131 = .ok (.getfield 16, 3) := by decide +kernel
theorem dX7_person_134 : decode cX7_person 134 = .ok (.iconst 0, 1) := by decide +kernel
theorem dX7_person_135 : decode cX7_person 135 = .ok (.iload_n 1, 1) := by decide +kernel
theorem dX7_person_136 : decode cX7_person 136 = .ok (.iadd, 1) := by decide +kernel
theorem dX7_person_137 : decode cX7_person 137 = .ok (.iaload, 1) := by decide +kernel
theorem dX7_person_138 : decode cX7_person 138 = .ok (.bipush 9, 2) := by decide +kernel
theorem dX7_person_140 : decode cX7_person 140 = .ok (.irem, 1) := by decide +kernel
theorem dX7_person_141 : decode cX7_person 141 = .ok (.ireturn, 1) := by decide +kernel
theorem dX7_person_142 : decode cX7_person 142 = .ok (.aload_n 0, 1) := by decide +kernel
theorem dX7_person_143 : decode cX7_person 143 = .ok (.iload_n 1, 1) := by decide +kernel
theorem dX7_person_144 : decode cX7_person 144 = .ok (.iconst (-1), 1) := by decide +kernel
theorem dX7_person_145 : decode cX7_person 145 = .ok (.invokevirtual 174, 3) := by decide +kernel
theorem dX7_person_148 : decode cX7_person 148 = .ok (.ireturn, 1) := by decide +kernel
theorem dX7_person_149 : decode cX7_person 149 = .ok (.aload_n 0, 1) := by decide +kernel
theorem dX7_person_150 : decode cX7_person 150 = .ok (.iconst (-1), 1) := by decide +kernel
theorem dX7_person_151 : decode cX7_person 151 = .ok (.iload_n 1, 1) := by decide +kernel
theorem dX7_person_152 : decode cX7_person 152 = .ok (.invokevirtual 174, 3) := by decide +kernel
theorem dX7_person_155 : decode cX7_person 155 = .ok (.ireturn, 1) := by decide +kernel
theorem dX7_person_156 : decode cX7_person 156 = .ok (.aload_n 0, 1) := by decide +kernel
theorem dX7_person_157 : decode cX7_person 157 = .ok (.aload_n 0, 1) := by decide +kernel
theorem dX7_person_158 : decode cX7_person 158 = .ok (.getfield 16, 3) := by decide +kernel
theorem dX7_person_161 : decode cX7_person 161 = .ok (.iload_n 1, 1) := by decide +kernel
theorem dX7_person_162 : decode cX7_person 162 = .ok (.invokevirtual 154, 3) := by decide +kernel
theorem dX7_person_165 : decode cX7_person 165 = .ok (.ireturn, 1) := by decide +kernel
theorem dX7_person_166 : decode cX7_person 166 = .ok (.ldc 76, 2) := by decide +kernel
theorem dX7_person_168 : decode cX7_person 168 = .ok (.ireturn, 1) := by decide +kernel
theorem dX7_debt_0 : decode cX7_debt 0 = .ok (.iload_n 1, 1) := by decide +kernel
theorem dX7_debt_1 : decode cX7_debt 1 = .ok (.i2l, 1) := by decide +kernel
theorem dX7_debt_2 : decode cX7_debt 2 = .ok (.lconst 0, 1) := by decide +kernel
theorem dX7_debt_3 : decode cX7_debt 3 = .ok (.aload_n 0, 1) := by decide +kernel
theorem dX7_debt_4 : decode cX7_debt 4 = .ok (.getfield 7, 3) := by decide +kernel
theorem dX7_debt_7 : decode cX7_debt 7 = .ok (.iconst 3, 1) := by decide +kernel
theorem dX7_debt_8 : decode cX7_debt 8 = .ok (.iaload, 1) := by decide +kernel
theorem dX7_debt_9 : decode cX7_debt 9 = .ok (.iconst 1, 1) := by decide +kernel
theorem dX7_debt_10 : decode cX7_debt 10 = .ok (.isub, 1) := by decide +kernel
theorem dX7_debt_11 : decode cX7_debt 11 = .ok (.i2l, 1) := by decide +kernel
theorem dX7_debt_12 : decode cX7_debt 12 = .ok (.invokestatic 72, 3) := by decide +kernel
theorem dX7_debt_15 : decode cX7_debt 15 = .ok (.ifCond .ne 6, 3) := by decide +kernel
theorem dX7_debt_18 : decode cX7_debt 18 = .ok (.ldc 183, 2) := by decide +kernel
theorem dX7_debt_20 : decode cX7_debt 20 = .ok (.ireturn, 1) := by decide +kernel
theorem dX7_debt_21 : decode cX7_debt 21 = .ok (.iload_n 2, 1) := by decide +kernel
theorem dX7_debt_22 : decode cX7_debt 22 = .ok (.i2l, 1) := by decide +kernel
theorem dX7_debt_23 : decode cX7_debt 23 = .ok (.lconst 0, 1) := by decide +kernel
theorem dX7_debt_24 : decode cX7_debt 24 = .ok (.ldc2_w 184, 3) := by decide +kernel
theorem dX7_debt_27 : decode cX7_debt 27 = .ok (.invokestatic 72, 3) := by decide +kernel
theorem dX7_debt_30 : decode cX7_debt 30 = .ok (.ifCond .ne 6, 3) := by decide +kernel
theorem dX7_debt_33 : decode cX7_debt 33 = .ok (.ldc 76, 2) := by decide +kernel
theorem dX7_debt_35 : decode cX7_debt 35 = .ok (.ireturn, 1) := by decide +kernel
theorem dX7_debt_36 : decode cX7_debt 36 = .ok (.iload_n 2, 1) := by decide +kernel
theorem dX7_debt_37 : decode cX7_debt 37 = .ok (.iconst 2, 1) := by decide +kernel
theorem dX7_debt_38 : decode cX7_debt 38 = .ok (.if_icmp .ge 20, 3) := by decide +kernel
theorem dX7_debt_41 : decode cX7_debt 41 = .ok (.aload_n 0, 1) := by decide +kernel
theorem dX7_debt_42 : decode cX7_debt 42 = .ok (.getfield 7, 3) := by decide +kernel
theorem dX7_debt_45 : decode cX7_debt 45 = .ok (.bipush 25, 2) := by decide +kernel
theorem dX7_debt_47 : decode cX7_debt 47 = .ok (.bipush 9, 2) := by decide +kernel
theorem dX7_debt_49 : decode cX7_debt 49 = .ok (.iload_n 2, 1) := by decide +kernel
theorem dX7_debt_50 : decode cX7_debt 50 = .ok (.imul, 1) := by decide +kernel
theorem dX7_debt_51 : decode cX7_debt 51 = .ok (.iadd, 1) := by decide +kernel
theorem dX7_debt_52 : decode cX7_debt 52 = .ok (.iload_n 1, 1) := by decide +kernel
theorem dX7_debt_53 : decode cX7_debt 53 = .ok (.iadd, 1) := by decide +kernel
theorem dX7_debt_54 : decode cX7_debt 54 = .ok (.iaload, 1) := by decide +kernel
theorem dX7_debt_55 : decode cX7_debt 55 = .ok (.goto 12, 3) := by decide +kernel
theorem dX7_debt_58 : decode cX7_debt 58 = .ok (.aload_n 0, 1) := by decide +kernel
theorem dX7_debt_59 : decode cX7_debt 59 = .ok (.getfield 16, 3) := by decide +kernel
theorem dX7_debt_62 : decode cX7_debt 62 = .ok (.bipush 17, 2) := by decide +kernel
theorem dX7_debt_64 : decode cX7_debt 64 = .ok (.iload_n 1, 1) := by decide +kernel
theorem dX7_debt_65 : decode cX7_debt 65 = .ok (.iadd, 1) := by decide +kernel
theorem dX7_debt_66 : decode cX7_debt 66 = .ok (.iaload, 1) := by decide +kernel
theorem dX7_debt_67 : decode cX7_debt 67 = .ok (.ireturn, 1) := by decide +kernel
theorem dX7_trace_0 : decode cX7_trace 0 = .ok (.iload_n 1, 1) := by decide +kernel
theorem dX7_trace_1 : decode cX7_trace 1 = .ok (.i2l, 1) := by decide +kernel
theorem dX7_trace_2 : decode cX7_trace 2 = .ok (.lconst 0, 1) := by decide +kernel
theorem dX7_trace_3 : decode cX7_trace 3 = .ok (.aload_n 0, 1) := by decide +kernel
theorem dX7_trace_4 : decode cX7_trace 4 = .ok (.getfield 16, 3) := by decide +kernel
theorem dX7_trace_7 : decode cX7_trace 7 = .ok (.bipush 27, 2) := by decide +kernel
theorem dX7_trace_9 : decode cX7_trace 9 = .ok (.iaload, 1) := by decide +kernel
theorem dX7_trace_10 : decode cX7_trace 10 = .ok (.iconst 1, 1) := by decide +kernel
theorem dX7_trace_11 : decode cX7_trace 11 = .ok (.isub, 1) := by decide +kernel
theorem dX7_trace_12 : decode cX7_trace 12 = .ok (.i2l, 1) := by decide +kernel
theorem dX7_trace_13 : decode cX7_trace 13 = .ok (.invokestatic 72, 3) := by decide +kernel
theorem dX7_trace_16 : decode cX7_trace 16 = .ok (.ifCond .eq 25, 3) := by decide +kernel
theorem dX7_trace_19 : decode cX7_trace 19 = .ok (.aload_n 0, 1) := by decide +kernel
theorem dX7_trace_20 : decode cX7_trace 20 = .ok (.getfield 16, 3) := by decide +kernel
theorem dX7_trace_23 : decode cX7_trace 23 = .ok (.bipush 28, 2) := by decide +kernel
theorem dX7_trace_25 : decode cX7_trace 25 = .ok (.aload_n 0, 1) := by decide +kernel
theorem dX7_trace_26 : decode cX7_trace 26 = .ok (.getfield 16, 3) := by decide +kernel
theorem dX7_trace_29 : decode cX7_trace 29 = .ok (.bipush 27, 2) := by decide +kernel
theorem dX7_trace_31 : decode cX7_trace 31 = .ok (.iaload, 1) := by decide +kernel
theorem dX7_trace_32 : decode cX7_trace 32 = .ok (.iadd, 1) := by decide +kernel
theorem dX7_trace_33 : decode cX7_trace 33 = .ok (.iconst 1, 1) := by decide +kernel
theorem dX7_trace_34 : decode cX7_trace 34 = .ok (.isub, 1) := by decide +kernel
theorem dX7_trace_35 : decode cX7_trace 35 = .ok (.iload_n 1, 1) := by decide +kernel
theorem dX7_trace_36 : decode cX7_trace 36 = .ok (.isub, 1) := by decide +kernel
theorem dX7_trace_37 : decode cX7_trace 37 = .ok (.iaload, 1) := by decide +kernel
theorem dX7_trace_38 : decode cX7_trace 38 = .ok (.goto 4, 3) := by decide +kernel
theorem dX7_trace_41 : decode cX7_trace 41 = .ok (.iconst (-1), 1) := by decide +kernel
theorem dX7_trace_42 : decode cX7_trace 42 = .ok (.ireturn, 1) := by decide +kernel
theorem dX7_remember_0 : decode cX7_remember 0 = .ok (.aload_n 0, 1) := by decide +kernel
theorem dX7_remember_1 : decode cX7_remember 1 = .ok (.getfield 58, 3) := by decide +kernel
theorem dX7_remember_4 : decode cX7_remember 4 = .ok (.bipush 16, 2) := by decide +kernel
theorem dX7_remember_6 : decode cX7_remember 6 = .ok (.if_icmp .ne 43, 3) := by decide +kernel
theorem dX7_remember_9 : decode cX7_remember 9 = .ok (.iconst 0, 1) := by decide +kernel
theorem dX7_remember_10 : decode cX7_remember 10 = .ok (.istore_n 1, 1) := by decide +kernel
theorem dX7_remember_11 : decode cX7_remember 11 = .ok (.iload_n 1, 1) := by decide +kernel
theorem dX7_remember_12 : decode cX7_remember 12 = .ok (.sipush 720, 3) := by decide +kernel
theorem dX7_remember_15 : decode cX7_remember 15 = .ok (.if_icmp .ge 24, 3) := by decide +kernel
theorem dX7_remember_18 : decode cX7_remember 18 = .ok (.aload_n 0, 1) := by decide +kernel
theorem dX7_remember_19 : decode cX7_remember 19 = .ok (.getfield 22, 3) := by decide +kernel
theorem dX7_remember_22 : decode cX7_remember 22 = .ok (.iload_n 1, 1) := by decide +kernel
theorem dX7_remember_23 : decode cX7_remember 23 = .ok (.aload_n 0, 1) := by decide +kernel
theorem dX7_remember_24 : decode cX7_remember 24 = .ok (.getfield 22, 3) := by decide +kernel
theorem dX7_remember_27 : decode cX7_remember 27 = .ok (.iload_n 1, 1) := by decide +kernel
theorem dX7_remember_28 : decode cX7_remember 28 = .ok (.bipush 48, 2) := by decide +kernel
theorem dX7_remember_30 : decode cX7_remember 30 = .ok (.iadd, 1) := by decide +kernel
theorem dX7_remember_31 : decode cX7_remember 31 = .ok (.iaload, 1) := by decide +kernel
theorem dX7_remember_32 : decode cX7_remember 32 = .ok (.iastore, 1) := by decide +kernel
theorem dX7_remember_33 : decode cX7_remember 33 = .ok (.iinc 1 1, 3) := by decide +kernel
theorem dX7_remember_36 : decode cX7_remember 36 = .ok (.goto (-25), 3) := by decide +kernel
theorem dX7_remember_39 : decode cX7_remember 39 = .ok (.aload_n 0, 1) := by decide +kernel
theorem dX7_remember_40 : decode cX7_remember 40 = .ok (.dup, 1) := by decide +kernel
theorem dX7_remember_41 : decode cX7_remember 41 = .ok (.getfield 58, 3) := by decide +kernel
theorem dX7_remember_44 : decode cX7_remember 44 = .ok (.iconst 1, 1) := by decide +kernel
theorem dX7_remember_45 : decode cX7_remember 45 = .ok (.isub, 1) := by decide +kernel
theorem dX7_remember_46 : decode cX7_remember 46 = .ok (.putfield 58, 3) := by decide +kernel
theorem dX7_remember_49 : decode cX7_remember 49 = .ok (.aload_n 0, 1) := by decide +kernel
theorem dX7_remember_50 : decode cX7_remember 50 = .ok (.getfield 16, 3) := by decide +kernel
theorem dX7_remember_53 : decode cX7_remember 53 = .ok (.iconst 0, 1) := by decide +kernel
theorem dX7_remember_54 : decode cX7_remember 54 = .ok (.aload_n 0, 1) := by decide +kernel
theorem dX7_remember_55 : decode cX7_remember 55 = .ok (.getfield 22, 3) := by decide +kernel
theorem dX7_remember_58 : decode cX7_remember 58 = .ok (.bipush 48, 2) := by decide +kernel
theorem dX7_remember_60 : decode cX7_remember 60 = .ok (.aload_n 0, 1) := by decide +kernel
theorem dX7_remember_61 : decode cX7_remember 61 = .ok (.getfield 58, 3) := by decide +kernel
theorem dX7_remember_64 : decode cX7_remember 64 = .ok (.imul, 1) := by decide +kernel
theorem dX7_remember_65 : decode cX7_remember 65 = .ok (.bipush 48, 2) := by decide +kernel
theorem dX7_remember_67 : decode cX7_remember 67 = .ok (.invokestatic 54, 3) := by decide +kernel
theorem dX7_remember_70 : decode cX7_remember 70 = .ok (.aload_n 0, 1) := by decide +kernel
theorem dX7_remember_71 : decode cX7_remember 71 = .ok (.dup, 1) := by decide +kernel
theorem dX7_remember_72 : decode cX7_remember 72 = .ok (.getfield 58, 3) := by decide +kernel
theorem dX7_remember_75 : decode cX7_remember 75 = .ok (.iconst 1, 1) := by decide +kernel
theorem dX7_remember_76 : decode cX7_remember 76 = .ok (.iadd, 1) := by decide +kernel
theorem dX7_remember_77 : decode cX7_remember 77 = .ok (.putfield 58, 3) := by decide +kernel
theorem dX7_remember_80 : decode cX7_remember 80 = .ok (.return_, 1) := by decide +kernel
theorem dX7_count_0 : decode cX7_count 0 = .ok (.aload_n 0, 1) := by decide +kernel
theorem dX7_count_1 : decode cX7_count 1 = .ok (.iload_n 1, 1) := by decide +kernel
theorem dX7_count_2 : decode cX7_count 2 = .ok (.invokevirtual 180, 3) := by decide +kernel
theorem dX7_count_5 : decode cX7_count 5 = .ok (.ifCond .ne 6, 3) := by decide +kernel
theorem dX7_count_8 : decode cX7_count 8 = .ok (.ldc 183, 2) := by decide +kernel
theorem dX7_count_10 : decode cX7_count 10 = .ok (.ireturn, 1) := by decide +kernel
theorem dX7_count_11 : decode cX7_count 11 = .ok (.iload_n 2, 1) := by decide +kernel
theorem dX7_count_12 : decode cX7_count 12 = .ok (.i2l, 1) := by decide +kernel
theorem dX7_count_13 : decode cX7_count 13 = .ok (.lconst 1, 1) := by decide +kernel
theorem dX7_count_14 : decode cX7_count 14 = .ok (.ldc2_w 186, 3) := by decide +kernel
theorem dX7_count_17 : decode cX7_count 17 = .ok (.invokestatic 72, 3) := by decide +kernel
theorem dX7_count_20 : decode cX7_count 20 = .ok (.ifCond .ne 6, 3) := by decide +kernel
theorem dX7_count_23 : decode cX7_count 23 = .ok (.ldc 76, 2) := by decide +kernel
theorem dX7_count_25 : decode cX7_count 25 = .ok (.ireturn, 1) := by decide +kernel
theorem dX7_count_26 : decode cX7_count 26 = .ok (.aload_n 0, 1) := by decide +kernel
theorem dX7_count_27 : decode cX7_count 27 = .ok (.getfield 16, 3) := by decide +kernel
theorem dX7_count_30 : decode cX7_count 30 = .ok (.bipush 15, 2) := by decide +kernel
theorem dX7_count_32 : decode cX7_count 32 = .ok (.iaload, 1) := by decide +kernel
theorem dX7_count_33 : decode cX7_count 33 = .ok (.iload_n 2, 1) := by decide +kernel
theorem dX7_count_34 : decode cX7_count 34 = .ok (.if_icmp .ge 6, 3) := by decide +kernel
theorem dX7_count_37 : decode cX7_count 37 = .ok (.ldc 188, 2) := by decide +kernel
theorem dX7_count_39 : decode cX7_count 39 = .ok (.ireturn, 1) := by decide +kernel
theorem dX7_count_40 : decode cX7_count 40 = .ok (.aload_n 0, 1) := by decide +kernel
theorem dX7_count_41 : decode cX7_count 41 = .ok (.invokevirtual 189, 3) := by decide +kernel
theorem dX7_count_44 : decode cX7_count 44 = .ok (.aload_n 0, 1) := by decide +kernel
theorem dX7_count_45 : decode cX7_count 45 = .ok (.getfield 16, 3) := by decide +kernel
theorem dX7_count_48 : decode cX7_count 48 = .ok (.bipush (-2), 2) := by decide +kernel
theorem dX7_count_50 : decode cX7_count 50 = .ok (.iload_n 1, 1) := by decide +kernel
theorem dX7_count_51 : decode cX7_count 51 = .ok (.iload_n 2, 1) := by decide +kernel
theorem dX7_count_52 : decode cX7_count 52 = .ok (.invokestatic 158, 3) := by decide +kernel
theorem dX7_count_55 : decode cX7_count 55 = .ok (.aload_n 0, 1) := by decide +kernel
theorem dX7_count_56 : decode cX7_count 56 = .ok (.getfield 16, 3) := by decide +kernel
theorem dX7_count_59 : decode cX7_count 59 = .ok (.iconst 0, 1) := by decide +kernel
theorem dX7_count_60 : decode cX7_count 60 = .ok (.iload_n 1, 1) := by decide +kernel
theorem dX7_count_61 : decode cX7_count 61 = .ok (.iadd, 1) := by decide +kernel
theorem dX7_count_62 : decode cX7_count 62 = .ok (.iaload, 1) := by decide +kernel
theorem dX7_count_63 : decode cX7_count 63 = .ok (.ireturn, 1) := by decide +kernel
theorem dX7_pay_0 : decode cX7_pay 0 = .ok (.aload_n 0, 1) := by decide +kernel
theorem dX7_pay_1 : decode cX7_pay 1 = .ok (.iload_n 1, 1) := by decide +kernel
theorem dX7_pay_2 : decode cX7_pay 2 = .ok (.invokevirtual 180, 3) := by decide +kernel
theorem dX7_pay_5 : decode cX7_pay 5 = .ok (.ifCond .eq 16, 3) := by decide +kernel
theorem dX7_pay_8 : decode cX7_pay 8 = .ok (.aload_n 0, 1) := by decide +kernel
theorem dX7_pay_9 : decode cX7_pay 9 = .ok (.iload_n 2, 1) := by decide +kernel
theorem dX7_pay_10 : decode cX7_pay 10 = .ok (.invokevirtual 180, 3) := by decide +kernel
theorem dX7_pay_13 : decode cX7_pay 13 = .ok (.ifCond .eq 8, 3) := by decide +kernel
theorem dX7_pay_16 : decode cX7_pay 16 = .ok (.iload_n 1, 1) := by decide +kernel
theorem dX7_pay_17 : decode cX7_pay 17 = .ok (.iload_n 2, 1) := by decide +kernel
theorem dX7_pay_18 : decode cX7_pay 18 = .ok (.if_icmp .ne 6, 3) := by decide +kernel
theorem dX7_pay_21 : decode cX7_pay 21 = .ok (.ldc 183, 2) := by decide +kernel
theorem dX7_pay_23 : decode cX7_pay 23 = .ok (.ireturn, 1) := by decide +kernel
theorem dX7_pay_24 : decode cX7_pay 24 = .ok (.iload_n 3, 1) := by decide +kernel
theorem dX7_pay_25 : decode cX7_pay 25 = .ok (.i2l, 1) := by decide +kernel
theorem dX7_pay_26 : decode cX7_pay 26 = .ok (.lconst 1, 1) := by decide +kernel
theorem dX7_pay_27 : decode cX7_pay 27 = .ok (.ldc2_w 186, 3) := by decide +kernel
theorem dX7_pay_30 : decode cX7_pay 30 = .ok (.invokestatic 72, 3) := by decide +kernel
theorem dX7_pay_33 : decode cX7_pay 33 = .ok (.ifCond .ne 6, 3) := by decide +kernel
theorem dX7_pay_36 : decode cX7_pay 36 = .ok (.ldc 76, 2) := by decide +kernel
theorem dX7_pay_38 : decode cX7_pay 38 = .ok (.ireturn, 1) := by decide +kernel
theorem dX7_pay_39 : decode cX7_pay 39 = .ok (.aload_n 0, 1) := by decide +kernel
theorem dX7_pay_40 : decode cX7_pay 40 = .ok (.getfield 16, 3) := by decide +kernel
theorem dX7_pay_43 : decode cX7_pay 43 = .ok (.iconst 0, 1) := by decide +kernel
theorem dX7_pay_44 : decode cX7_pay 44 = .ok (.iload_n 1, 1) := by decide +kernel
theorem dX7_pay_45 : decode cX7_pay 45 = .ok (.iadd, 1) := by decide +kernel
theorem dX7_pay_46 : decode cX7_pay 46 = .ok (.iaload, 1) := by decide +kernel
theorem dX7_pay_47 : decode cX7_pay 47 = .ok (.iload_n 3, 1) := by decide +kernel
theorem dX7_pay_48 : decode cX7_pay 48 = .ok (.if_icmp .ge 6, 3) := by decide +kernel
theorem dX7_pay_51 : decode cX7_pay 51 = .ok (.ldc 188, 2) := by decide +kernel
theorem dX7_pay_53 : decode cX7_pay 53 = .ok (.ireturn, 1) := by decide +kernel
theorem dX7_pay_54 : decode cX7_pay 54 = .ok (.aload_n 0, 1) := by decide +kernel
theorem dX7_pay_55 : decode cX7_pay 55 = .ok (.invokevirtual 189, 3) := by decide +kernel
theorem dX7_pay_58 : decode cX7_pay 58 = .ok (.aload_n 0, 1) := by decide +kernel
theorem dX7_pay_59 : decode cX7_pay 59 = .ok (.getfield 16, 3) := by decide +kernel
theorem dX7_pay_62 : decode cX7_pay 62 = .ok (.iload_n 1, 1) := by decide +kernel
theorem dX7_pay_63 : decode cX7_pay 63 = .ok (.iload_n 2, 1) := by decide +kernel
theorem dX7_pay_64 : decode cX7_pay 64 = .ok (.iload_n 3, 1) := by decide +kernel
theorem dX7_pay_65 : decode cX7_pay 65 = .ok (.invokestatic 158, 3) := by decide +kernel
theorem dX7_pay_68 : decode cX7_pay 68 = .ok (.iload_n 3, 1) := by decide +kernel
theorem dX7_pay_69 : decode cX7_pay 69 = .ok (.istore 4, 2) := by decide +kernel
theorem dX7_pay_71 : decode cX7_pay 71 = .ok (.iconst 0, 1) := by decide +kernel
theorem dX7_pay_72 : decode cX7_pay 72 = .ok (.istore 5, 2) := by decide +kernel
theorem dX7_pay_74 : decode cX7_pay 74 = .ok (.iload 5, 2) := by decide +kernel
theorem dX7_pay_76 : decode cX7_pay 76 = .ok (.aload_n 0, 1) := by decide +kernel
theorem dX7_pay_77 : decode cX7_pay 77 = .ok (.getfield 7, 3) := by decide +kernel
theorem dX7_pay_80 : decode cX7_pay 80 = .ok (.iconst 3, 1) := by decide +kernel
theorem dX7_pay_81 : decode cX7_pay 81 = .ok (.iaload, 1) := by decide +kernel
theorem dX7_pay_82 : decode cX7_pay 82 = .ok (.if_icmp .ge 76, 3) := by decide +kernel
theorem dX7_pay_85 : decode cX7_pay 85 = .ok (.aload_n 0, 1) := by decide +kernel
theorem dX7_pay_86 : decode cX7_pay 86 = .ok (.getfield 7, 3) := by decide +kernel
theorem dX7_pay_89 : decode cX7_pay 89 = .ok (.bipush 25, 2) := by decide +kernel
theorem dX7_pay_91 : decode cX7_pay 91 = .ok (.iload 5, 2) := by decide +kernel
theorem dX7_pay_93 : decode cX7_pay 93 = .ok (.iadd, 1) := by decide +kernel
theorem dX7_pay_94 : decode cX7_pay 94 = .ok (.iaload, 1) := by decide +kernel
theorem dX7_pay_95 : decode cX7_pay 95 = .ok (.iload_n 1, 1) := by decide +kernel
theorem dX7_pay_96 : decode cX7_pay 96 = .ok (.if_icmp .ne 56, 3) := by decide +kernel
theorem dX7_pay_99 : decode cX7_pay 99 = .ok (.aload_n 0, 1) := by decide +kernel
theorem dX7_pay_100 : decode cX7_pay 100 = .ok (.getfield 7, 3) := by decide +kernel
theorem dX7_pay_103 : decode cX7_pay 103 = .ok (.bipush 34, 2) := by decide +kernel
theorem dX7_pay_105 : decode cX7_pay 105 = .ok (.iload 5, 2) := by decide +kernel
theorem dX7_pay_107 : decode cX7_pay 107 = .ok (.iadd, 1) := by decide +kernel
theorem dX7_pay_108 : decode cX7_pay 108 = .ok (.iaload, 1) := by decide +kernel
theorem dX7_pay_109 : decode cX7_pay 109 = .ok (.iload_n 2, 1) := by decide +kernel
theorem dX7_pay_110 : decode cX7_pay 110 = .ok (.if_icmp .ne 42, 3) := by decide +kernel
theorem dX7_pay_113 : decode cX7_pay 113 = .ok (.iload 4, 2) := by decide +kernel
theorem dX7_pay_115 : decode cX7_pay 115 = .ok (.aload_n 0, 1) := by decide +kernel
theorem dX7_pay_116 : decode cX7_pay 116 = .ok (.getfield 16, 3) := by decide +kernel
theorem dX7_pay_119 : decode cX7_pay 119 = .ok (.bipush 17, 2) := by decide +kernel
theorem dX7_pay_121 : decode cX7_pay 121 = .ok (.iload 5, 2) := by decide +kernel
theorem dX7_pay_123 : decode cX7_pay 123 = .ok (.iadd, 1) := by decide +kernel
theorem dX7_pay_124 : decode cX7_pay 124 = .ok (.iaload, 1) := by decide +kernel
theorem dX7_pay_125 : decode cX7_pay 125 = .ok (.invokestatic 138, 3) := by decide +kernel
theorem dX7_pay_128 : decode cX7_pay 128 = .ok (.istore 6, 2) := by decide +kernel
theorem dX7_pay_130 : decode cX7_pay 130 = .ok (.aload_n 0, 1) := by decide +kernel
theorem dX7_pay_131 : decode cX7_pay 131 = .ok (.getfield 16, 3) := by decide +kernel
theorem dX7_pay_134 : decode cX7_pay 134 = .ok (.bipush 17, 2) := by decide +kernel
theorem dX7_pay_136 : decode cX7_pay 136 = .ok (.iload 5, 2) := by decide +kernel
theorem dX7_pay_138 : decode cX7_pay 138 = .ok (.iadd, 1) := by decide +kernel
theorem dX7_pay_139 : decode cX7_pay 139 = .ok (.dup2, 1) := by decide +kernel
theorem dX7_pay_140 : decode cX7_pay 140 = .ok (.iaload, 1) := by decide +kernel
theorem dX7_pay_141 : decode cX7_pay 141 = .ok (.iload 6, 2) := by decide +kernel
theorem dX7_pay_143 : decode cX7_pay 143 = .ok (.isub, 1) := by decide +kernel
theorem dX7_pay_144 : decode cX7_pay 144 = .ok (.iastore, 1) := by decide +kernel
theorem dX7_pay_145 : decode cX7_pay 145 = .ok (.iload 4, 2) := by decide +kernel
theorem dX7_pay_147 : decode cX7_pay 147 = .ok (.iload 6, 2) := by decide +kernel
theorem dX7_pay_149 : decode cX7_pay 149 = .ok (.isub, 1) := by decide +kernel
theorem dX7_pay_150 : decode cX7_pay 150 = .ok (.istore 4, 2) := by decide +kernel
theorem dX7_pay_152 : decode cX7_pay 152 = .ok (.iinc 5 1, 3) := by decide +kernel
theorem dX7_pay_155 : decode cX7_pay 155 = .ok (.goto (-81), 3) := by decide +kernel
theorem dX7_pay_158 : decode cX7_pay 158 = .ok (.aload_n 0, 1) := by decide +kernel
theorem dX7_pay_159 : decode cX7_pay 159 = .ok (.iload_n 1, 1) := by decide +kernel
theorem dX7_pay_160 : decode cX7_pay 160 = .ok (.iload_n 2, 1) := by decide +kernel
theorem dX7_pay_161 : decode cX7_pay 161 = .ok (.invokevirtual 174, 3) := by decide +kernel
theorem dX7_pay_164 : decode cX7_pay 164 = .ok (.ireturn, 1) := by decide +kernel
theorem dX7_strews_0 : decode cX7_strews 0 = .ok (.aload_n 0, 1) := by decide +kernel
theorem dX7_strews_1 : decode cX7_strews 1 = .ok (.getfield 16, 3) := by decide +kernel
theorem dX7_strews_4 : decode cX7_strews 4 = .ok (.bipush 7, 2) := by decide +kernel
theorem dX7_strews_6 : decode cX7_strews 6 = .ok (.iload_n 1, 1) := by decide +kernel
theorem dX7_strews_7 : decode cX7_strews 7 = .ok (.iadd, 1) := by decide +kernel
theorem dX7_strews_8 : decode cX7_strews 8 = .ok (.bipush 99, 2) := by decide +kernel
theorem dX7_strews_10 : decode cX7_strews 10 = .ok (.aload_n 0, 1) := by decide +kernel
theorem dX7_strews_11 : decode cX7_strews 11 = .ok (.getfield 16, 3) := by decide +kernel
theorem dX7_strews_14 : decode cX7_strews 14 = .ok (.bipush 7, 2) := by decide +kernel
theorem dX7_strews_16 : decode cX7_strews 16 = .ok (.iload_n 1, 1) := by decide +kernel
theorem dX7_strews_17 : decode cX7_strews 17 = .ok (.iadd, 1) := by decide +kernel
theorem dX7_strews_18 : decode cX7_strews 18 = .ok (.iaload, 1) := by decide +kernel
theorem dX7_strews_19 : decode cX7_strews 19 = .ok (.iload_n 2, 1) := by decide +kernel
theorem dX7_strews_20 : decode cX7_strews 20 = .ok (.iadd, 1) := by decide +kernel
theorem dX7_strews_21 : decode cX7_strews 21 = .ok (.invokestatic 138, 3) := by decide +kernel
theorem dX7_strews_24 : decode cX7_strews 24 = .ok (.iastore, 1) := by decide +kernel
theorem dX7_strews_25 : decode cX7_strews 25 = .ok (.return_, 1) := by decide +kernel
theorem dX7_strew_0 : decode cX7_strew 0 = .ok (.aload_n 0, 1) := by decide +kernel
theorem dX7_strew_1 : decode cX7_strew 1 = .ok (.iload_n 1, 1) := by decide +kernel
theorem dX7_strew_2 : decode cX7_strew 2 = .ok (.invokevirtual 180, 3) := by decide +kernel
theorem dX7_strew_5 : decode cX7_strew 5 = .ok (.ifCond .ne 6, 3) := by decide +kernel
theorem dX7_strew_8 : decode cX7_strew 8 = .ok (.ldc 183, 2) := by decide +kernel
theorem dX7_strew_10 : decode cX7_strew 10 = .ok (.ireturn, 1) := by decide +kernel
theorem dX7_strew_11 : decode cX7_strew 11 = .ok (.iload_n 2, 1) := by decide +kernel
theorem dX7_strew_12 : decode cX7_strew 12 = .ok (.i2l, 1) := by decide +kernel
theorem dX7_strew_13 : decode cX7_strew 13 = .ok (.lconst 1, 1) := by decide +kernel
theorem dX7_strew_14 : decode cX7_strew 14 = .ok (.ldc2_w 192, 3) := by decide +kernel
theorem dX7_strew_17 : decode cX7_strew 17 = .ok (.invokestatic 72, 3) := by decide +kernel
theorem dX7_strew_20 : decode cX7_strew 20 = .ok (.ifCond .ne 6, 3) := by decide +kernel
theorem dX7_strew_23 : decode cX7_strew 23 = .ok (.ldc 76, 2) := by decide +kernel
theorem dX7_strew_25 : decode cX7_strew 25 = .ok (.ireturn, 1) := by decide +kernel
theorem dX7_strew_26 : decode cX7_strew 26 = .ok (.aload_n 0, 1) := by decide +kernel
theorem dX7_strew_27 : decode cX7_strew 27 = .ok (.invokevirtual 189, 3) := by decide +kernel
theorem dX7_strew_30 : decode cX7_strew 30 = .ok (.aload_n 0, 1) := by decide +kernel
theorem dX7_strew_31 : decode cX7_strew 31 = .ok (.iload_n 1, 1) := by decide +kernel
theorem dX7_strew_32 : decode cX7_strew 32 = .ok (.iload_n 2, 1) := by decide +kernel
theorem dX7_strew_33 : decode cX7_strew 33 = .ok (.invokevirtual 194, 3) := by decide +kernel
theorem dX7_strew_36 : decode cX7_strew 36 = .ok (.aload_n 0, 1) := by decide +kernel
theorem dX7_strew_37 : decode cX7_strew 37 = .ok (.getfield 16, 3) := by decide +kernel
theorem dX7_strew_40 : decode cX7_strew 40 = .ok (.bipush 7, 2) := by decide +kernel
theorem dX7_strew_42 : decode cX7_strew 42 = .ok (.iload_n 1, 1) := by decide +kernel
theorem dX7_strew_43 : decode cX7_strew 43 = .ok (.iadd, 1) := by decide +kernel
theorem dX7_strew_44 : decode cX7_strew 44 = .ok (.iaload, 1) := by decide +kernel
theorem dX7_strew_45 : decode cX7_strew 45 = .ok (.ireturn, 1) := by decide +kernel
theorem dX7_net_0 : decode cX7_net 0 = .ok (.aload_n 0, 1) := by decide +kernel
theorem dX7_net_1 : decode cX7_net 1 = .ok (.iload_n 1, 1) := by decide +kernel
theorem dX7_net_2 : decode cX7_net 2 = .ok (.invokevirtual 180, 3) := by decide +kernel
theorem dX7_net_5 : decode cX7_net 5 = .ok (.ifCond .ne 6, 3) := by decide +kernel
theorem dX7_net_8 : decode cX7_net 8 = .ok (.ldc 183, 2) := by decide +kernel
theorem dX7_net_10 : decode cX7_net 10 = .ok (.ireturn, 1) := by decide +kernel
theorem dX7_net_11 : decode cX7_net 11 = .ok (.aload_n 0, 1) := by decide +kernel
theorem dX7_net_12 : decode cX7_net 12 = .ok (.invokevirtual 189, 3) := by decide +kernel
theorem dX7_net_15 : decode cX7_net 15 = .ok (.aload_n 0, 1) := by decide +kernel
theorem dX7_net_16 : decode cX7_net 16 = .ok (.getfield 16, 3) := by decide +kernel
theorem dX7_net_19 : decode cX7_net 19 = .ok (.bipush 14, 2) := by decide +kernel
theorem dX7_net_21 : decode cX7_net 21 = .ok (.iaload, 1) := by decide +kernel
theorem dX7_net_22 : decode cX7_net 22 = .ok (.iload_n 1, 1) := by decide +kernel
theorem dX7_net_23 : decode cX7_net 23 = .ok (.ishr, 1) := by decide +kernel
theorem dX7_net_24 : decode cX7_net 24 = .ok (.iconst 1, 1) := by decide +kernel
theorem dX7_net_25 : decode cX7_net 25 = .ok (.iand, 1) := by decide +kernel
theorem dX7_net_26 : decode cX7_net 26 = .ok (.istore_n 3, 1) := by decide +kernel
theorem dX7_net_27 : decode cX7_net 27 = .ok (.aload_n 0, 1) := by decide +kernel
theorem dX7_net_28 : decode cX7_net 28 = .ok (.getfield 16, 3) := by decide +kernel
theorem dX7_net_31 : decode cX7_net 31 = .ok (.bipush 14, 2) := by decide +kernel
theorem dX7_net_33 : decode cX7_net 33 = .ok (.iload_n 2, 1) := by decide +kernel
theorem dX7_net_34 : decode cX7_net 34 = .ok (.ifCond .eq 17, 3) := by decide +kernel
theorem dX7_net_37 : decode cX7_net 37 = .ok (.aload_n 0, 1) := by decide +kernel
theorem dX7_net_38 : decode cX7_net 38 = .ok (.getfield 16, 3) := by decide +kernel
theorem dX7_net_41 : decode cX7_net 41 = .ok (.bipush 14, 2) := by decide +kernel
theorem dX7_net_43 : decode cX7_net 43 = .ok (.iaload, 1) := by decide +kernel
theorem dX7_net_44 : decode cX7_net 44 = .ok (.iconst 1, 1) := by decide +kernel
theorem dX7_net_45 : decode cX7_net 45 = .ok (.iload_n 1, 1) := by decide +kernel
theorem dX7_net_46 : decode cX7_net 46 = .ok (.ishl, 1) := by decide +kernel
theorem dX7_net_47 : decode cX7_net 47 = .ok (.ior, 1) := by decide +kernel
theorem dX7_net_48 : decode cX7_net 48 = .ok (.goto 16, 3) := by decide +kernel
theorem dX7_net_51 : decode cX7_net 51 = .ok (.aload_n 0, 1) := by decide +kernel
theorem dX7_net_52 : decode cX7_net 52 = .ok (.getfield 16, 3) := by decide +kernel
theorem dX7_net_55 : decode cX7_net 55 = .ok (.bipush 14, 2) := by decide +kernel
theorem dX7_net_57 : decode cX7_net 57 = .ok (.iaload, 1) := by decide +kernel
theorem dX7_net_58 : decode cX7_net 58 = .ok (.iconst 1, 1) := by decide +kernel
theorem dX7_net_59 : decode cX7_net 59 = .ok (.iload_n 1, 1) := by decide +kernel
theorem dX7_net_60 : decode cX7_net 60 = .ok (.ishl, 1) := by decide +kernel
theorem dX7_net_61 : decode cX7_net 61 = .ok (.iconst (-1), 1) := by decide +kernel
theorem dX7_net_62 : decode cX7_net 62 = .ok (.ixor, 1) := by decide +kernel
theorem dX7_net_63 : decode cX7_net 63 = .ok (.iand, 1) := by decide +kernel
theorem dX7_net_64 : decode cX7_net 64 = .ok (.iastore, 1) := by decide +kernel
theorem dX7_net_65 : decode cX7_net 65 = .ok (.iload_n 3, 1) := by decide +kernel
theorem dX7_net_66 : decode cX7_net 66 = .ok (.ireturn, 1) := by decide +kernel
theorem dX7_hawks_0 : decode cX7_hawks 0 = .ok (.iconst 0, 1) := by decide +kernel
theorem dX7_hawks_1 : decode cX7_hawks 1 = .ok (.istore_n 3, 1) := by decide +kernel
theorem dX7_hawks_2 : decode cX7_hawks 2 = .ok (.iconst 0, 1) := by decide +kernel
theorem dX7_hawks_3 : decode cX7_hawks 3 = .ok (.istore 4, 2) := by decide +kernel
theorem dX7_hawks_5 : decode cX7_hawks 5 = .ok (.iload 4, 2) := by decide +kernel
theorem dX7_hawks_7 : decode cX7_hawks 7 = .ok (.aload_n 0, 1) := by decide +kernel
theorem dX7_hawks_8 : decode cX7_hawks 8 = .ok (.getfield 7, 3) := by decide +kernel
theorem dX7_hawks_11 : decode cX7_hawks 11 = .ok (.iconst 2, 1) := by decide +kernel
theorem dX7_hawks_12 : decode cX7_hawks 12 = .ok (.iaload, 1) := by decide +kernel
theorem dX7_hawks_13 : decode cX7_hawks 13 = .ok (.if_icmp .ge 84, 3) := by decide +kernel
theorem dX7_hawks_16 : decode cX7_hawks 16 = .ok (.aload_n 0, 1) := by decide +kernel
theorem dX7_hawks_17 : decode cX7_hawks 17 = .ok (.getfield 7, 3) := by decide +kernel
theorem dX7_hawks_20 : decode cX7_hawks 20 = .ok (.bipush 18, 2) := by decide +kernel
theorem dX7_hawks_22 : decode cX7_hawks 22 = .ok (.iload 4, 2) := by decide +kernel
theorem dX7_hawks_24 : decode cX7_hawks 24 = .ok (.iadd, 1) := by decide +kernel
theorem dX7_hawks_25 : decode cX7_hawks 25 = .ok (.iaload, 1) := by decide +kernel
theorem dX7_hawks_26 : decode cX7_hawks 26 = .ok (.iload_n 1, 1) := by decide +kernel
theorem dX7_hawks_27 : decode cX7_hawks 27 = .ok (.isub, 1) := by decide +kernel
theorem dX7_hawks_28 : decode cX7_hawks 28 = .ok (.istore 5, 2) := by decide +kernel
theorem dX7_hawks_30 : decode cX7_hawks 30 = .ok (.iload 5, 2) := by decide +kernel
theorem dX7_hawks_32 : decode cX7_hawks 32 = .ok (.i2l, 1) := by decide +kernel
theorem dX7_hawks_33 : decode cX7_hawks 33 = .ok (.iload_n 2, 1) := by decide +kernel
theorem dX7_hawks_34 : decode cX7_hawks 34 = .ok (.ineg, 1) := by decide +kernel
theorem dX7_hawks_35 : decode cX7_hawks 35 = .ok (.i2l, 1) := by decide +kernel
theorem dX7_hawks_36 : decode cX7_hawks 36 = .ok (.iload_n 2, 1) := by decide +kernel
theorem dX7_hawks_37 : decode cX7_hawks 37 = .ok (.i2l, 1) := by decide +kernel
theorem dX7_hawks_38 : decode cX7_hawks 38 = .ok (.invokestatic 72, 3) := by decide +kernel
theorem dX7_hawks_41 : decode cX7_hawks 41 = .ok (.ifCond .eq 50, 3) := by decide +kernel
theorem dX7_hawks_44 : decode cX7_hawks 44 = .ok (.aload_n 0, 1) := by decide +kernel
theorem dX7_hawks_45 : decode cX7_hawks 45 = .ok (.getfield 16, 3) := by decide +kernel
theorem dX7_hawks_48 : decode cX7_hawks 48 = .ok (.bipush 14, 2) := by decide +kernel
theorem dX7_hawks_50 : decode cX7_hawks 50 = .ok (.iaload, 1) := by decide +kernel
theorem dX7_hawks_51 : decode cX7_hawks 51 = .ok (.iload 4, 2) := by decide +kernel
theorem dX7_hawks_53 : decode cX7_hawks 53 = .ok (.invokestatic 142, 3) := by decide +kernel
theorem dX7_hawks_56 : decode cX7_hawks 56 = .ok (.ifCond .ne 35, 3) := by decide +kernel
theorem dX7_hawks_59 : decode cX7_hawks 59 = .ok (.iload_n 3, 1) := by decide +kernel
theorem dX7_hawks_60 : decode cX7_hawks 60 = .ok (.aload_n 0, 1) := by decide +kernel
theorem dX7_hawks_61 : decode cX7_hawks 61 = .ok (.getfield 16, 3) := by decide +kernel
theorem dX7_hawks_64 : decode cX7_hawks 64 = .ok (.iconst 0, 1) := by decide +kernel
theorem dX7_hawks_65 : decode cX7_hawks 65 = .ok (.iload 4, 2) := by decide +kernel
theorem dX7_hawks_67 : decode cX7_hawks 67 = .ok (.iadd, 1) := by decide +kernel
theorem dX7_hawks_68 : decode cX7_hawks 68 = .ok (.iaload, 1) := by decide +kernel
theorem dX7_hawks_69 : decode cX7_hawks 69 = .ok (.iadd, 1) := by decide +kernel
theorem dX7_hawks_70 : decode cX7_hawks 70 = .ok (.istore_n 3, 1) := by decide +kernel
theorem dX7_hawks_71 : decode cX7_hawks 71 = .ok (.aload_n 0, 1) := by decide +kernel
theorem dX7_hawks_72 : decode cX7_hawks 72 = .ok (.getfield 16, 3) := by decide +kernel
theorem dX7_hawks_75 : decode cX7_hawks 75 = .ok (.iload 4, 2) := by decide +kernel
theorem dX7_hawks_77 : decode cX7_hawks 77 = .ok (.bipush (-2), 2) := by decide +kernel
theorem dX7_hawks_79 : decode cX7_hawks 79 = .ok (.aload_n 0, 1) := by decide +kernel
theorem dX7_hawks_80 : decode cX7_hawks 80 = .ok (.getfield 16, 3) := by decide +kernel
theorem dX7_hawks_83 : decode cX7_hawks 83 = .ok (.iconst 0, 1) := by decide +kernel
theorem dX7_hawks_84 : decode cX7_hawks 84 = .ok (.iload 4, 2) := by decide +kernel
theorem dX7_hawks_86 : decode cX7_hawks 86 = .ok (.iadd, 1) := by decide +kernel
theorem dX7_hawks_87 : decode cX7_hawks 87 = .ok (.iaload, 1) := by decide +kernel
theorem dX7_hawks_88 : decode cX7_hawks 88 = .ok (.invokestatic 158, 3) := by decide +kernel
theorem dX7_hawks_91 : decode cX7_hawks 91 = .ok (.iinc 4 1, 3) := by decide +kernel
theorem dX7_hawks_94 : decode cX7_hawks 94 = .ok (.goto (-89), 3) := by decide +kernel
theorem dX7_hawks_97 : decode cX7_hawks 97 = .ok (.iload_n 3, 1) := by decide +kernel
theorem dX7_hawks_98 : decode cX7_hawks 98 = .ok (.ireturn, 1) := by decide +kernel
theorem dX7_hawk_0 : decode cX7_hawk 0 = .ok (.iload_n 1, 1) := by decide +kernel
theorem dX7_hawk_1 : decode cX7_hawk 1 = .ok (.i2l, 1) := by decide +kernel
theorem dX7_hawk_2 : decode cX7_hawk 2 = .ok (.lconst 0, 1) := by decide +kernel
theorem dX7_hawk_3 : decode cX7_hawk 3 = .ok (.ldc2_w 198, 3) := by decide +kernel
theorem dX7_hawk_6 : decode cX7_hawk 6 = .ok (.invokestatic 72, 3) := by decide +kernel
theorem dX7_hawk_9 : decode cX7_hawk 9 = .ok (.ifCond .eq 15, 3) := by decide +kernel
theorem dX7_hawk_12 : decode cX7_hawk 12 = .ok (.iload_n 2, 1) := by decide +kernel
theorem dX7_hawk_13 : decode cX7_hawk 13 = .ok (.i2l, 1) := by decide +kernel
theorem dX7_hawk_14 : decode cX7_hawk 14 = .ok (.lconst 0, 1) := by decide +kernel
theorem dX7_hawk_15 : decode cX7_hawk 15 = .ok (.ldc2_w 198, 3) := by decide +kernel
theorem dX7_hawk_18 : decode cX7_hawk 18 = .ok (.invokestatic 72, 3) := by decide +kernel
theorem dX7_hawk_21 : decode cX7_hawk 21 = .ok (.ifCond .ne 6, 3) := by decide +kernel
theorem dX7_hawk_24 : decode cX7_hawk 24 = .ok (.ldc 76, 2) := by decide +kernel
theorem dX7_hawk_26 : decode cX7_hawk 26 = .ok (.ireturn, 1) := by decide +kernel
theorem dX7_hawk_27 : decode cX7_hawk 27 = .ok (.aload_n 0, 1) := by decide +kernel
theorem dX7_hawk_28 : decode cX7_hawk 28 = .ok (.getfield 7, 3) := by decide +kernel
theorem dX7_hawk_31 : decode cX7_hawk 31 = .ok (.iconst 1, 1) := by decide +kernel
theorem dX7_hawk_32 : decode cX7_hawk 32 = .ok (.iaload, 1) := by decide +kernel
theorem dX7_hawk_33 : decode cX7_hawk 33 = .ok (.ifCond .ne 6, 3) := by decide +kernel
theorem dX7_hawk_36 : decode cX7_hawk 36 = .ok (.ldc 188, 2) := by decide +kernel
theorem dX7_hawk_38 : decode cX7_hawk 38 = .ok (.ireturn, 1) := by decide +kernel
theorem dX7_hawk_39 : decode cX7_hawk 39 = .ok (.aload_n 0, 1) := by decide +kernel
theorem dX7_hawk_40 : decode cX7_hawk 40 = .ok (.invokevirtual 189, 3) := by decide +kernel
theorem dX7_hawk_43 : decode cX7_hawk 43 = .ok (.aload_n 0, 1) := by decide +kernel
theorem dX7_hawk_44 : decode cX7_hawk 44 = .ok (.iload_n 1, 1) := by decide +kernel
theorem dX7_hawk_45 : decode cX7_hawk 45 = .ok (.iload_n 2, 1) := by decide +kernel
theorem dX7_hawk_46 : decode cX7_hawk 46 = .ok (.invokevirtual 200, 3) := by decide +kernel
theorem dX7_hawk_49 : decode cX7_hawk 49 = .ok (.ireturn, 1) := by decide +kernel
theorem dX7_refuses_0 : decode cX7_refuses 0 = .ok (.iload_n 1, 1) := by decide +kernel
theorem dX7_refuses_1 : decode cX7_refuses 1 = .ok (.i2l, 1) := by decide +kernel
theorem dX7_refuses_2 : decode cX7_refuses 2 = .ok (.lconst 1, 1) := by decide +kernel
theorem dX7_refuses_3 : decode cX7_refuses 3 = .ok (.ldc2_w 203, 3) := by decide +kernel
theorem dX7_refuses_6 : decode cX7_refuses 6 = .ok (.invokestatic 72, 3) := by decide +kernel
theorem dX7_refuses_9 : decode cX7_refuses 9 = .ok (.ifCond .ne 6, 3) := by decide +kernel
theorem dX7_refuses_12 : decode cX7_refuses 12 = .ok (.ldc 76, 2) := by decide +kernel
theorem dX7_refuses_14 : decode cX7_refuses 14 = .ok (.ireturn, 1) := by decide +kernel
theorem dX7_refuses_15 : decode cX7_refuses 15 = .ok (.aload_n 0, 1) := by decide +kernel
theorem dX7_refuses_16 : decode cX7_refuses 16 = .ok (.getfield 7, 3) := by decide +kernel
theorem dX7_refuses_19 : decode cX7_refuses 19 = .ok (.iconst 1, 1) := by decide +kernel
theorem dX7_refuses_20 : decode cX7_refuses 20 = .ok (.iaload, 1) := by decide +kernel
theorem dX7_refuses_21 : decode cX7_refuses 21 = .ok (.ifCond .ne 8, 3) := by decide +kernel
theorem dX7_refuses_24 : decode cX7_refuses 24 = .ok (.ldc 188, 2) := by decide +kernel
theorem dX7_refuses_26 : decode cX7_refuses 26 = .ok (.goto 22, 3) := by decide +kernel
theorem dX7_refuses_29 : decode cX7_refuses 29 = .ok (.aload_n 0, 1) := by decide +kernel
theorem dX7_refuses_30 : decode cX7_refuses 30 = .ok (.getfield 16, 3) := by decide +kernel
theorem dX7_refuses_33 : decode cX7_refuses 33 = .ok (.bipush 16, 2) := by decide +kernel
theorem dX7_refuses_35 : decode cX7_refuses 35 = .ok (.iaload, 1) := by decide +kernel
theorem dX7_refuses_36 : decode cX7_refuses 36 = .ok (.sipush 9000, 3) := by decide +kernel
theorem dX7_refuses_39 : decode cX7_refuses 39 = .ok (.if_icmp .le 8, 3) := by decide +kernel
theorem dX7_refuses_42 : decode cX7_refuses 42 = .ok (.ldc 80, 2) := by decide +kernel
theorem dX7_refuses_44 : decode cX7_refuses 44 = .ok (.goto 4, 3) := by decide +kernel
theorem dX7_refuses_47 : decode cX7_refuses 47 = .ok (.iconst 0, 1) := by decide +kernel
theorem dX7_refuses_48 : decode cX7_refuses 48 = .ok (.ireturn, 1) := by decide +kernel
theorem dX7_hour_0 : decode cX7_hour 0 = .ok (.aload_n 0, 1) := by decide +kernel
theorem dX7_hour_1 : decode cX7_hour 1 = .ok (.iload_n 1, 1) := by decide +kernel
theorem dX7_hour_2 : decode cX7_hour 2 = .ok (.invokevirtual 205, 3) := by decide +kernel
theorem dX7_hour_5 : decode cX7_hour 5 = .ok (.istore_n 2, 1) := by decide +kernel
theorem dX7_hour_6 : decode cX7_hour 6 = .ok (.iload_n 2, 1) := by decide +kernel
theorem dX7_hour_7 : decode cX7_hour 7 = .ok (.ifCond .eq 5, 3) := by decide +kernel
theorem dX7_hour_10 : decode cX7_hour 10 = .ok (.iload_n 2, 1) := by decide +kernel
theorem dX7_hour_11 : decode cX7_hour 11 = .ok (.ireturn, 1) := by decide +kernel
theorem dX7_hour_12 : decode cX7_hour 12 = .ok (.aload_n 0, 1) := by decide +kernel
theorem dX7_hour_13 : decode cX7_hour 13 = .ok (.invokevirtual 189, 3) := by decide +kernel
theorem dX7_hour_16 : decode cX7_hour 16 = .ok (.iconst 0, 1) := by decide +kernel
theorem dX7_hour_17 : decode cX7_hour 17 = .ok (.istore_n 3, 1) := by decide +kernel
theorem dX7_hour_18 : decode cX7_hour 18 = .ok (.iload_n 3, 1) := by decide +kernel
theorem dX7_hour_19 : decode cX7_hour 19 = .ok (.iload_n 1, 1) := by decide +kernel
theorem dX7_hour_20 : decode cX7_hour 20 = .ok (.if_icmp .ge 18, 3) := by decide +kernel
theorem dX7_hour_23 : decode cX7_hour 23 = .ok (.aload_n 0, 1) := by decide +kernel
theorem dX7_hour_24 : decode cX7_hour 24 = .ok (.aload_n 0, 1) := by decide +kernel
theorem dX7_hour_25 : decode cX7_hour 25 = .ok (.getfield 16, 3) := by decide +kernel
theorem dX7_hour_28 : decode cX7_hour 28 = .ok (.iconst 1, 1) := by decide +kernel
theorem dX7_hour_29 : decode cX7_hour 29 = .ok (.invokevirtual 208, 3) := by decide +kernel
theorem dX7_hour_32 : decode cX7_hour 32 = .ok (.iinc 3 1, 3) := by decide +kernel
theorem dX7_hour_35 : decode cX7_hour 35 = .ok (.goto (-17), 3) := by decide +kernel
theorem dX7_hour_38 : decode cX7_hour 38 = .ok (.aload_n 0, 1) := by decide +kernel
theorem dX7_hour_39 : decode cX7_hour 39 = .ok (.getfield 16, 3) := by decide +kernel
theorem dX7_hour_42 : decode cX7_hour 42 = .ok (.bipush 15, 2) := by decide +kernel
theorem dX7_hour_44 : decode cX7_hour 44 = .ok (.iaload, 1) := by decide +kernel
theorem dX7_hour_45 : decode cX7_hour 45 = .ok (.ireturn, 1) := by decide +kernel
theorem dX7_draw_0 : decode cX7_draw 0 = .ok (.aload_n 0, 1) := by decide +kernel
theorem dX7_draw_1 : decode cX7_draw 1 = .ok (.aload_n 0, 1) := by decide +kernel
theorem dX7_draw_2 : decode cX7_draw 2 = .ok (.getfield 212, 3) := by decide +kernel
theorem dX7_draw_5 : decode cX7_draw 5 = .ok (.ldc2_w 216, 3) := by decide +kernel
theorem dX7_draw_8 : decode cX7_draw 8 = .ok (.lmul, 1) := by decide +kernel
theorem dX7_draw_9 : decode cX7_draw 9 = .ok (.ldc2_w 218, 3) := by decide +kernel
theorem dX7_draw_12 : decode cX7_draw 12 = .ok (.ladd, 1) := by decide +kernel
theorem dX7_draw_13 : decode cX7_draw 13 = .ok (.ldc2_w 220, 3) := by decide +kernel
theorem dX7_draw_16 : decode cX7_draw 16 = .ok (.lrem, 1) := by decide +kernel
theorem dX7_draw_17 : decode cX7_draw 17 = .ok (.putfield 212, 3) := by decide +kernel
theorem dX7_draw_20 : decode cX7_draw 20 = .ok (.aload_n 0, 1) := by decide +kernel
theorem dX7_draw_21 : decode cX7_draw 21 = .ok (.getfield 212, 3) := by decide +kernel
theorem dX7_draw_24 : decode cX7_draw 24 = .ok (.ldc2_w 222, 3) := by decide +kernel
theorem dX7_draw_27 : decode cX7_draw 27 = .ok (.ldiv, 1) := by decide +kernel
theorem dX7_draw_28 : decode cX7_draw 28 = .ok (.iload_n 1, 1) := by decide +kernel
theorem dX7_draw_29 : decode cX7_draw 29 = .ok (.i2l, 1) := by decide +kernel
theorem dX7_draw_30 : decode cX7_draw 30 = .ok (.lrem, 1) := by decide +kernel
theorem dX7_draw_31 : decode cX7_draw 31 = .ok (.l2i, 1) := by decide +kernel
theorem dX7_draw_32 : decode cX7_draw 32 = .ok (.ireturn, 1) := by decide +kernel
theorem dX7_draws_0 : decode cX7_draws 0 = .ok (.aload_n 0, 1) := by decide +kernel
theorem dX7_draws_1 : decode cX7_draws 1 = .ok (.iconst 5, 1) := by decide +kernel
theorem dX7_draws_2 : decode cX7_draws 2 = .ok (.invokevirtual 224, 3) := by decide +kernel
theorem dX7_draws_5 : decode cX7_draws 5 = .ok (.istore_n 1, 1) := by decide +kernel
theorem dX7_draws_6 : decode cX7_draws 6 = .ok (.iload_n 1, 1) := by decide +kernel
theorem dX7_draws_7 : decode cX7_draws 7 = .ok (.ifCond .ne 39, 3) := by decide +kernel
theorem dX7_draws_10 : decode cX7_draws 10 = .ok (.aload_n 0, 1) := by decide +kernel
theorem dX7_draws_11 : decode cX7_draws 11 = .ok (.aload_n 0, 1) := by decide +kernel
theorem dX7_draws_12 : decode cX7_draws 12 = .ok (.getfield 7, 3) := by decide +kernel
theorem dX7_draws_15 : decode cX7_draws 15 = .ok (.iconst 2, 1) := by decide +kernel
theorem dX7_draws_16 : decode cX7_draws 16 = .ok (.iaload, 1) := by decide +kernel
theorem dX7_draws_17 : decode cX7_draws 17 = .ok (.invokevirtual 224, 3) := by decide +kernel
theorem dX7_draws_20 : decode cX7_draws 20 = .ok (.istore_n 2, 1) := by decide +kernel
theorem dX7_draws_21 : decode cX7_draws 21 = .ok (.aload_n 0, 1) := by decide +kernel
theorem dX7_draws_22 : decode cX7_draws 22 = .ok (.getfield 16, 3) := by decide +kernel
theorem dX7_draws_25 : decode cX7_draws 25 = .ok (.bipush (-2), 2) := by decide +kernel
theorem dX7_draws_27 : decode cX7_draws 27 = .ok (.iload_n 2, 1) := by decide +kernel
theorem dX7_draws_28 : decode cX7_draws 28 = .ok (.bipush 9, 2) := by decide +kernel
theorem dX7_draws_30 : decode cX7_draws 30 = .ok (.aload_n 0, 1) := by decide +kernel
theorem dX7_draws_31 : decode cX7_draws 31 = .ok (.getfield 16, 3) := by decide +kernel
theorem dX7_draws_34 : decode cX7_draws 34 = .ok (.bipush 15, 2) := by decide +kernel
theorem dX7_draws_36 : decode cX7_draws 36 = .ok (.iaload, 1) := by decide +kernel
theorem dX7_draws_37 : decode cX7_draws 37 = .ok (.invokestatic 138, 3) := by decide +kernel
theorem dX7_draws_40 : decode cX7_draws 40 = .ok (.invokestatic 158, 3) := by decide +kernel
theorem dX7_draws_43 : decode cX7_draws 43 = .ok (.goto 57, 3) := by decide +kernel
theorem dX7_draws_46 : decode cX7_draws 46 = .ok (.iload_n 1, 1) := by decide +kernel
theorem dX7_draws_47 : decode cX7_draws 47 = .ok (.iconst 1, 1) := by decide +kernel
theorem dX7_draws_48 : decode cX7_draws 48 = .ok (.if_icmp .ne 28, 3) := by decide +kernel
theorem dX7_draws_51 : decode cX7_draws 51 = .ok (.aload_n 0, 1) := by decide +kernel
theorem dX7_draws_52 : decode cX7_draws 52 = .ok (.aload_n 0, 1) := by decide +kernel
theorem dX7_draws_53 : decode cX7_draws 53 = .ok (.getfield 7, 3) := by decide +kernel
theorem dX7_draws_56 : decode cX7_draws 56 = .ok (.iconst 2, 1) := by decide +kernel
theorem dX7_draws_57 : decode cX7_draws 57 = .ok (.iaload, 1) := by decide +kernel
theorem dX7_draws_58 : decode cX7_draws 58 = .ok (.invokevirtual 224, 3) := by decide +kernel
theorem dX7_draws_61 : decode cX7_draws 61 = .ok (.istore_n 2, 1) := by decide +kernel
theorem dX7_draws_62 : decode cX7_draws 62 = .ok (.aload_n 0, 1) := by decide +kernel
theorem dX7_draws_63 : decode cX7_draws 63 = .ok (.iload_n 2, 1) := by decide +kernel
theorem dX7_draws_64 : decode cX7_draws 64 = .ok (.aload_n 0, 1) := by decide +kernel
theorem dX7_draws_65 : decode cX7_draws 65 = .ok (.bipush 20, 2) := by decide +kernel
theorem dX7_draws_67 : decode cX7_draws 67 = .ok (.invokevirtual 224, 3) := by decide +kernel
theorem dX7_draws_70 : decode cX7_draws 70 = .ok (.invokevirtual 194, 3) := by decide +kernel
theorem dX7_draws_73 : decode cX7_draws 73 = .ok (.goto 27, 3) := by decide +kernel
theorem dX7_draws_76 : decode cX7_draws 76 = .ok (.iload_n 1, 1) := by decide +kernel
theorem dX7_draws_77 : decode cX7_draws 77 = .ok (.iconst 2, 1) := by decide +kernel
theorem dX7_draws_78 : decode cX7_draws 78 = .ok (.if_icmp .ne 22, 3) := by decide +kernel
theorem dX7_draws_81 : decode cX7_draws 81 = .ok (.aload_n 0, 1) := by decide +kernel
theorem dX7_draws_82 : decode cX7_draws 82 = .ok (.bipush 51, 2) := by decide +kernel
theorem dX7_draws_84 : decode cX7_draws 84 = .ok (.invokevirtual 224, 3) := by decide +kernel
theorem dX7_draws_87 : decode cX7_draws 87 = .ok (.istore_n 2, 1) := by decide +kernel
theorem dX7_draws_88 : decode cX7_draws 88 = .ok (.aload_n 0, 1) := by decide +kernel
theorem dX7_draws_89 : decode cX7_draws 89 = .ok (.iload_n 2, 1) := by decide +kernel
theorem dX7_draws_90 : decode cX7_draws 90 = .ok (.aload_n 0, 1) := by decide +kernel
theorem dX7_draws_91 : decode cX7_draws 91 = .ok (.bipush 10, 2) := by decide +kernel
theorem dX7_draws_93 : decode cX7_draws 93 = .ok (.invokevirtual 224, 3) := by decide +kernel
theorem dX7_draws_96 : decode cX7_draws 96 = .ok (.invokevirtual 200, 3) := by decide +kernel
theorem dX7_draws_99 : decode cX7_draws 99 = .ok (.istore_n 3, 1) := by decide +kernel
theorem dX7_draws_100 : decode cX7_draws 100 = .ok (.return_, 1) := by decide +kernel
theorem dX7_drift_0 : decode cX7_drift 0 = .ok (.aload_n 0, 1) := by decide +kernel
theorem dX7_drift_1 : decode cX7_drift 1 = .ok (.iload_n 1, 1) := by decide +kernel
theorem dX7_drift_2 : decode cX7_drift 2 = .ok (.invokevirtual 205, 3) := by decide +kernel
theorem dX7_drift_5 : decode cX7_drift 5 = .ok (.istore_n 2, 1) := by decide +kernel
theorem dX7_drift_6 : decode cX7_drift 6 = .ok (.iload_n 2, 1) := by decide +kernel
theorem dX7_drift_7 : decode cX7_drift 7 = .ok (.ifCond .eq 5, 3) := by decide +kernel
theorem dX7_drift_10 : decode cX7_drift 10 = .ok (.iload_n 2, 1) := by decide +kernel
theorem dX7_drift_11 : decode cX7_drift 11 = .ok (.ireturn, 1) := by decide +kernel
theorem dX7_drift_12 : decode cX7_drift 12 = .ok (.aload_n 0, 1) := by decide +kernel
theorem dX7_drift_13 : decode cX7_drift 13 = .ok (.invokevirtual 189, 3) := by decide +kernel
theorem dX7_drift_16 : decode cX7_drift 16 = .ok (.iconst 0, 1) := by decide +kernel
theorem dX7_drift_17 : decode cX7_drift 17 = .ok (.istore_n 3, 1) := by decide +kernel
theorem dX7_drift_18 : decode cX7_drift 18 = .ok (.iload_n 3, 1) := by decide +kernel
theorem dX7_drift_19 : decode cX7_drift 19 = .ok (.iload_n 1, 1) := by decide +kernel
theorem dX7_drift_20 : decode cX7_drift 20 = .ok (.if_icmp .ge 31, 3) := by decide +kernel
theorem dX7_drift_23 : decode cX7_drift 23 = .ok (.aload_n 0, 1) := by decide +kernel
theorem dX7_drift_24 : decode cX7_drift 24 = .ok (.getfield 7, 3) := by decide +kernel
theorem dX7_drift_27 : decode cX7_drift 27 = .ok (.iconst 2, 1) := by decide +kernel
theorem dX7_drift_28 : decode cX7_drift 28 = .ok (.iaload, 1) := by decide +kernel
theorem dX7_drift_29 : decode cX7_drift 29 = .ok (.ifCond .le 7, 3) := by decide +kernel
theorem dX7_drift_32 : decode cX7_drift 32 = .ok (.aload_n 0, 1) := by decide +kernel
theorem dX7_drift_33 : decode cX7_drift 33 = .ok (.invokevirtual 227, 3) := by decide +kernel
theorem dX7_drift_36 : decode cX7_drift 36 = .ok (.aload_n 0, 1) := by decide +kernel
theorem dX7_drift_37 : decode cX7_drift 37 = .ok (.aload_n 0, 1) := by decide +kernel
theorem dX7_drift_38 : decode cX7_drift 38 = .ok (.getfield 16, 3) := by decide +kernel
theorem dX7_drift_41 : decode cX7_drift 41 = .ok (.iconst 1, 1) := by decide +kernel
theorem dX7_drift_42 : decode cX7_drift 42 = .ok (.invokevirtual 208, 3) := by decide +kernel
theorem dX7_drift_45 : decode cX7_drift 45 = .ok (.iinc 3 1, 3) := by decide +kernel
theorem dX7_drift_48 : decode cX7_drift 48 = .ok (.goto (-30), 3) := by decide +kernel
theorem dX7_drift_51 : decode cX7_drift 51 = .ok (.aload_n 0, 1) := by decide +kernel
theorem dX7_drift_52 : decode cX7_drift 52 = .ok (.getfield 16, 3) := by decide +kernel
theorem dX7_drift_55 : decode cX7_drift 55 = .ok (.bipush 15, 2) := by decide +kernel
theorem dX7_drift_57 : decode cX7_drift 57 = .ok (.iaload, 1) := by decide +kernel
theorem dX7_drift_58 : decode cX7_drift 58 = .ok (.ireturn, 1) := by decide +kernel
theorem dX7_undo_0 : decode cX7_undo 0 = .ok (.aload_n 0, 1) := by decide +kernel
theorem dX7_undo_1 : decode cX7_undo 1 = .ok (.getfield 58, 3) := by decide +kernel
theorem dX7_undo_4 : decode cX7_undo 4 = .ok (.ifCond .ne 6, 3) := by decide +kernel
theorem dX7_undo_7 : decode cX7_undo 7 = .ok (.ldc 188, 2) := by decide +kernel
theorem dX7_undo_9 : decode cX7_undo 9 = .ok (.ireturn, 1) := by decide +kernel
theorem dX7_undo_10 : decode cX7_undo 10 = .ok (.aload_n 0, 1) := by decide +kernel
theorem dX7_undo_11 : decode cX7_undo 11 = .ok (.dup, 1) := by decide +kernel
theorem dX7_undo_12 : decode cX7_undo 12 = .ok (.getfield 58, 3) := by decide +kernel
theorem dX7_undo_15 : decode cX7_undo 15 = .ok (.iconst 1, 1) := by decide +kernel
theorem dX7_undo_16 : decode cX7_undo 16 = .ok (.isub, 1) := by decide +kernel
theorem dX7_undo_17 : decode cX7_undo 17 = .ok (.putfield 58, 3) := by decide +kernel
theorem dX7_undo_20 : decode cX7_undo 20 = .ok (.aload_n 0, 1) := by decide +kernel
theorem dX7_undo_21 : decode cX7_undo 21 = .ok (.getfield 22, 3) := by decide +kernel
theorem dX7_undo_24 : decode cX7_undo 24 = .ok (.bipush 48, 2) := by decide +kernel
theorem dX7_undo_26 : decode cX7_undo 26 = .ok (.aload_n 0, 1) := by decide +kernel
theorem dX7_undo_27 : decode cX7_undo 27 = .ok (.getfield 58, 3) := by decide +kernel
theorem dX7_undo_30 : decode cX7_undo 30 = .ok (.imul, 1) := by decide +kernel
theorem dX7_undo_31 : decode cX7_undo 31 = .ok (.aload_n 0, 1) := by decide +kernel
theorem dX7_undo_32 : decode cX7_undo 32 = .ok (.getfield 16, 3) := by decide +kernel
theorem dX7_undo_35 : decode cX7_undo 35 = .ok (.iconst 0, 1) := by decide +kernel
theorem dX7_undo_36 : decode cX7_undo 36 = .ok (.bipush 48, 2) := by decide +kernel
theorem dX7_undo_38 : decode cX7_undo 38 = .ok (.invokestatic 54, 3) := by decide +kernel
theorem dX7_undo_41 : decode cX7_undo 41 = .ok (.aload_n 0, 1) := by decide +kernel
theorem dX7_undo_42 : decode cX7_undo 42 = .ok (.getfield 58, 3) := by decide +kernel
theorem dX7_undo_45 : decode cX7_undo 45 = .ok (.ireturn, 1) := by decide +kernel
theorem dX7_layAside_0 : decode cX7_layAside 0 = .ok (.aload_n 0, 1) := by decide +kernel
theorem dX7_layAside_1 : decode cX7_layAside 1 = .ok (.getfield 16, 3) := by decide +kernel
theorem dX7_layAside_4 : decode cX7_layAside 4 = .ok (.iconst 0, 1) := by decide +kernel
theorem dX7_layAside_5 : decode cX7_layAside 5 = .ok (.aload_n 0, 1) := by decide +kernel
theorem dX7_layAside_6 : decode cX7_layAside 6 = .ok (.getfield 19, 3) := by decide +kernel
theorem dX7_layAside_9 : decode cX7_layAside 9 = .ok (.iconst 0, 1) := by decide +kernel
theorem dX7_layAside_10 : decode cX7_layAside 10 = .ok (.bipush 48, 2) := by decide +kernel
theorem dX7_layAside_12 : decode cX7_layAside 12 = .ok (.invokestatic 54, 3) := by decide +kernel
theorem dX7_layAside_15 : decode cX7_layAside 15 = .ok (.return_, 1) := by decide +kernel
theorem dX7_hat_0 : decode cX7_hat 0 = .ok (.aload_n 0, 1) := by decide +kernel
theorem dX7_hat_1 : decode cX7_hat 1 = .ok (.iload_n 1, 1) := by decide +kernel
theorem dX7_hat_2 : decode cX7_hat 2 = .ok (.invokevirtual 180, 3) := by decide +kernel
theorem dX7_hat_5 : decode cX7_hat 5 = .ok (.ifCond .ne 6, 3) := by decide +kernel
theorem dX7_hat_8 : decode cX7_hat 8 = .ok (.ldc 183, 2) := by decide +kernel
theorem dX7_hat_10 : decode cX7_hat 10 = .ok (.ireturn, 1) := by decide +kernel
theorem dX7_hat_11 : decode cX7_hat 11 = .ok (.iload_n 2, 1) := by decide +kernel
theorem dX7_hat_12 : decode cX7_hat 12 = .ok (.i2l, 1) := by decide +kernel
theorem dX7_hat_13 : decode cX7_hat 13 = .ok (.lconst 0, 1) := by decide +kernel
theorem dX7_hat_14 : decode cX7_hat 14 = .ok (.ldc2_w 230, 3) := by decide +kernel
theorem dX7_hat_17 : decode cX7_hat 17 = .ok (.invokestatic 72, 3) := by decide +kernel
theorem dX7_hat_20 : decode cX7_hat 20 = .ok (.ifCond .ne 6, 3) := by decide +kernel
theorem dX7_hat_23 : decode cX7_hat 23 = .ok (.ldc 76, 2) := by decide +kernel
theorem dX7_hat_25 : decode cX7_hat 25 = .ok (.ireturn, 1) := by decide +kernel
theorem dX7_hat_26 : decode cX7_hat 26 = .ok (.aload_n 0, 1) := by decide +kernel
theorem dX7_hat_27 : decode cX7_hat 27 = .ok (.invokevirtual 232, 3) := by decide +kernel
theorem dX7_hat_30 : decode cX7_hat 30 = .ok (.iconst 0, 1) := by decide +kernel
theorem dX7_hat_31 : decode cX7_hat 31 = .ok (.istore_n 3, 1) := by decide +kernel
theorem dX7_hat_32 : decode cX7_hat 32 = .ok (.iload_n 3, 1) := by decide +kernel
theorem dX7_hat_33 : decode cX7_hat 33 = .ok (.iload_n 2, 1) := by decide +kernel
theorem dX7_hat_34 : decode cX7_hat 34 = .ok (.if_icmp .ge 18, 3) := by decide +kernel
theorem dX7_hat_37 : decode cX7_hat 37 = .ok (.aload_n 0, 1) := by decide +kernel
theorem dX7_hat_38 : decode cX7_hat 38 = .ok (.aload_n 0, 1) := by decide +kernel
theorem dX7_hat_39 : decode cX7_hat 39 = .ok (.getfield 19, 3) := by decide +kernel
theorem dX7_hat_42 : decode cX7_hat 42 = .ok (.iconst 1, 1) := by decide +kernel
theorem dX7_hat_43 : decode cX7_hat 43 = .ok (.invokevirtual 208, 3) := by decide +kernel
theorem dX7_hat_46 : decode cX7_hat 46 = .ok (.iinc 3 1, 3) := by decide +kernel
theorem dX7_hat_49 : decode cX7_hat 49 = .ok (.goto (-17), 3) := by decide +kernel
theorem dX7_hat_52 : decode cX7_hat 52 = .ok (.aload_n 0, 1) := by decide +kernel
theorem dX7_hat_53 : decode cX7_hat 53 = .ok (.getfield 19, 3) := by decide +kernel
theorem dX7_hat_56 : decode cX7_hat 56 = .ok (.iconst 0, 1) := by decide +kernel
theorem dX7_hat_57 : decode cX7_hat 57 = .ok (.iload_n 1, 1) := by decide +kernel
theorem dX7_hat_58 : decode cX7_hat 58 = .ok (.iadd, 1) := by decide +kernel
theorem dX7_hat_59 : decode cX7_hat 59 = .ok (.iaload, 1) := by decide +kernel
theorem dX7_hat_60 : decode cX7_hat 60 = .ok (.ireturn, 1) := by decide +kernel
theorem dX7_most_0 : decode cX7_most 0 = .ok (.aload_n 0, 1) := by decide +kernel
theorem dX7_most_1 : decode cX7_most 1 = .ok (.iload_n 1, 1) := by decide +kernel
theorem dX7_most_2 : decode cX7_most 2 = .ok (.invokevirtual 180, 3) := by decide +kernel
theorem dX7_most_5 : decode cX7_most 5 = .ok (.ifCond .ne 6, 3) := by decide +kernel
theorem dX7_most_8 : decode cX7_most 8 = .ok (.ldc 183, 2) := by decide +kernel
theorem dX7_most_10 : decode cX7_most 10 = .ok (.ireturn, 1) := by decide +kernel
theorem dX7_most_11 : decode cX7_most 11 = .ok (.iload_n 2, 1) := by decide +kernel
theorem dX7_most_12 : decode cX7_most 12 = .ok (.i2l, 1) := by decide +kernel
theorem dX7_most_13 : decode cX7_most 13 = .ok (.lconst 0, 1) := by decide +kernel
theorem dX7_most_14 : decode cX7_most 14 = .ok (.ldc2_w 230, 3) := by decide +kernel
theorem dX7_most_17 : decode cX7_most 17 = .ok (.invokestatic 72, 3) := by decide +kernel
theorem dX7_most_20 : decode cX7_most 20 = .ok (.ifCond .eq 13, 3) := by decide +kernel
theorem dX7_most_23 : decode cX7_most 23 = .ok (.iload_n 3, 1) := by decide +kernel
theorem dX7_most_24 : decode cX7_most 24 = .ok (.i2l, 1) := by decide +kernel
theorem dX7_most_25 : decode cX7_most 25 = .ok (.lconst 0, 1) := by decide +kernel
theorem dX7_most_26 : decode cX7_most 26 = .ok (.lconst 1, 1) := by decide +kernel
theorem dX7_most_27 : decode cX7_most 27 = .ok (.invokestatic 72, 3) := by decide +kernel
theorem dX7_most_30 : decode cX7_most 30 = .ok (.ifCond .ne 6, 3) := by decide +kernel
theorem dX7_most_33 : decode cX7_most 33 = .ok (.ldc 76, 2) := by decide +kernel
