theorem dX6_init_15 : decode cX6_init 15 = .ok (.aload_n 0, 1) := by decide +kernel
theorem dX6_init_16 : decode cX6_init 16 = .ok (.new 16, 3) := by decide +kernel
theorem dX6_init_19 : decode cX6_init 19 = .ok (.dup, 1) := by decide +kernel
theorem dX6_init_20 : decode cX6_init 20 = .ok (.invokespecial 18, 3) := by decide +kernel
theorem dX6_init_23 : decode cX6_init 23 = .ok (.putfield 19, 3) := by decide +kernel
theorem dX6_init_26 : decode cX6_init 26 = .ok (.aload_n 0, 1) := by decide +kernel
theorem dX6_init_27 : decode cX6_init 27 = .ok (.new 16, 3) := by decide +kernel
theorem dX6_init_30 : decode cX6_init 30 = .ok (.dup, 1) := by decide +kernel
theorem dX6_init_31 : decode cX6_init 31 = .ok (.invokespecial 18, 3) := by decide +kernel
theorem dX6_init_34 : decode cX6_init 34 = .ok (.putfield 23, 3) := by decide +kernel
theorem dX6_init_37 : decode cX6_init 37 = .ok (.aload_n 0, 1) := by decide +kernel
theorem dX6_init_38 : decode cX6_init 38 = .ok (.new 26, 3) := by decide +kernel
theorem dX6_init_41 : decode cX6_init 41 = .ok (.dup, 1) := by decide +kernel
theorem dX6_init_42 : decode cX6_init 42 = .ok (.invokespecial 28, 3) := by decide +kernel
theorem dX6_init_45 : decode cX6_init 45 = .ok (.putfield 29, 3) := by decide +kernel
theorem dX6_init_48 : decode cX6_init 48 = .ok (.aload_n 0, 1) := by decide +kernel
theorem dX6_init_49 : decode cX6_init 49 = .ok (.new 26, 3) := by decide +kernel
theorem dX6_init_52 : decode cX6_init 52 = .ok (.dup, 1) := by decide +kernel
theorem dX6_init_53 : decode cX6_init 53 = .ok (.invokespecial 28, 3) := by decide +kernel
theorem dX6_init_56 : decode cX6_init 56 = .ok (.putfield 33, 3) := by decide +kernel
theorem dX6_init_59 : decode cX6_init 59 = .ok (.aload_n 0, 1) := by decide +kernel
theorem dX6_init_60 : decode cX6_init 60 = .ok (.new 36, 3) := by decide +kernel
theorem dX6_init_63 : decode cX6_init 63 = .ok (.dup, 1) := by decide +kernel
theorem dX6_init_64 : decode cX6_init 64 = .ok (.invokespecial 38, 3) := by decide +kernel
theorem dX6_init_67 : decode cX6_init 67 = .ok (.putfield 39, 3) := by decide +kernel
theorem dX6_init_70 : decode cX6_init 70 = .ok (.aload_n 0, 1) := by decide +kernel
theorem dX6_init_71 : decode cX6_init 71 = .ok (.iconst 2, 1) := by decide +kernel
theorem dX6_init_72 : decode cX6_init 72 = .ok (.anewarray 26, 3) := by decide +kernel
theorem dX6_init_75 : decode cX6_init 75 = .ok (.putfield 43, 3) := by decide +kernel
theorem dX6_init_78 : decode cX6_init 78 = .ok (.aload_n 0, 1) := by decide +kernel
theorem dX6_init_79 : decode cX6_init 79 = .ok (.iconst 2, 1) := by decide +kernel
theorem dX6_init_80 : decode cX6_init 80 = .ok (.newarray .int, 2) := by decide +kernel
theorem dX6_init_82 : decode cX6_init 82 = .ok (.putfield 47, 3) := by decide +kernel
theorem dX6_init_85 : decode cX6_init 85 = .ok (.aload_n 0, 1) := by decide +kernel
theorem dX6_init_86 : decode cX6_init 86 = .ok (.iconst 2, 1) := by decide +kernel
theorem dX6_init_87 : decode cX6_init 87 = .ok (.newarray .boolean, 2) := by decide +kernel
theorem dX6_init_89 : decode cX6_init 89 = .ok (.putfield 51, 3) := by decide +kernel
theorem dX6_init_92 : decode cX6_init 92 = .ok (.aload_n 0, 1) := by decide +kernel
theorem dX6_init_93 : decode cX6_init 93 = .ok (.new 55, 3) := by decide +kernel
theorem dX6_init_96 : decode cX6_init 96 = .ok (.dup, 1) := by decide +kernel
theorem dX6_init_97 : decode cX6_init 97 = .ok (.invokespecial 57, 3) := by decide +kernel
theorem dX6_init_100 : decode cX6_init 100 = .ok (.putfield 58, 3) := by decide +kernel
theorem dX6_init_103 : decode cX6_init 103 = .ok (.aload_n 0, 1) := by decide +kernel
theorem dX6_init_104 : decode cX6_init 104 = .ok (.new 62, 3) := by decide +kernel
theorem dX6_init_107 : decode cX6_init 107 = .ok (.dup, 1) := by decide +kernel
theorem dX6_init_108 : decode cX6_init 108 = .ok (.invokespecial 64, 3) := by decide +kernel
theorem dX6_init_111 : decode cX6_init 111 = .ok (.putfield 65, 3) := by decide +kernel
theorem dX6_init_114 : decode cX6_init 114 = .ok (.aload_n 0, 1) := by decide +kernel
theorem dX6_init_115 : decode cX6_init 115 = .ok (.bipush 7, 2) := by decide +kernel
theorem dX6_init_117 : decode cX6_init 117 = .ok (.newarray .int, 2) := by decide +kernel
theorem dX6_init_119 : decode cX6_init 119 = .ok (.putfield 69, 3) := by decide +kernel
theorem dX6_init_122 : decode cX6_init 122 = .ok (.aload_n 0, 1) := by decide +kernel
theorem dX6_init_123 : decode cX6_init 123 = .ok (.iconst 0, 1) := by decide +kernel
theorem dX6_init_124 : decode cX6_init 124 = .ok (.putfield 72, 3) := by decide +kernel
theorem dX6_init_127 : decode cX6_init 127 = .ok (.iconst 0, 1) := by decide +kernel
theorem dX6_init_128 : decode cX6_init 128 = .ok (.istore_n 1, 1) := by decide +kernel
theorem dX6_init_129 : decode cX6_init 129 = .ok (.iload_n 1, 1) := by decide +kernel
theorem dX6_init_130 : decode cX6_init 130 = .ok (.aload_n 0, 1) := by decide +kernel
theorem dX6_init_131 : decode cX6_init 131 = .ok (.getfield 43, 3) := by decide +kernel
theorem dX6_init_134 : decode cX6_init 134 = .ok (.arraylength, 1) := by decide +kernel
theorem dX6_init_135 : decode cX6_init 135 = .ok (.if_icmp .ge 22, 3) := by decide +kernel
theorem dX6_init_138 : decode cX6_init 138 = .ok (.aload_n 0, 1) := by decide +kernel
theorem dX6_init_139 : decode cX6_init 139 = .ok (.getfield 43, 3) := by decide +kernel
theorem dX6_init_142 : decode cX6_init 142 = .ok (.iload_n 1, 1) := by decide +kernel
theorem dX6_init_143 : decode cX6_init 143 = .ok (.new 26, 3) := by decide +kernel
theorem dX6_init_146 : decode cX6_init 146 = .ok (.dup, 1) := by decide +kernel
theorem dX6_init_147 : decode cX6_init 147 = .ok (.invokespecial 28, 3) := by decide +kernel
theorem dX6_init_150 : decode cX6_init 150 = .ok (.aastore, 1) := by decide +kernel
theorem dX6_init_151 : decode cX6_init 151 = .ok (.iinc 1 1, 3) := by decide +kernel
theorem dX6_init_154 : decode cX6_init 154 = .ok (.goto (-25), 3) := by decide +kernel
theorem dX6_init_157 : decode cX6_init 157 = .ok (.return_, 1) := by decide +kernel
theorem dX6_feed_0 : decode cX6_feed 0 = .ok (.iload_n 1, 1) := by decide +kernel
theorem dX6_feed_1 : decode cX6_feed 1 = .ok (.iconst 0, 1) := by decide +kernel
theorem dX6_feed_2 : decode cX6_feed 2 = .ok (.sipush 255, 3) := by decide +kernel
theorem dX6_feed_5 : decode cX6_feed 5 = .ok (.invokestatic 76, 3) := by decide +kernel
theorem dX6_feed_8 : decode cX6_feed 8 = .ok (.ifCond .eq 6, 3) := by decide +kernel
theorem dX6_feed_11 : decode cX6_feed 11 = .ok (.ldc 80, 2) := by decide +kernel
theorem dX6_feed_13 : decode cX6_feed 13 = .ok (.ireturn, 1) := by decide +kernel
theorem dX6_feed_14 : decode cX6_feed 14 = .ok (.aload_n 0, 1) := by decide +kernel
theorem dX6_feed_15 : decode cX6_feed 15 = .ok (.getfield 10, 3) := by decide +kernel
theorem dX6_feed_18 : decode cX6_feed 18 = .ok (.getfield 81, 3) := by decide +kernel
theorem dX6_feed_21 : decode cX6_feed 21 = .ok (.sipush 240, 3) := by decide +kernel
theorem dX6_feed_24 : decode cX6_feed 24 = .ok (.if_icmp .lt 6, 3) := by decide +kernel
theorem dX6_feed_27 : decode cX6_feed 27 = .ok (.ldc 84, 2) := by decide +kernel
theorem dX6_feed_29 : decode cX6_feed 29 = .ok (.ireturn, 1) := by decide +kernel
theorem dX6_feed_30 : decode cX6_feed 30 = .ok (.aload_n 0, 1) := by decide +kernel
theorem dX6_feed_31 : decode cX6_feed 31 = .ok (.getfield 10, 3) := by decide +kernel
theorem dX6_feed_34 : decode cX6_feed 34 = .ok (.iload_n 1, 1) := by decide +kernel
theorem dX6_feed_35 : decode cX6_feed 35 = .ok (.invokevirtual 85, 3) := by decide +kernel
theorem dX6_feed_38 : decode cX6_feed 38 = .ok (.ireturn, 1) := by decide +kernel
theorem dX6_parish_0 : decode cX6_parish 0 = .ok (.aload_n 0, 1) := by decide +kernel
theorem dX6_parish_1 : decode cX6_parish 1 = .ok (.getfield 10, 3) := by decide +kernel
theorem dX6_parish_4 : decode cX6_parish 4 = .ok (.aload_n 0, 1) := by decide +kernel
theorem dX6_parish_5 : decode cX6_parish 5 = .ok (.getfield 23, 3) := by decide +kernel
theorem dX6_parish_8 : decode cX6_parish 8 = .ok (.invokevirtual 89, 3) := by decide +kernel
theorem dX6_parish_11 : decode cX6_parish 11 = .ok (.istore_n 1, 1) := by decide +kernel
theorem dX6_parish_12 : decode cX6_parish 12 = .ok (.iload_n 1, 1) := by decide +kernel
theorem dX6_parish_13 : decode cX6_parish 13 = .ok (.ifCond .eq 8, 3) := by decide +kernel
theorem dX6_parish_16 : decode cX6_parish 16 = .ok (.bipush (-10), 2) := by decide +kernel
theorem dX6_parish_18 : decode cX6_parish 18 = .ok (.iload_n 1, 1) := by decide +kernel
theorem dX6_parish_19 : decode cX6_parish 19 = .ok (.isub, 1) := by decide +kernel
theorem dX6_parish_20 : decode cX6_parish 20 = .ok (.ireturn, 1) := by decide +kernel
theorem dX6_parish_21 : decode cX6_parish 21 = .ok (.aload_n 0, 1) := by decide +kernel
theorem dX6_parish_22 : decode cX6_parish 22 = .ok (.getfield 19, 3) := by decide +kernel
theorem dX6_parish_25 : decode cX6_parish 25 = .ok (.astore_n 2, 1) := by decide +kernel
theorem dX6_parish_26 : decode cX6_parish 26 = .ok (.aload_n 0, 1) := by decide +kernel
theorem dX6_parish_27 : decode cX6_parish 27 = .ok (.aload_n 0, 1) := by decide +kernel
theorem dX6_parish_28 : decode cX6_parish 28 = .ok (.getfield 23, 3) := by decide +kernel
theorem dX6_parish_31 : decode cX6_parish 31 = .ok (.putfield 19, 3) := by decide +kernel
theorem dX6_parish_34 : decode cX6_parish 34 = .ok (.aload_n 0, 1) := by decide +kernel
theorem dX6_parish_35 : decode cX6_parish 35 = .ok (.aload_n 2, 1) := by decide +kernel
theorem dX6_parish_36 : decode cX6_parish 36 = .ok (.putfield 23, 3) := by decide +kernel
theorem dX6_parish_39 : decode cX6_parish 39 = .ok (.aload_n 0, 1) := by decide +kernel
theorem dX6_parish_40 : decode cX6_parish 40 = .ok (.getfield 29, 3) := by decide +kernel
theorem dX6_parish_43 : decode cX6_parish 43 = .ok (.aload_n 0, 1) := by decide +kernel
theorem dX6_parish_44 : decode cX6_parish 44 = .ok (.getfield 19, 3) := by decide +kernel
theorem dX6_parish_47 : decode cX6_parish 47 = .ok (.invokevirtual 93, 3) := by decide +kernel
theorem dX6_parish_50 : decode cX6_parish 50 = .ok (.aload_n 0, 1) := by decide +kernel
theorem dX6_parish_51 : decode cX6_parish 51 = .ok (.getfield 39, 3) := by decide +kernel
theorem dX6_parish_54 : decode cX6_parish 54 = .ok (.invokevirtual 97, 3) := by decide +kernel
theorem dX6_parish_57 : decode cX6_parish 57 = .ok (.aload_n 0, 1) := by decide +kernel
theorem dX6_parish_58 : decode cX6_parish 58 = .ok (.getfield 65, 3) := by decide +kernel
theorem dX6_parish_61 : decode cX6_parish 61 = .ok (.invokevirtual 100, 3) := by decide +kernel
theorem dX6_parish_64 : decode cX6_parish 64 = .ok (.iconst 0, 1) := by decide +kernel
theorem dX6_parish_65 : decode cX6_parish 65 = .ok (.istore_n 3, 1) := by decide +kernel
theorem dX6_parish_66 : decode cX6_parish 66 = .ok (.iload_n 3, 1) := by decide +kernel
theorem dX6_parish_67 : decode cX6_parish 67 = .ok (.aload_n 0, 1) := by decide +kernel
theorem dX6_parish_68 : decode cX6_parish 68 = .ok (.getfield 51, 3) := by decide +kernel
theorem dX6_parish_71 : decode cX6_parish 71 = .ok (.arraylength, 1) := by decide +kernel
theorem dX6_parish_72 : decode cX6_parish 72 = .ok (.if_icmp .ge 16, 3) := by decide +kernel
theorem dX6_parish_75 : decode cX6_parish 75 = .ok (.aload_n 0, 1) := by decide +kernel
theorem dX6_parish_76 : decode cX6_parish 76 = .ok (.getfield 51, 3) := by decide +kernel
theorem dX6_parish_79 : decode cX6_parish 79 = .ok (.iload_n 3, 1) := by decide +kernel
theorem dX6_parish_80 : decode cX6_parish 80 = .ok (.iconst 0, 1) := by decide +kernel
theorem dX6_parish_81 : decode cX6_parish 81 = .ok (.bastore, 1) := by decide +kernel
theorem dX6_parish_82 : decode cX6_parish 82 = .ok (.iinc 3 1, 3) := by decide +kernel
theorem dX6_parish_85 : decode cX6_parish 85 = .ok (.goto (-19), 3) := by decide +kernel
theorem dX6_parish_88 : decode cX6_parish 88 = .ok (.aload_n 0, 1) := by decide +kernel
theorem dX6_parish_89 : decode cX6_parish 89 = .ok (.getfield 19, 3) := by decide +kernel
theorem dX6_parish_92 : decode cX6_parish 92 = .ok (.getfield 101, 3) := by decide +kernel
theorem dX6_parish_95 : decode cX6_parish 95 = .ok (.ireturn, 1) := by decide +kernel
theorem dX6_fault_0 : decode cX6_fault 0 = .ok (.aload_n 0, 1) := by decide +kernel
theorem dX6_fault_1 : decode cX6_fault 1 = .ok (.getfield 10, 3) := by decide +kernel
theorem dX6_fault_4 : decode cX6_fault 4 = .ok (.getfield 104, 3) := by decide +kernel
theorem dX6_fault_7 : decode cX6_fault 7 = .ok (.ireturn, 1) := by decide +kernel
theorem dX6_told_0 : decode cX6_told 0 = .ok (.iload_n 1, 1) := by decide +kernel
theorem dX6_told_1 : decode cX6_told 1 = .ok (.tableswitch 219 0 17 #[87, 95, 103, 111, 119, 127, 135, 143, 151, 159, 167, 172, 177, 182, 187, 195, 203, 211], 87) := by decide +kernel
theorem dX6_told_88 : decode cX6_told 88 = .ok (.aload_n 0, 1) := by decide +kernel
theorem dX6_told_89 : decode cX6_told 89 = .ok (.getfield 19, 3) := by decide +kernel
theorem dX6_told_92 : decode cX6_told 92 = .ok (.getfield 107, 3) := by decide +kernel
theorem dX6_told_95 : decode cX6_told 95 = .ok (.ireturn, 1) := by decide +kernel
theorem dX6_told_96 : decode cX6_told 96 = .ok (.aload_n 0, 1) := by decide +kernel
theorem dX6_told_97 : decode cX6_told 97 = .ok (.getfield 19, 3) := by decide +kernel
theorem dX6_told_100 : decode cX6_told 100 = .ok (.getfield 101, 3) := by decide +kernel
theorem dX6_told_103 : decode cX6_told 103 = .ok (.ireturn, 1) := by decide +kernel
theorem dX6_told_104 : decode cX6_told 104 = .ok (.aload_n 0, 1) := by decide +kernel
theorem dX6_told_105 : decode cX6_told 105 = .ok (.getfield 19, 3) := by decide +kernel
theorem dX6_told_108 : decode cX6_told 108 = .ok (.getfield 110, 3) := by decide +kernel
theorem dX6_told_111 : decode cX6_told 111 = .ok (.ireturn, 1) := by decide +kernel
theorem dX6_told_112 : decode cX6_told 112 = .ok (.aload_n 0, 1) := by decide +kernel
theorem dX6_told_113 : decode cX6_told 113 = .ok (.getfield 10, 3) := by decide +kernel
theorem dX6_told_116 : decode cX6_told 116 = .ok (.getfield 81, 3) := by decide +kernel
theorem dX6_told_119 : decode cX6_told 119 = .ok (.ireturn, 1) := by decide +kernel
theorem dX6_told_120 : decode cX6_told 120 = .ok (.aload_n 0, 1) := by decide +kernel
theorem dX6_told_121 : decode cX6_told 121 = .ok (.getfield 29, 3) := by decide +kernel
theorem dX6_told_124 : decode cX6_told 124 = .ok (.getfield 113, 3) := by decide +kernel
theorem dX6_told_127 : decode cX6_told 127 = .ok (.ireturn, 1) := by decide +kernel
theorem dX6_told_128 : decode cX6_told 128 = .ok (.aload_n 0, 1) := by decide +kernel
theorem dX6_told_129 : decode cX6_told 129 = .ok (.getfield 29, 3) := by decide +kernel
theorem dX6_told_132 : decode cX6_told 132 = .ok (.getfield 116, 3) := by decide +kernel
theorem dX6_told_135 : decode cX6_told 135 = .ok (.ireturn, 1) := by decide +kernel
theorem dX6_told_136 : decode cX6_told 136 = .ok (.aload_n 0, 1) := by decide +kernel
theorem dX6_told_137 : decode cX6_told 137 = .ok (.getfield 29, 3) := by decide +kernel
theorem dX6_told_140 : decode cX6_told 140 = .ok (.invokevirtual 119, 3) := by decide +kernel
theorem dX6_told_143 : decode cX6_told 143 = .ok (.ireturn, 1) := by decide +kernel
theorem dX6_told_144 : decode cX6_told 144 = .ok (.aload_n 0, 1) := by decide +kernel
theorem dX6_told_145 : decode cX6_told 145 = .ok (.getfield 29, 3) := by decide +kernel
theorem dX6_told_148 : decode cX6_told 148 = .ok (.getfield 123, 3) := by decide +kernel
theorem dX6_told_151 : decode cX6_told 151 = .ok (.ireturn, 1) := by decide +kernel
theorem dX6_told_152 : decode cX6_told 152 = .ok (.aload_n 0, 1) := by decide +kernel
theorem dX6_told_153 : decode cX6_told 153 = .ok (.getfield 29, 3) := by decide +kernel
theorem dX6_told_156 : decode cX6_told 156 = .ok (.getfield 126, 3) := by decide +kernel
theorem dX6_told_159 : decode cX6_told 159 = .ok (.ireturn, 1) := by decide +kernel
theorem dX6_told_160 : decode cX6_told 160 = .ok (.aload_n 0, 1) := by decide +kernel
theorem dX6_told_161 : decode cX6_told 161 = .ok (.getfield 29, 3) := by decide +kernel
theorem dX6_told_164 : decode cX6_told 164 = .ok (.invokevirtual 129, 3) := by decide +kernel
theorem dX6_told_167 : decode cX6_told 167 = .ok (.ireturn, 1) := by decide +kernel
theorem dX6_told_168 : decode cX6_told 168 = .ok (.aload_n 0, 1) := by decide +kernel
theorem dX6_told_169 : decode cX6_told 169 = .ok (.invokevirtual 132, 3) := by decide +kernel
theorem dX6_told_172 : decode cX6_told 172 = .ok (.ireturn, 1) := by decide +kernel
theorem dX6_told_173 : decode cX6_told 173 = .ok (.aload_n 0, 1) := by decide +kernel
theorem dX6_told_174 : decode cX6_told 174 = .ok (.invokevirtual 135, 3) := by decide +kernel
theorem dX6_told_177 : decode cX6_told 177 = .ok (.ireturn, 1) := by decide +kernel
theorem dX6_told_178 : decode cX6_told 178 = .ok (.aload_n 0, 1) := by decide +kernel
theorem dX6_told_179 : decode cX6_told 179 = .ok (.invokevirtual 138, 3) := by decide +kernel
theorem dX6_told_182 : decode cX6_told 182 = .ok (.ireturn, 1) := by decide +kernel
theorem dX6_told_183 : decode cX6_told 183 = .ok (.aload_n 0, 1) := by decide +kernel
theorem dX6_told_184 : decode cX6_told 184 = .ok (.invokevirtual 141, 3) := by decide +kernel
theorem dX6_told_187 : decode cX6_told 187 = .ok (.ireturn, 1) := by decide +kernel
theorem dX6_told_188 : decode cX6_told 188 = .ok (.aload_n 0, 1) := by decide +kernel
theorem dX6_told_189 : decode cX6_told 189 = .ok (.getfield 65, 3) := by decide +kernel
theorem dX6_told_192 : decode cX6_told 192 = .ok (.getfield 144, 3) := by decide +kernel
theorem dX6_told_195 : decode cX6_told 195 = .ok (.ireturn, 1) := by decide +kernel
theorem dX6_told_196 : decode cX6_told 196 = .ok (.aload_n 0, 1) := by decide +kernel
theorem dX6_told_197 : decode cX6_told 197 = .ok (.getfield 65, 3) := by decide +kernel
theorem dX6_told_200 : decode cX6_told 200 = .ok (.getfield 147, 3) := by decide +kernel
theorem dX6_told_203 : decode cX6_told 203 = .ok (.ireturn, 1) := by decide +kernel
theorem dX6_told_204 : decode cX6_told 204 = .ok (.aload_n 0, 1) := by decide +kernel
theorem dX6_told_205 : decode cX6_told 205 = .ok (.getfield 65, 3) := by decide +kernel
theorem dX6_told_208 : decode cX6_told 208 = .ok (.getfield 150, 3) := by decide +kernel
theorem dX6_told_211 : decode cX6_told 211 = .ok (.ireturn, 1) := by decide +kernel
theorem dX6_told_212 : decode cX6_told 212 = .ok (.aload_n 0, 1) := by decide +kernel
theorem dX6_told_213 : decode cX6_told 213 = .ok (.getfield 39, 3) := by decide +kernel
theorem dX6_told_216 : decode cX6_told 216 = .ok (.getfield 153, 3) := by decide +kernel
theorem dX6_told_219 : decode cX6_told 219 = .ok (.ireturn, 1) := by decide +kernel
theorem dX6_told_220 : decode cX6_told 220 = .ok (.ldc 80, 2) := by decide +kernel
theorem dX6_told_222 : decode cX6_told 222 = .ok (.ireturn, 1) := by decide +kernel
theorem dX6_person_0 : decode cX6_person 0 = .ok (.aload_n 0, 1) := by decide +kernel
theorem dX6_person_1 : decode cX6_person 1 = .ok (.getfield 19, 3) := by decide +kernel
theorem dX6_person_4 : decode cX6_person 4 = .ok (.iload_n 1, 1) := by decide +kernel
theorem dX6_person_5 : decode cX6_person 5 = .ok (.invokevirtual 156, 3) := by decide +kernel
theorem dX6_person_8 : decode cX6_person 8 = .ok (.ifCond .ne 6, 3) := by decide +kernel
theorem dX6_person_11 : decode cX6_person 11 = .ok (.ldc 160, 2) := by decide +kernel
theorem dX6_person_13 : decode cX6_person 13 = .ok (.ireturn, 1) := by decide +kernel
theorem dX6_person_14 : decode cX6_person 14 = .ok (.iload_n 2, 1) := by decide +kernel
theorem dX6_person_15 : decode cX6_person 15 = .ok (.tableswitch 178 0 9 #[53, 63, 73, 83, 93, 110, 123, 136, 142, 148], 53) := by decide +kernel
theorem dX6_person_68 : decode cX6_person 68 = .ok (.aload_n 0, 1) := by decide +kernel
theorem dX6_person_69 : decode cX6_person 69 = .ok (.getfield 19, 3) := by decide +kernel
theorem dX6_person_72 : decode cX6_person 72 = .ok (.getfield 161, 3) := by decide +kernel
theorem dX6_person_75 : decode cX6_person 75 = .ok (.iload_n 1, 1) := by decide +kernel
theorem dX6_person_76 : decode cX6_person 76 = .ok (.iaload, 1) := by decide +kernel
theorem dX6_person_77 : decode cX6_person 77 = .ok (.ireturn, 1) := by decide +kernel
theorem dX6_person_78 : decode cX6_person 78 = .ok (.aload_n 0, 1) := by decide +kernel
theorem dX6_person_79 : decode cX6_person 79 = .ok (.getfield 29, 3) := by decide +kernel
theorem dX6_person_82 : decode cX6_person 82 = .ok (.getfield 164, 3) := by decide +kernel
theorem dX6_person_85 : decode cX6_person 85 = .ok (.iload_n 1, 1) := by decide +kernel
theorem dX6_person_86 : decode cX6_person 86 = .ok (.iaload, 1) := by decide +kernel
theorem dX6_person_87 : decode cX6_person 87 = .ok (.ireturn, 1) := by decide +kernel
theorem dX6_person_88 : decode cX6_person 88 = .ok (.aload_n 0, 1) := by decide +kernel
theorem dX6_person_89 : decode cX6_person 89 = .ok (.getfield 19, 3) := by decide +kernel
theorem dX6_person_92 : decode cX6_person 92 = .ok (.getfield 167, 3) := by decide +kernel
theorem dX6_person_95 : decode cX6_person 95 = .ok (.iload_n 1, 1) := by decide +kernel
theorem dX6_person_96 : decode cX6_person 96 = .ok (.iaload, 1) := by decide +kernel
theorem dX6_person_97 : decode cX6_person 97 = .ok (.ireturn, 1) := by decide +kernel
theorem dX6_person_98 : decode cX6_person 98 = .ok (.aload_n 0, 1) := by decide +kernel
theorem dX6_person_99 : decode cX6_person 99 = .ok (.getfield 29, 3) := by decide +kernel
theorem dX6_person_102 : decode cX6_person 102 = .ok (.getfield 170, 3) := by decide +kernel
theorem dX6_person_105 : decode cX6_person 105 = .ok (.iload_n 1, 1) := by decide +kernel
theorem dX6_person_106 : decode cX6_person 106 = .ok (.iaload, 1) := by decide +kernel
theorem dX6_person_107 : decode cX6_person 107 = .ok (.ireturn, 1) := by decide +kernel
theorem dX6_person_108 : decode cX6_person 108 = .ok (.aload_n 0, 1) := by decide +kernel
theorem dX6_person_109 : decode cX6_person 109 = .ok (.getfield 29, 3) := by decide +kernel
theorem dX6_person_112 : decode cX6_person 112 = .ok (.iload_n 1, 1) := by decide +kernel
theorem dX6_person_113 : decode cX6_person 113 = .ok (.invokevirtual 173, 3) := by decide +kernel
theorem dX6_person_116 : decode cX6_person 116 = .ok (.ifCond .eq 7, 3) := by decide +kernel
theorem dX6_person_119 : decode cX6_person 119 = .ok (.iconst 1, 1) := by decide +kernel
theorem dX6_person_120 : decode cX6_person 120 = .ok (.goto 4, 3) := by decide +kernel
theorem dX6_person_123 : decode cX6_person 123 = .ok (.iconst 0, 1) := by decide +kernel
theorem dX6_person_124 : decode cX6_person 124 = .ok (.ireturn, 1) := by decide +kernel
theorem dX6_person_125 : decode cX6_person 125 = .ok (.aload_n 0, 1) := by decide +kernel
theorem dX6_person_126 : decode cX6_person 126 = .ok (.getfield 29, 3) := by decide +kernel
theorem dX6_person_129 : decode cX6_person 129 = .ok (.getfield 164, 3) := by decide +kernel
theorem dX6_person_132 : decode cX6_person 132 = .ok (.iload_n 1, 1) := by decide +kernel
theorem dX6_person_133 : decode cX6_person 133 = .ok (.iaload, 1) := by decide +kernel
theorem dX6_person_134 : decode cX6_person 134 = .ok (.bipush 9, 2) := by decide +kernel
theorem dX6_person_136 : decode cX6_person 136 = .ok (.idiv, 1) := by decide +kernel
theorem dX6_person_137 : decode cX6_person 137 = .ok (.ireturn, 1) := by decide +kernel
theorem dX6_person_138 : decode cX6_person 138 = .ok (.aload_n 0, 1) := by decide +kernel
theorem dX6_person_139 : decode cX6_person 139 = .ok (.getfield 29, 3) := by decide +kernel
theorem dX6_person_142 : decode cX6_person 142 = .ok (.getfield 164, 3) := by decide +kernel
theorem dX6_person_145 : decode cX6_person 145 = .ok (.iload_n 1, 1) := by decide +kernel
theorem dX6_person_146 : decode cX6_person 146 = .ok (.iaload, 1) := by decide +kernel
theorem dX6_person_147 : decode cX6_person 147 = .ok (.bipush 9, 2) := by decide +kernel
theorem dX6_person_149 : decode cX6_person 149 = .ok (.irem, 1) := by decide +kernel
theorem dX6_person_150 : decode cX6_person 150 = .ok (.ireturn, 1) := by decide +kernel
theorem dX6_person_151 : decode cX6_person 151 = .ok (.aload_n 0, 1) := by decide +kernel
theorem dX6_person_152 : decode cX6_person 152 = .ok (.iload_n 1, 1) := by decide +kernel
theorem dX6_person_153 : decode cX6_person 153 = .ok (.invokevirtual 176, 3) := by decide +kernel
theorem dX6_person_156 : decode cX6_person 156 = .ok (.ireturn, 1) := by decide +kernel
theorem dX6_person_157 : decode cX6_person 157 = .ok (.aload_n 0, 1) := by decide +kernel
theorem dX6_person_158 : decode cX6_person 158 = .ok (.iload_n 1, 1) := by decide +kernel
theorem dX6_person_159 : decode cX6_person 159 = .ok (.invokevirtual 179, 3) := by decide +kernel
theorem dX6_person_162 : decode cX6_person 162 = .ok (.ireturn, 1) := by decide +kernel
theorem dX6_person_163 : decode cX6_person 163 = .ok (.aload_n 0, 1) := by decide +kernel
theorem dX6_person_164 : decode cX6_person 164 = .ok (.getfield 29, 3) := by decide +kernel
theorem dX6_person_167 : decode cX6_person 167 = .ok (.aload_n 0, 1) := by decide +kernel
theorem dX6_person_168 : decode cX6_person 168 = .ok (.getfield 19, 3) := by decide +kernel
theorem dX6_person_171 : decode cX6_person 171 = .ok (.iload_n 1, 1) := by decide +kernel
theorem dX6_person_172 : decode cX6_person 172 = .ok (.aload_n 0, 1) := by decide +kernel
theorem dX6_person_173 : decode cX6_person 173 = .ok (.getfield 29, 3) := by decide +kernel
theorem dX6_person_176 : decode cX6_person 176 = .ok (.getfield 170, 3) := by decide +kernel
theorem dX6_person_179 : decode cX6_person 179 = .ok (.iload_n 1, 1) := by decide +kernel
theorem dX6_person_180 : decode cX6_person 180 = .ok (.iaload, 1) := by decide +kernel
theorem dX6_person_181 : decode cX6_person 181 = .ok (.ifCond .le 7, 3) := by decide +kernel
theorem dX6_person_184 : decode cX6_person 184 = .ok (.iconst 1, 1) := by decide +kernel
theorem dX6_person_185 : decode cX6_person 185 = .ok (.goto 4, 3) := by decide +kernel
theorem dX6_person_188 : decode cX6_person 188 = .ok (.iconst 0, 1) := by decide +kernel
theorem dX6_person_189 : decode cX6_person 189 = .ok (.invokevirtual 182, 3) := by decide +kernel
theorem dX6_person_192 : decode cX6_person 192 = .ok (.ireturn, 1) := by decide +kernel
theorem dX6_person_193 : decode cX6_person 193 = .ok (.ldc 80, 2) := by decide +kernel
theorem dX6_person_195 : decode cX6_person 195 = .ok (.ireturn, 1) := by decide +kernel
theorem dX6_debt_0 : decode cX6_debt 0 = .ok (.aload_n 0, 1) := by decide +kernel
theorem dX6_debt_1 : decode cX6_debt 1 = .ok (.getfield 19, 3) := by decide +kernel
theorem dX6_debt_4 : decode cX6_debt 4 = .ok (.iload_n 1, 1) := by decide +kernel
theorem dX6_debt_5 : decode cX6_debt 5 = .ok (.invokevirtual 186, 3) := by decide +kernel
theorem dX6_debt_8 : decode cX6_debt 8 = .ok (.ifCond .ne 6, 3) := by decide +kernel
theorem dX6_debt_11 : decode cX6_debt 11 = .ok (.ldc 160, 2) := by decide +kernel
theorem dX6_debt_13 : decode cX6_debt 13 = .ok (.ireturn, 1) := by decide +kernel
theorem dX6_debt_14 : decode cX6_debt 14 = .ok (.iload_n 2, 1) := by decide +kernel
theorem dX6_debt_15 : decode cX6_debt 15 = .ok (.tableswitch 55 0 2 #[25, 35, 45], 25) := by decide +kernel
theorem dX6_debt_40 : decode cX6_debt 40 = .ok (.aload_n 0, 1) := by decide +kernel
theorem dX6_debt_41 : decode cX6_debt 41 = .ok (.getfield 19, 3) := by decide +kernel
theorem dX6_debt_44 : decode cX6_debt 44 = .ok (.getfield 189, 3) := by decide +kernel
theorem dX6_debt_47 : decode cX6_debt 47 = .ok (.iload_n 1, 1) := by decide +kernel
theorem dX6_debt_48 : decode cX6_debt 48 = .ok (.iaload, 1) := by decide +kernel
theorem dX6_debt_49 : decode cX6_debt 49 = .ok (.ireturn, 1) := by decide +kernel
theorem dX6_debt_50 : decode cX6_debt 50 = .ok (.aload_n 0, 1) := by decide +kernel
theorem dX6_debt_51 : decode cX6_debt 51 = .ok (.getfield 19, 3) := by decide +kernel
theorem dX6_debt_54 : decode cX6_debt 54 = .ok (.getfield 192, 3) := by decide +kernel
theorem dX6_debt_57 : decode cX6_debt 57 = .ok (.iload_n 1, 1) := by decide +kernel
theorem dX6_debt_58 : decode cX6_debt 58 = .ok (.iaload, 1) := by decide +kernel
theorem dX6_debt_59 : decode cX6_debt 59 = .ok (.ireturn, 1) := by decide +kernel
theorem dX6_debt_60 : decode cX6_debt 60 = .ok (.aload_n 0, 1) := by decide +kernel
theorem dX6_debt_61 : decode cX6_debt 61 = .ok (.getfield 29, 3) := by decide +kernel
theorem dX6_debt_64 : decode cX6_debt 64 = .ok (.getfield 195, 3) := by decide +kernel
theorem dX6_debt_67 : decode cX6_debt 67 = .ok (.iload_n 1, 1) := by decide +kernel
theorem dX6_debt_68 : decode cX6_debt 68 = .ok (.iaload, 1) := by decide +kernel
theorem dX6_debt_69 : decode cX6_debt 69 = .ok (.ireturn, 1) := by decide +kernel
theorem dX6_debt_70 : decode cX6_debt 70 = .ok (.ldc 80, 2) := by decide +kernel
theorem dX6_debt_72 : decode cX6_debt 72 = .ok (.ireturn, 1) := by decide +kernel
theorem dX6_trace_0 : decode cX6_trace 0 = .ok (.aload_n 0, 1) := by decide +kernel
theorem dX6_trace_1 : decode cX6_trace 1 = .ok (.getfield 29, 3) := by decide +kernel
theorem dX6_trace_4 : decode cX6_trace 4 = .ok (.iload_n 1, 1) := by decide +kernel
theorem dX6_trace_5 : decode cX6_trace 5 = .ok (.invokevirtual 198, 3) := by decide +kernel
theorem dX6_trace_8 : decode cX6_trace 8 = .ok (.ireturn, 1) := by decide +kernel
theorem dX6_count_0 : decode cX6_count 0 = .ok (.aload_n 0, 1) := by decide +kernel
theorem dX6_count_1 : decode cX6_count 1 = .ok (.getfield 19, 3) := by decide +kernel
theorem dX6_count_4 : decode cX6_count 4 = .ok (.iload_n 1, 1) := by decide +kernel
theorem dX6_count_5 : decode cX6_count 5 = .ok (.invokevirtual 156, 3) := by decide +kernel
theorem dX6_count_8 : decode cX6_count 8 = .ok (.ifCond .ne 6, 3) := by decide +kernel
theorem dX6_count_11 : decode cX6_count 11 = .ok (.ldc 160, 2) := by decide +kernel
theorem dX6_count_13 : decode cX6_count 13 = .ok (.ireturn, 1) := by decide +kernel
theorem dX6_count_14 : decode cX6_count 14 = .ok (.iload_n 2, 1) := by decide +kernel
theorem dX6_count_15 : decode cX6_count 15 = .ok (.iconst 1, 1) := by decide +kernel
theorem dX6_count_16 : decode cX6_count 16 = .ok (.sipush 999, 3) := by decide +kernel
theorem dX6_count_19 : decode cX6_count 19 = .ok (.invokestatic 76, 3) := by decide +kernel
theorem dX6_count_22 : decode cX6_count 22 = .ok (.ifCond .eq 6, 3) := by decide +kernel
theorem dX6_count_25 : decode cX6_count 25 = .ok (.ldc 80, 2) := by decide +kernel
theorem dX6_count_27 : decode cX6_count 27 = .ok (.ireturn, 1) := by decide +kernel
theorem dX6_count_28 : decode cX6_count 28 = .ok (.aload_n 0, 1) := by decide +kernel
theorem dX6_count_29 : decode cX6_count 29 = .ok (.getfield 29, 3) := by decide +kernel
theorem dX6_count_32 : decode cX6_count 32 = .ok (.getfield 116, 3) := by decide +kernel
theorem dX6_count_35 : decode cX6_count 35 = .ok (.iload_n 2, 1) := by decide +kernel
theorem dX6_count_36 : decode cX6_count 36 = .ok (.if_icmp .ge 6, 3) := by decide +kernel
theorem dX6_count_39 : decode cX6_count 39 = .ok (.ldc 201, 2) := by decide +kernel
theorem dX6_count_41 : decode cX6_count 41 = .ok (.ireturn, 1) := by decide +kernel
theorem dX6_count_42 : decode cX6_count 42 = .ok (.aload_n 0, 1) := by decide +kernel
theorem dX6_count_43 : decode cX6_count 43 = .ok (.getfield 39, 3) := by decide +kernel
theorem dX6_count_46 : decode cX6_count 46 = .ok (.aload_n 0, 1) := by decide +kernel
theorem dX6_count_47 : decode cX6_count 47 = .ok (.getfield 29, 3) := by decide +kernel
theorem dX6_count_50 : decode cX6_count 50 = .ok (.invokevirtual 202, 3) := by decide +kernel
theorem dX6_count_53 : decode cX6_count 53 = .ok (.aload_n 0, 1) := by decide +kernel
theorem dX6_count_54 : decode cX6_count 54 = .ok (.getfield 29, 3) := by decide +kernel
theorem dX6_count_57 : decode cX6_count 57 = .ok (.bipush (-2), 2) := by decide +kernel
theorem dX6_count_59 : decode cX6_count 59 = .ok (.iload_n 1, 1) := by decide +kernel
theorem dX6_count_60 : decode cX6_count 60 = .ok (.iload_n 2, 1) := by decide +kernel
theorem dX6_count_61 : decode cX6_count 61 = .ok (.invokevirtual 206, 3) := by decide +kernel
theorem dX6_count_64 : decode cX6_count 64 = .ok (.aload_n 0, 1) := by decide +kernel
theorem dX6_count_65 : decode cX6_count 65 = .ok (.getfield 29, 3) := by decide +kernel
theorem dX6_count_68 : decode cX6_count 68 = .ok (.getfield 164, 3) := by decide +kernel
theorem dX6_count_71 : decode cX6_count 71 = .ok (.iload_n 1, 1) := by decide +kernel
theorem dX6_count_72 : decode cX6_count 72 = .ok (.iaload, 1) := by decide +kernel
theorem dX6_count_73 : decode cX6_count 73 = .ok (.ireturn, 1) := by decide +kernel
theorem dX6_pay_0 : decode cX6_pay 0 = .ok (.aload_n 0, 1) := by decide +kernel
theorem dX6_pay_1 : decode cX6_pay 1 = .ok (.getfield 19, 3) := by decide +kernel
theorem dX6_pay_4 : decode cX6_pay 4 = .ok (.iload_n 1, 1) := by decide +kernel
theorem dX6_pay_5 : decode cX6_pay 5 = .ok (.invokevirtual 156, 3) := by decide +kernel
theorem dX6_pay_8 : decode cX6_pay 8 = .ok (.ifCond .eq 19, 3) := by decide +kernel
theorem dX6_pay_11 : decode cX6_pay 11 = .ok (.aload_n 0, 1) := by decide +kernel
theorem dX6_pay_12 : decode cX6_pay 12 = .ok (.getfield 19, 3) := by decide +kernel
theorem dX6_pay_15 : decode cX6_pay 15 = .ok (.iload_n 2, 1) := by decide +kernel
theorem dX6_pay_16 : decode cX6_pay 16 = .ok (.invokevirtual 156, 3) := by decide +kernel
theorem dX6_pay_19 : decode cX6_pay 19 = .ok (.ifCond .eq 8, 3) := by decide +kernel
theorem dX6_pay_22 : decode cX6_pay 22 = .ok (.iload_n 1, 1) := by decide +kernel
theorem dX6_pay_23 : decode cX6_pay 23 = .ok (.iload_n 2, 1) := by decide +kernel
theorem dX6_pay_24 : decode cX6_pay 24 = .ok (.if_icmp .ne 6, 3) := by decide +kernel
theorem dX6_pay_27 : decode cX6_pay 27 = .ok (.ldc 160, 2) := by decide +kernel
theorem dX6_pay_29 : decode cX6_pay 29 = .ok (.ireturn, 1) := by decide +kernel
theorem dX6_pay_30 : decode cX6_pay 30 = .ok (.iload_n 3, 1) := by decide +kernel
theorem dX6_pay_31 : decode cX6_pay 31 = .ok (.iconst 1, 1) := by decide +kernel
theorem dX6_pay_32 : decode cX6_pay 32 = .ok (.sipush 999, 3) := by decide +kernel
theorem dX6_pay_35 : decode cX6_pay 35 = .ok (.invokestatic 76, 3) := by decide +kernel
theorem dX6_pay_38 : decode cX6_pay 38 = .ok (.ifCond .eq 6, 3) := by decide +kernel
theorem dX6_pay_41 : decode cX6_pay 41 = .ok (.ldc 80, 2) := by decide +kernel
theorem dX6_pay_43 : decode cX6_pay 43 = .ok (.ireturn, 1) := by decide +kernel
theorem dX6_pay_44 : decode cX6_pay 44 = .ok (.aload_n 0, 1) := by decide +kernel
theorem dX6_pay_45 : decode cX6_pay 45 = .ok (.getfield 29, 3) := by decide +kernel
theorem dX6_pay_48 : decode cX6_pay 48 = .ok (.getfield 164, 3) := by decide +kernel
theorem dX6_pay_51 : decode cX6_pay 51 = .ok (.iload_n 1, 1) := by decide +kernel
theorem dX6_pay_52 : decode cX6_pay 52 = .ok (.iaload, 1) := by decide +kernel
theorem dX6_pay_53 : decode cX6_pay 53 = .ok (.iload_n 3, 1) := by decide +kernel
theorem dX6_pay_54 : decode cX6_pay 54 = .ok (.if_icmp .ge 6, 3) := by decide +kernel
theorem dX6_pay_57 : decode cX6_pay 57 = .ok (.ldc 201, 2) := by decide +kernel
theorem dX6_pay_59 : decode cX6_pay 59 = .ok (.ireturn, 1) := by decide +kernel
theorem dX6_pay_60 : decode cX6_pay 60 = .ok (.aload_n 0, 1) := by decide +kernel
theorem dX6_pay_61 : decode cX6_pay 61 = .ok (.getfield 39, 3) := by decide +kernel
theorem dX6_pay_64 : decode cX6_pay 64 = .ok (.aload_n 0, 1) := by decide +kernel
theorem dX6_pay_65 : decode cX6_pay 65 = .ok (.getfield 29, 3) := by decide +kernel
theorem dX6_pay_68 : decode cX6_pay 68 = .ok (.invokevirtual 202, 3) := by decide +kernel
theorem dX6_pay_71 : decode cX6_pay 71 = .ok (.aload_n 0, 1) := by decide +kernel
theorem dX6_pay_72 : decode cX6_pay 72 = .ok (.getfield 29, 3) := by decide +kernel
theorem dX6_pay_75 : decode cX6_pay 75 = .ok (.iload_n 1, 1) := by decide +kernel
theorem dX6_pay_76 : decode cX6_pay 76 = .ok (.iload_n 2, 1) := by decide +kernel
theorem dX6_pay_77 : decode cX6_pay 77 = .ok (.iload_n 3, 1) := by decide +kernel
theorem dX6_pay_78 : decode cX6_pay 78 = .ok (.invokevirtual 206, 3) := by decide +kernel
theorem dX6_pay_81 : decode cX6_pay 81 = .ok (.aload_n 0, 1) := by decide +kernel
theorem dX6_pay_82 : decode cX6_pay 82 = .ok (.getfield 29, 3) := by decide +kernel
theorem dX6_pay_85 : decode cX6_pay 85 = .ok (.aload_n 0, 1) := by decide +kernel
theorem dX6_pay_86 : decode cX6_pay 86 = .ok (.getfield 19, 3) := by decide +kernel
theorem dX6_pay_89 : decode cX6_pay 89 = .ok (.iload_n 1, 1) := by decide +kernel
theorem dX6_pay_90 : decode cX6_pay 90 = .ok (.iload_n 2, 1) := by decide +kernel
theorem dX6_pay_91 : decode cX6_pay 91 = .ok (.iload_n 3, 1) := by decide +kernel
theorem dX6_pay_92 : decode cX6_pay 92 = .ok (.invokevirtual 210, 3) := by decide +kernel
theorem dX6_pay_95 : decode cX6_pay 95 = .ok (.ireturn, 1) := by decide +kernel
theorem dX6_strew_0 : decode cX6_strew 0 = .ok (.aload_n 0, 1) := by decide +kernel
theorem dX6_strew_1 : decode cX6_strew 1 = .ok (.getfield 19, 3) := by decide +kernel
theorem dX6_strew_4 : decode cX6_strew 4 = .ok (.iload_n 1, 1) := by decide +kernel
theorem dX6_strew_5 : decode cX6_strew 5 = .ok (.invokevirtual 156, 3) := by decide +kernel
theorem dX6_strew_8 : decode cX6_strew 8 = .ok (.ifCond .ne 6, 3) := by decide +kernel
theorem dX6_strew_11 : decode cX6_strew 11 = .ok (.ldc 160, 2) := by decide +kernel
theorem dX6_strew_13 : decode cX6_strew 13 = .ok (.ireturn, 1) := by decide +kernel
theorem dX6_strew_14 : decode cX6_strew 14 = .ok (.iload_n 2, 1) := by decide +kernel
theorem dX6_strew_15 : decode cX6_strew 15 = .ok (.iconst 1, 1) := by decide +kernel
theorem dX6_strew_16 : decode cX6_strew 16 = .ok (.bipush 99, 2) := by decide +kernel
theorem dX6_strew_18 : decode cX6_strew 18 = .ok (.invokestatic 76, 3) := by decide +kernel
theorem dX6_strew_21 : decode cX6_strew 21 = .ok (.ifCond .eq 6, 3) := by decide +kernel
theorem dX6_strew_24 : decode cX6_strew 24 = .ok (.ldc 80, 2) := by decide +kernel
theorem dX6_strew_26 : decode cX6_strew 26 = .ok (.ireturn, 1) := by decide +kernel
theorem dX6_strew_27 : decode cX6_strew 27 = .ok (.aload_n 0, 1) := by decide +kernel
theorem dX6_strew_28 : decode cX6_strew 28 = .ok (.getfield 39, 3) := by decide +kernel
theorem dX6_strew_31 : decode cX6_strew 31 = .ok (.aload_n 0, 1) := by decide +kernel
theorem dX6_strew_32 : decode cX6_strew 32 = .ok (.getfield 29, 3) := by decide +kernel
theorem dX6_strew_35 : decode cX6_strew 35 = .ok (.invokevirtual 202, 3) := by decide +kernel
theorem dX6_strew_38 : decode cX6_strew 38 = .ok (.aload_n 0, 1) := by decide +kernel
theorem dX6_strew_39 : decode cX6_strew 39 = .ok (.getfield 29, 3) := by decide +kernel
theorem dX6_strew_42 : decode cX6_strew 42 = .ok (.iload_n 1, 1) := by decide +kernel
theorem dX6_strew_43 : decode cX6_strew 43 = .ok (.iload_n 2, 1) := by decide +kernel
theorem dX6_strew_44 : decode cX6_strew 44 = .ok (.invokevirtual 214, 3) := by decide +kernel
theorem dX6_strew_47 : decode cX6_strew 47 = .ok (.aload_n 0, 1) := by decide +kernel
theorem dX6_strew_48 : decode cX6_strew 48 = .ok (.getfield 29, 3) := by decide +kernel
theorem dX6_strew_51 : decode cX6_strew 51 = .ok (.getfield 170, 3) := by decide +kernel
theorem dX6_strew_54 : decode cX6_strew 54 = .ok (.iload_n 1, 1) := by decide +kernel
theorem dX6_strew_55 : decode cX6_strew 55 = .ok (.iaload, 1) := by decide +kernel
theorem dX6_strew_56 : decode cX6_strew 56 = .ok (.ireturn, 1) := by decide +kernel
theorem dX6_net_0 : decode cX6_net 0 = .ok (.aload_n 0, 1) := by decide +kernel
theorem dX6_net_1 : decode cX6_net 1 = .ok (.getfield 19, 3) := by decide +kernel
theorem dX6_net_4 : decode cX6_net 4 = .ok (.iload_n 1, 1) := by decide +kernel
theorem dX6_net_5 : decode cX6_net 5 = .ok (.invokevirtual 156, 3) := by decide +kernel
theorem dX6_net_8 : decode cX6_net 8 = .ok (.ifCond .ne 6, 3) := by decide +kernel
theorem dX6_net_11 : decode cX6_net 11 = .ok (.ldc 160, 2) := by decide +kernel
theorem dX6_net_13 : decode cX6_net 13 = .ok (.ireturn, 1) := by decide +kernel
theorem dX6_net_14 : decode cX6_net 14 = .ok (.aload_n 0, 1) := by decide +kernel
theorem dX6_net_15 : decode cX6_net 15 = .ok (.getfield 29, 3) := by decide +kernel
theorem dX6_net_18 : decode cX6_net 18 = .ok (.iload_n 1, 1) := by decide +kernel
theorem dX6_net_19 : decode cX6_net 19 = .ok (.invokevirtual 173, 3) := by decide +kernel
theorem dX6_net_22 : decode cX6_net 22 = .ok (.ifCond .eq 7, 3) := by decide +kernel
theorem dX6_net_25 : decode cX6_net 25 = .ok (.iconst 1, 1) := by decide +kernel
theorem dX6_net_26 : decode cX6_net 26 = .ok (.goto 4, 3) := by decide +kernel
theorem dX6_net_29 : decode cX6_net 29 = .ok (.iconst 0, 1) := by decide +kernel
theorem dX6_net_30 : decode cX6_net 30 = .ok (.istore_n 3, 1) := by decide +kernel
theorem dX6_net_31 : decode cX6_net 31 = .ok (.aload_n 0, 1) := by decide +kernel
theorem dX6_net_32 : decode cX6_net 32 = .ok (.getfield 39, 3) := by decide +kernel
theorem dX6_net_35 : decode cX6_net 35 = .ok (.aload_n 0, 1) := by decide +kernel
theorem dX6_net_36 : decode cX6_net 36 = .ok (.getfield 29, 3) := by decide +kernel
theorem dX6_net_39 : decode cX6_net 39 = .ok (.invokevirtual 202, 3) := by decide +kernel
theorem dX6_net_42 : decode cX6_net 42 = .ok (.iconst 1, 1) := by decide +kernel
theorem dX6_net_43 : decode cX6_net 43 = .ok (.iload_n 1, 1) := by decide +kernel
theorem dX6_net_44 : decode cX6_net 44 = .ok (.ishl, 1) := by decide +kernel
theorem dX6_net_45 : decode cX6_net 45 = .ok (.istore 4, 2) := by decide +kernel
theorem dX6_net_47 : decode cX6_net 47 = .ok (.aload_n 0, 1) := by decide +kernel
theorem dX6_net_48 : decode cX6_net 48 = .ok (.getfield 29, 3) := by decide +kernel
theorem dX6_net_51 : decode cX6_net 51 = .ok (.iload_n 2, 1) := by decide +kernel
theorem dX6_net_52 : decode cX6_net 52 = .ok (.ifCond .eq 16, 3) := by decide +kernel
theorem dX6_net_55 : decode cX6_net 55 = .ok (.aload_n 0, 1) := by decide +kernel
theorem dX6_net_56 : decode cX6_net 56 = .ok (.getfield 29, 3) := by decide +kernel
theorem dX6_net_59 : decode cX6_net 59 = .ok (.getfield 123, 3) := by decide +kernel
theorem dX6_net_62 : decode cX6_net 62 = .ok (.iload 4, 2) := by decide +kernel
theorem dX6_net_64 : decode cX6_net 64 = .ok (.ior, 1) := by decide +kernel
theorem dX6_net_65 : decode cX6_net 65 = .ok (.goto 15, 3) := by decide +kernel
theorem dX6_net_68 : decode cX6_net 68 = .ok (.aload_n 0, 1) := by decide +kernel
theorem dX6_net_69 : decode cX6_net 69 = .ok (.getfield 29, 3) := by decide +kernel
theorem dX6_net_72 : decode cX6_net 72 = .ok (.getfield 123, 3) := by decide +kernel
theorem dX6_net_75 : decode cX6_net 75 = .ok (.iload 4, 2) := by decide +kernel
theorem dX6_net_77 : decode cX6_net 77 = .ok (.iconst (-1), 1) := by decide +kernel
theorem dX6_net_78 : decode cX6_net 78 = .ok (.ixor, 1) := by decide +kernel
theorem dX6_net_79 : decode cX6_net 79 = .ok (.iand, 1) := by decide +kernel
theorem dX6_net_80 : decode cX6_net 80 = .ok (.putfield 123, 3) := by decide +kernel
theorem dX6_net_83 : decode cX6_net 83 = .ok (.iload_n 3, 1) := by decide +kernel
theorem dX6_net_84 : decode cX6_net 84 = .ok (.ireturn, 1) := by decide +kernel
theorem dX6_hawk_0 : decode cX6_hawk 0 = .ok (.iload_n 1, 1) := by decide +kernel
theorem dX6_hawk_1 : decode cX6_hawk 1 = .ok (.iconst 0, 1) := by decide +kernel
theorem dX6_hawk_2 : decode cX6_hawk 2 = .ok (.bipush 50, 2) := by decide +kernel
theorem dX6_hawk_4 : decode cX6_hawk 4 = .ok (.invokestatic 76, 3) := by decide +kernel
theorem dX6_hawk_7 : decode cX6_hawk 7 = .ok (.ifCond .ne 13, 3) := by decide +kernel
theorem dX6_hawk_10 : decode cX6_hawk 10 = .ok (.iload_n 2, 1) := by decide +kernel
theorem dX6_hawk_11 : decode cX6_hawk 11 = .ok (.iconst 0, 1) := by decide +kernel
theorem dX6_hawk_12 : decode cX6_hawk 12 = .ok (.bipush 50, 2) := by decide +kernel
theorem dX6_hawk_14 : decode cX6_hawk 14 = .ok (.invokestatic 76, 3) := by decide +kernel
theorem dX6_hawk_17 : decode cX6_hawk 17 = .ok (.ifCond .eq 6, 3) := by decide +kernel
theorem dX6_hawk_20 : decode cX6_hawk 20 = .ok (.ldc 80, 2) := by decide +kernel
theorem dX6_hawk_22 : decode cX6_hawk 22 = .ok (.ireturn, 1) := by decide +kernel
theorem dX6_hawk_23 : decode cX6_hawk 23 = .ok (.aload_n 0, 1) := by decide +kernel
theorem dX6_hawk_24 : decode cX6_hawk 24 = .ok (.getfield 19, 3) := by decide +kernel
theorem dX6_hawk_27 : decode cX6_hawk 27 = .ok (.getfield 218, 3) := by decide +kernel
theorem dX6_hawk_30 : decode cX6_hawk 30 = .ok (.ifCond .ne 6, 3) := by decide +kernel
theorem dX6_hawk_33 : decode cX6_hawk 33 = .ok (.ldc 201, 2) := by decide +kernel
theorem dX6_hawk_35 : decode cX6_hawk 35 = .ok (.ireturn, 1) := by decide +kernel
theorem dX6_hawk_36 : decode cX6_hawk 36 = .ok (.aload_n 0, 1) := by decide +kernel
theorem dX6_hawk_37 : decode cX6_hawk 37 = .ok (.getfield 39, 3) := by decide +kernel
theorem dX6_hawk_40 : decode cX6_hawk 40 = .ok (.aload_n 0, 1) := by decide +kernel
theorem dX6_hawk_41 : decode cX6_hawk 41 = .ok (.getfield 29, 3) := by decide +kernel
theorem dX6_hawk_44 : decode cX6_hawk 44 = .ok (.invokevirtual 202, 3) := by decide +kernel
theorem dX6_hawk_47 : decode cX6_hawk 47 = .ok (.aload_n 0, 1) := by decide +kernel
theorem dX6_hawk_48 : decode cX6_hawk 48 = .ok (.getfield 29, 3) := by decide +kernel
theorem dX6_hawk_51 : decode cX6_hawk 51 = .ok (.aload_n 0, 1) := by decide +kernel
theorem dX6_hawk_52 : decode cX6_hawk 52 = .ok (.getfield 19, 3) := by decide +kernel
theorem dX6_hawk_55 : decode cX6_hawk 55 = .ok (.iload_n 1, 1) := by decide +kernel
theorem dX6_hawk_56 : decode cX6_hawk 56 = .ok (.iload_n 2, 1) := by decide +kernel
theorem dX6_hawk_57 : decode cX6_hawk 57 = .ok (.invokevirtual 222, 3) := by decide +kernel
theorem dX6_hawk_60 : decode cX6_hawk 60 = .ok (.ireturn, 1) := by decide +kernel
theorem dX6_hour_0 : decode cX6_hour 0 = .ok (.aload_n 0, 1) := by decide +kernel
theorem dX6_hour_1 : decode cX6_hour 1 = .ok (.iload_n 1, 1) := by decide +kernel
theorem dX6_hour_2 : decode cX6_hour 2 = .ok (.invokevirtual 226, 3) := by decide +kernel
theorem dX6_hour_5 : decode cX6_hour 5 = .ok (.istore_n 2, 1) := by decide +kernel
theorem dX6_hour_6 : decode cX6_hour 6 = .ok (.iload_n 2, 1) := by decide +kernel
theorem dX6_hour_7 : decode cX6_hour 7 = .ok (.ifCond .eq 5, 3) := by decide +kernel
theorem dX6_hour_10 : decode cX6_hour 10 = .ok (.iload_n 2, 1) := by decide +kernel
theorem dX6_hour_11 : decode cX6_hour 11 = .ok (.ireturn, 1) := by decide +kernel
theorem dX6_hour_12 : decode cX6_hour 12 = .ok (.aload_n 0, 1) := by decide +kernel
theorem dX6_hour_13 : decode cX6_hour 13 = .ok (.getfield 39, 3) := by decide +kernel
theorem dX6_hour_16 : decode cX6_hour 16 = .ok (.aload_n 0, 1) := by decide +kernel
theorem dX6_hour_17 : decode cX6_hour 17 = .ok (.getfield 29, 3) := by decide +kernel
theorem dX6_hour_20 : decode cX6_hour 20 = .ok (.invokevirtual 202, 3) := by decide +kernel
theorem dX6_hour_23 : decode cX6_hour 23 = .ok (.iconst 0, 1) := by decide +kernel
theorem dX6_hour_24 : decode cX6_hour 24 = .ok (.istore_n 3, 1) := by decide +kernel
theorem dX6_hour_25 : decode cX6_hour 25 = .ok (.iload_n 3, 1) := by decide +kernel
theorem dX6_hour_26 : decode cX6_hour 26 = .ok (.iload_n 1, 1) := by decide +kernel
theorem dX6_hour_27 : decode cX6_hour 27 = .ok (.if_icmp .ge 20, 3) := by decide +kernel
theorem dX6_hour_30 : decode cX6_hour 30 = .ok (.aload_n 0, 1) := by decide +kernel
theorem dX6_hour_31 : decode cX6_hour 31 = .ok (.getfield 29, 3) := by decide +kernel
theorem dX6_hour_34 : decode cX6_hour 34 = .ok (.aload_n 0, 1) := by decide +kernel
theorem dX6_hour_35 : decode cX6_hour 35 = .ok (.getfield 19, 3) := by decide +kernel
theorem dX6_hour_38 : decode cX6_hour 38 = .ok (.invokevirtual 229, 3) := by decide +kernel
theorem dX6_hour_41 : decode cX6_hour 41 = .ok (.iinc 3 1, 3) := by decide +kernel
theorem dX6_hour_44 : decode cX6_hour 44 = .ok (.goto (-19), 3) := by decide +kernel
theorem dX6_hour_47 : decode cX6_hour 47 = .ok (.aload_n 0, 1) := by decide +kernel
theorem dX6_hour_48 : decode cX6_hour 48 = .ok (.getfield 29, 3) := by decide +kernel
theorem dX6_hour_51 : decode cX6_hour 51 = .ok (.getfield 116, 3) := by decide +kernel
theorem dX6_hour_54 : decode cX6_hour 54 = .ok (.ireturn, 1) := by decide +kernel
theorem dX6_drift_0 : decode cX6_drift 0 = .ok (.aload_n 0, 1) := by decide +kernel
theorem dX6_drift_1 : decode cX6_drift 1 = .ok (.iload_n 1, 1) := by decide +kernel
theorem dX6_drift_2 : decode cX6_drift 2 = .ok (.invokevirtual 226, 3) := by decide +kernel
theorem dX6_drift_5 : decode cX6_drift 5 = .ok (.istore_n 2, 1) := by decide +kernel
theorem dX6_drift_6 : decode cX6_drift 6 = .ok (.iload_n 2, 1) := by decide +kernel
theorem dX6_drift_7 : decode cX6_drift 7 = .ok (.ifCond .eq 5, 3) := by decide +kernel
theorem dX6_drift_10 : decode cX6_drift 10 = .ok (.iload_n 2, 1) := by decide +kernel
theorem dX6_drift_11 : decode cX6_drift 11 = .ok (.ireturn, 1) := by decide +kernel
theorem dX6_drift_12 : decode cX6_drift 12 = .ok (.aload_n 0, 1) := by decide +kernel
theorem dX6_drift_13 : decode cX6_drift 13 = .ok (.getfield 39, 3) := by decide +kernel
theorem dX6_drift_16 : decode cX6_drift 16 = .ok (.aload_n 0, 1) := by decide +kernel
theorem dX6_drift_17 : decode cX6_drift 17 = .ok (.getfield 29, 3) := by decide +kernel
theorem dX6_drift_20 : decode cX6_drift 20 = .ok (.invokevirtual 202, 3) := by decide +kernel
theorem dX6_drift_23 : decode cX6_drift 23 = .ok (.iconst 0, 1) := by decide +kernel
theorem dX6_drift_24 : decode cX6_drift 24 = .ok (.istore_n 3, 1) := by decide +kernel
theorem dX6_drift_25 : decode cX6_drift 25 = .ok (.iload_n 3, 1) := by decide +kernel
theorem dX6_drift_26 : decode cX6_drift 26 = .ok (.iload_n 1, 1) := by decide +kernel
theorem dX6_drift_27 : decode cX6_drift 27 = .ok (.if_icmp .ge 34, 3) := by decide +kernel
theorem dX6_drift_30 : decode cX6_drift 30 = .ok (.aload_n 0, 1) := by decide +kernel
theorem dX6_drift_31 : decode cX6_drift 31 = .ok (.getfield 19, 3) := by decide +kernel
theorem dX6_drift_34 : decode cX6_drift 34 = .ok (.getfield 101, 3) := by decide +kernel
theorem dX6_drift_37 : decode cX6_drift 37 = .ok (.ifCond .le 7, 3) := by decide +kernel
theorem dX6_drift_40 : decode cX6_drift 40 = .ok (.aload_n 0, 1) := by decide +kernel
theorem dX6_drift_41 : decode cX6_drift 41 = .ok (.invokevirtual 232, 3) := by decide +kernel
theorem dX6_drift_44 : decode cX6_drift 44 = .ok (.aload_n 0, 1) := by decide +kernel
theorem dX6_drift_45 : decode cX6_drift 45 = .ok (.getfield 29, 3) := by decide +kernel
theorem dX6_drift_48 : decode cX6_drift 48 = .ok (.aload_n 0, 1) := by decide +kernel
theorem dX6_drift_49 : decode cX6_drift 49 = .ok (.getfield 19, 3) := by decide +kernel
theorem dX6_drift_52 : decode cX6_drift 52 = .ok (.invokevirtual 229, 3) := by decide +kernel
theorem dX6_drift_55 : decode cX6_drift 55 = .ok (.iinc 3 1, 3) := by decide +kernel
theorem dX6_drift_58 : decode cX6_drift 58 = .ok (.goto (-33), 3) := by decide +kernel
theorem dX6_drift_61 : decode cX6_drift 61 = .ok (.aload_n 0, 1) := by decide +kernel
theorem dX6_drift_62 : decode cX6_drift 62 = .ok (.getfield 29, 3) := by decide +kernel
theorem dX6_drift_65 : decode cX6_drift 65 = .ok (.getfield 116, 3) := by decide +kernel
theorem dX6_drift_68 : decode cX6_drift 68 = .ok (.ireturn, 1) := by decide +kernel
theorem dX6_undo_0 : decode cX6_undo 0 = .ok (.aload_n 0, 1) := by decide +kernel
theorem dX6_undo_1 : decode cX6_undo 1 = .ok (.getfield 39, 3) := by decide +kernel
theorem dX6_undo_4 : decode cX6_undo 4 = .ok (.getfield 153, 3) := by decide +kernel
theorem dX6_undo_7 : decode cX6_undo 7 = .ok (.ifCond .ne 6, 3) := by decide +kernel
theorem dX6_undo_10 : decode cX6_undo 10 = .ok (.ldc 201, 2) := by decide +kernel
theorem dX6_undo_12 : decode cX6_undo 12 = .ok (.ireturn, 1) := by decide +kernel
theorem dX6_undo_13 : decode cX6_undo 13 = .ok (.aload_n 0, 1) := by decide +kernel
theorem dX6_undo_14 : decode cX6_undo 14 = .ok (.getfield 39, 3) := by decide +kernel
theorem dX6_undo_17 : decode cX6_undo 17 = .ok (.aload_n 0, 1) := by decide +kernel
theorem dX6_undo_18 : decode cX6_undo 18 = .ok (.getfield 29, 3) := by decide +kernel
theorem dX6_undo_21 : decode cX6_undo 21 = .ok (.invokevirtual 235, 3) := by decide +kernel
theorem dX6_undo_24 : decode cX6_undo 24 = .ok (.aload_n 0, 1) := by decide +kernel
theorem dX6_undo_25 : decode cX6_undo 25 = .ok (.getfield 39, 3) := by decide +kernel
theorem dX6_undo_28 : decode cX6_undo 28 = .ok (.getfield 153, 3) := by decide +kernel
theorem dX6_undo_31 : decode cX6_undo 31 = .ok (.ireturn, 1) := by decide +kernel
theorem dX6_hat_0 : decode cX6_hat 0 = .ok (.aload_n 0, 1) := by decide +kernel
theorem dX6_hat_1 : decode cX6_hat 1 = .ok (.getfield 19, 3) := by decide +kernel
theorem dX6_hat_4 : decode cX6_hat 4 = .ok (.iload_n 1, 1) := by decide +kernel
theorem dX6_hat_5 : decode cX6_hat 5 = .ok (.invokevirtual 156, 3) := by decide +kernel
theorem dX6_hat_8 : decode cX6_hat 8 = .ok (.ifCond .ne 6, 3) := by decide +kernel
theorem dX6_hat_11 : decode cX6_hat 11 = .ok (.ldc 160, 2) := by decide +kernel
theorem dX6_hat_13 : decode cX6_hat 13 = .ok (.ireturn, 1) := by decide +kernel
theorem dX6_hat_14 : decode cX6_hat 14 = .ok (.iload_n 2, 1) := by decide +kernel
theorem dX6_hat_15 : decode cX6_hat 15 = .ok (.iconst 0, 1) := by decide +kernel
theorem dX6_hat_16 : decode cX6_hat 16 = .ok (.bipush 100, 2) := by decide +kernel
theorem dX6_hat_18 : decode cX6_hat 18 = .ok (.invokestatic 76, 3) := by decide +kernel
theorem dX6_hat_21 : decode cX6_hat 21 = .ok (.ifCond .eq 6, 3) := by decide +kernel
theorem dX6_hat_24 : decode cX6_hat 24 = .ok (.ldc 80, 2) := by decide +kernel
theorem dX6_hat_26 : decode cX6_hat 26 = .ok (.ireturn, 1) := by decide +kernel
theorem dX6_hat_27 : decode cX6_hat 27 = .ok (.aload_n 0, 1) := by decide +kernel
theorem dX6_hat_28 : decode cX6_hat 28 = .ok (.getfield 33, 3) := by decide +kernel
theorem dX6_hat_31 : decode cX6_hat 31 = .ok (.aload_n 0, 1) := by decide +kernel
theorem dX6_hat_32 : decode cX6_hat 32 = .ok (.getfield 29, 3) := by decide +kernel
theorem dX6_hat_35 : decode cX6_hat 35 = .ok (.invokevirtual 238, 3) := by decide +kernel
theorem dX6_hat_38 : decode cX6_hat 38 = .ok (.iconst 0, 1) := by decide +kernel
theorem dX6_hat_39 : decode cX6_hat 39 = .ok (.istore_n 3, 1) := by decide +kernel
theorem dX6_hat_40 : decode cX6_hat 40 = .ok (.iload_n 3, 1) := by decide +kernel
theorem dX6_hat_41 : decode cX6_hat 41 = .ok (.iload_n 2, 1) := by decide +kernel
theorem dX6_hat_42 : decode cX6_hat 42 = .ok (.if_icmp .ge 20, 3) := by decide +kernel
theorem dX6_hat_45 : decode cX6_hat 45 = .ok (.aload_n 0, 1) := by decide +kernel
theorem dX6_hat_46 : decode cX6_hat 46 = .ok (.getfield 33, 3) := by decide +kernel
theorem dX6_hat_49 : decode cX6_hat 49 = .ok (.aload_n 0, 1) := by decide +kernel
theorem dX6_hat_50 : decode cX6_hat 50 = .ok (.getfield 19, 3) := by decide +kernel
theorem dX6_hat_53 : decode cX6_hat 53 = .ok (.invokevirtual 229, 3) := by decide +kernel
theorem dX6_hat_56 : decode cX6_hat 56 = .ok (.iinc 3 1, 3) := by decide +kernel
theorem dX6_hat_59 : decode cX6_hat 59 = .ok (.goto (-19), 3) := by decide +kernel
theorem dX6_hat_62 : decode cX6_hat 62 = .ok (.aload_n 0, 1) := by decide +kernel
theorem dX6_hat_63 : decode cX6_hat 63 = .ok (.getfield 33, 3) := by decide +kernel
theorem dX6_hat_66 : decode cX6_hat 66 = .ok (.getfield 164, 3) := by decide +kernel
theorem dX6_hat_69 : decode cX6_hat 69 = .ok (.iload_n 1, 1) := by decide +kernel
theorem dX6_hat_70 : decode cX6_hat 70 = .ok (.iaload, 1) := by decide +kernel
theorem dX6_hat_71 : decode cX6_hat 71 = .ok (.ireturn, 1) := by decide +kernel
theorem dX6_most_0 : decode cX6_most 0 = .ok (.aload_n 0, 1) := by decide +kernel
theorem dX6_most_1 : decode cX6_most 1 = .ok (.getfield 19, 3) := by decide +kernel
theorem dX6_most_4 : decode cX6_most 4 = .ok (.iload_n 1, 1) := by decide +kernel
theorem dX6_most_5 : decode cX6_most 5 = .ok (.invokevirtual 156, 3) := by decide +kernel
theorem dX6_most_8 : decode cX6_most 8 = .ok (.ifCond .ne 6, 3) := by decide +kernel
theorem dX6_most_11 : decode cX6_most 11 = .ok (.ldc 160, 2) := by decide +kernel
theorem dX6_most_13 : decode cX6_most 13 = .ok (.ireturn, 1) := by decide +kernel
theorem dX6_most_14 : decode cX6_most 14 = .ok (.iload_n 2, 1) := by decide +kernel
theorem dX6_most_15 : decode cX6_most 15 = .ok (.iconst 0, 1) := by decide +kernel
theorem dX6_most_16 : decode cX6_most 16 = .ok (.bipush 100, 2) := by decide +kernel
theorem dX6_most_18 : decode cX6_most 18 = .ok (.invokestatic 76, 3) := by decide +kernel
theorem dX6_most_21 : decode cX6_most 21 = .ok (.ifCond .ne 12, 3) := by decide +kernel
theorem dX6_most_24 : decode cX6_most 24 = .ok (.iload_n 3, 1) := by decide +kernel
theorem dX6_most_25 : decode cX6_most 25 = .ok (.iconst 0, 1) := by decide +kernel
theorem dX6_most_26 : decode cX6_most 26 = .ok (.iconst 1, 1) := by decide +kernel
theorem dX6_most_27 : decode cX6_most 27 = .ok (.invokestatic 76, 3) := by decide +kernel
theorem dX6_most_30 : decode cX6_most 30 = .ok (.ifCond .eq 6, 3) := by decide +kernel
theorem dX6_most_33 : decode cX6_most 33 = .ok (.ldc 80, 2) := by decide +kernel
theorem dX6_most_35 : decode cX6_most 35 = .ok (.ireturn, 1) := by decide +kernel
theorem dX6_most_36 : decode cX6_most 36 = .ok (.aload_n 0, 1) := by decide +kernel
theorem dX6_most_37 : decode cX6_most 37 = .ok (.getfield 33, 3) := by decide +kernel
theorem dX6_most_40 : decode cX6_most 40 = .ok (.aload_n 0, 1) := by decide +kernel
theorem dX6_most_41 : decode cX6_most 41 = .ok (.getfield 29, 3) := by decide +kernel
theorem dX6_most_44 : decode cX6_most 44 = .ok (.invokevirtual 238, 3) := by decide +kernel
theorem dX6_most_47 : decode cX6_most 47 = .ok (.aload_n 0, 1) := by decide +kernel
theorem dX6_most_48 : decode cX6_most 48 = .ok (.getfield 33, 3) := by decide +kernel
theorem dX6_most_51 : decode cX6_most 51 = .ok (.getfield 164, 3) := by decide +kernel
theorem dX6_most_54 : decode cX6_most 54 = .ok (.iload_n 1, 1) := by decide +kernel
theorem dX6_most_55 : decode cX6_most 55 = .ok (.iaload, 1) := by decide +kernel
theorem dX6_most_56 : decode cX6_most 56 = .ok (.istore 4, 2) := by decide +kernel
theorem dX6_most_58 : decode cX6_most 58 = .ok (.iconst 0, 1) := by decide +kernel
theorem dX6_most_59 : decode cX6_most 59 = .ok (.istore 5, 2) := by decide +kernel
theorem dX6_most_61 : decode cX6_most 61 = .ok (.iconst 1, 1) := by decide +kernel
theorem dX6_most_62 : decode cX6_most 62 = .ok (.istore 6, 2) := by decide +kernel
theorem dX6_most_64 : decode cX6_most 64 = .ok (.iload 6, 2) := by decide +kernel
theorem dX6_most_66 : decode cX6_most 66 = .ok (.iload_n 2, 1) := by decide +kernel
theorem dX6_most_67 : decode cX6_most 67 = .ok (.if_icmp .gt 49, 3) := by decide +kernel
theorem dX6_most_70 : decode cX6_most 70 = .ok (.aload_n 0, 1) := by decide +kernel
theorem dX6_most_71 : decode cX6_most 71 = .ok (.getfield 33, 3) := by decide +kernel
theorem dX6_most_74 : decode cX6_most 74 = .ok (.aload_n 0, 1) := by decide +kernel
theorem dX6_most_75 : decode cX6_most 75 = .ok (.getfield 19, 3) := by decide +kernel
theorem dX6_most_78 : decode cX6_most 78 = .ok (.invokevirtual 229, 3) := by decide +kernel
theorem dX6_most_81 : decode cX6_most 81 = .ok (.aload_n 0, 1) := by decide +kernel
theorem dX6_most_82 : decode cX6_most 82 = .ok (.getfield 33, 3) := by decide +kernel
theorem dX6_most_85 : decode cX6_most 85 = .ok (.getfield 164, 3) := by decide +kernel
theorem dX6_most_88 : decode cX6_most 88 = .ok (.iload_n 1, 1) := by decide +kernel
theorem dX6_most_89 : decode cX6_most 89 = .ok (.iaload, 1) := by decide +kernel
theorem dX6_most_90 : decode cX6_most 90 = .ok (.iload 4, 2) := by decide +kernel
theorem dX6_most_92 : decode cX6_most 92 = .ok (.if_icmp .le 18, 3) := by decide +kernel
theorem dX6_most_95 : decode cX6_most 95 = .ok (.aload_n 0, 1) := by decide +kernel
theorem dX6_most_96 : decode cX6_most 96 = .ok (.getfield 33, 3) := by decide +kernel
theorem dX6_most_99 : decode cX6_most 99 = .ok (.getfield 164, 3) := by decide +kernel
theorem dX6_most_102 : decode cX6_most 102 = .ok (.iload_n 1, 1) := by decide +kernel
theorem dX6_most_103 : decode cX6_most 103 = .ok (.iaload, 1) := by decide +kernel
theorem dX6_most_104 : decode cX6_most 104 = .ok (.istore 4, 2) := by decide +kernel
theorem dX6_most_106 : decode cX6_most 106 = .ok (.iload 6, 2) := by decide +kernel
theorem dX6_most_108 : decode cX6_most 108 = .ok (.istore 5, 2) := by decide +kernel
theorem dX6_most_110 : decode cX6_most 110 = .ok (.iinc 6 1, 3) := by decide +kernel
theorem dX6_most_113 : decode cX6_most 113 = .ok (.goto (-49), 3) := by decide +kernel
theorem dX6_most_116 : decode cX6_most 116 = .ok (.iload_n 3, 1) := by decide +kernel
theorem dX6_most_117 : decode cX6_most 117 = .ok (.ifCond .ne 8, 3) := by decide +kernel
theorem dX6_most_120 : decode cX6_most 120 = .ok (.iload 5, 2) := by decide +kernel
theorem dX6_most_122 : decode cX6_most 122 = .ok (.goto 5, 3) := by decide +kernel
theorem dX6_most_125 : decode cX6_most 125 = .ok (.iload 4, 2) := by decide +kernel
theorem dX6_most_127 : decode cX6_most 127 = .ok (.ireturn, 1) := by decide +kernel
theorem dX6_kept_0 : decode cX6_kept 0 = .ok (.aload_n 0, 1) := by decide +kernel
theorem dX6_kept_1 : decode cX6_kept 1 = .ok (.getfield 19, 3) := by decide +kernel
theorem dX6_kept_4 : decode cX6_kept 4 = .ok (.iload_n 1, 1) := by decide +kernel
theorem dX6_kept_5 : decode cX6_kept 5 = .ok (.invokevirtual 156, 3) := by decide +kernel
theorem dX6_kept_8 : decode cX6_kept 8 = .ok (.ifCond .ne 6, 3) := by decide +kernel
theorem dX6_kept_11 : decode cX6_kept 11 = .ok (.ldc 160, 2) := by decide +kernel
theorem dX6_kept_13 : decode cX6_kept 13 = .ok (.ireturn, 1) := by decide +kernel
theorem dX6_kept_14 : decode cX6_kept 14 = .ok (.aload_n 0, 1) := by decide +kernel
theorem dX6_kept_15 : decode cX6_kept 15 = .ok (.getfield 33, 3) := by decide +kernel
theorem dX6_kept_18 : decode cX6_kept 18 = .ok (.aload_n 0, 1) := by decide +kernel
theorem dX6_kept_19 : decode cX6_kept 19 = .ok (.getfield 29, 3) := by decide +kernel
theorem dX6_kept_22 : decode cX6_kept 22 = .ok (.invokevirtual 238, 3) := by decide +kernel
theorem dX6_kept_25 : decode cX6_kept 25 = .ok (.aload_n 0, 1) := by decide +kernel
theorem dX6_kept_26 : decode cX6_kept 26 = .ok (.getfield 33, 3) := by decide +kernel
theorem dX6_kept_29 : decode cX6_kept 29 = .ok (.aload_n 0, 1) := by decide +kernel
theorem dX6_kept_30 : decode cX6_kept 30 = .ok (.getfield 19, 3) := by decide +kernel
theorem dX6_kept_33 : decode cX6_kept 33 = .ok (.invokevirtual 241, 3) := by decide +kernel
theorem dX6_kept_36 : decode cX6_kept 36 = .ok (.iconst 1, 1) := by decide +kernel
theorem dX6_kept_37 : decode cX6_kept 37 = .ok (.istore_n 2, 1) := by decide +kernel
theorem dX6_kept_38 : decode cX6_kept 38 = .ok (.iload_n 2, 1) := by decide +kernel
theorem dX6_kept_39 : decode cX6_kept 39 = .ok (.bipush 24, 2) := by decide +kernel
theorem dX6_kept_41 : decode cX6_kept 41 = .ok (.if_icmp .ge 34, 3) := by decide +kernel
theorem dX6_kept_44 : decode cX6_kept 44 = .ok (.aload_n 0, 1) := by decide +kernel
theorem dX6_kept_45 : decode cX6_kept 45 = .ok (.getfield 33, 3) := by decide +kernel
theorem dX6_kept_48 : decode cX6_kept 48 = .ok (.aload_n 0, 1) := by decide +kernel
theorem dX6_kept_49 : decode cX6_kept 49 = .ok (.getfield 19, 3) := by decide +kernel
theorem dX6_kept_52 : decode cX6_kept 52 = .ok (.invokevirtual 244, 3) := by decide +kernel
theorem dX6_kept_55 : decode cX6_kept 55 = .ok (.ifCond .ne 20, 3) := by decide +kernel
theorem dX6_kept_58 : decode cX6_kept 58 = .ok (.aload_n 0, 1) := by decide +kernel
theorem dX6_kept_59 : decode cX6_kept 59 = .ok (.getfield 33, 3) := by decide +kernel
theorem dX6_kept_62 : decode cX6_kept 62 = .ok (.aload_n 0, 1) := by decide +kernel
theorem dX6_kept_63 : decode cX6_kept 63 = .ok (.getfield 19, 3) := by decide +kernel
theorem dX6_kept_66 : decode cX6_kept 66 = .ok (.invokevirtual 241, 3) := by decide +kernel
theorem dX6_kept_69 : decode cX6_kept 69 = .ok (.iinc 2 1, 3) := by decide +kernel
theorem dX6_kept_72 : decode cX6_kept 72 = .ok (.goto (-34), 3) := by decide +kernel
theorem dX6_kept_75 : decode cX6_kept 75 = .ok (.aload_n 0, 1) := by decide +kernel
theorem dX6_kept_76 : decode cX6_kept 76 = .ok (.getfield 33, 3) := by decide +kernel
theorem dX6_kept_79 : decode cX6_kept 79 = .ok (.getfield 164, 3) := by decide +kernel
theorem dX6_kept_82 : decode cX6_kept 82 = .ok (.iload_n 1, 1) := by decide +kernel
theorem dX6_kept_83 : decode cX6_kept 83 = .ok (.iaload, 1) := by decide +kernel
theorem dX6_kept_84 : decode cX6_kept 84 = .ok (.ireturn, 1) := by decide +kernel
theorem dX6_settled_0 : decode cX6_settled 0 = .ok (.iload_n 1, 1) := by decide +kernel
theorem dX6_settled_1 : decode cX6_settled 1 = .ok (.iconst 0, 1) := by decide +kernel
theorem dX6_settled_2 : decode cX6_settled 2 = .ok (.iconst 1, 1) := by decide +kernel
theorem dX6_settled_3 : decode cX6_settled 3 = .ok (.invokestatic 76, 3) := by decide +kernel
theorem dX6_settled_6 : decode cX6_settled 6 = .ok (.ifCond .eq 6, 3) := by decide +kernel
theorem dX6_settled_9 : decode cX6_settled 9 = .ok (.ldc 80, 2) := by decide +kernel
theorem dX6_settled_11 : decode cX6_settled 11 = .ok (.ireturn, 1) := by decide +kernel
theorem dX6_settled_12 : decode cX6_settled 12 = .ok (.aload_n 0, 1) := by decide +kernel
theorem dX6_settled_13 : decode cX6_settled 13 = .ok (.getfield 58, 3) := by decide +kernel
theorem dX6_settled_16 : decode cX6_settled 16 = .ok (.aload_n 0, 1) := by decide +kernel
theorem dX6_settled_17 : decode cX6_settled 17 = .ok (.getfield 19, 3) := by decide +kernel
theorem dX6_settled_20 : decode cX6_settled 20 = .ok (.aload_n 0, 1) := by decide +kernel
theorem dX6_settled_21 : decode cX6_settled 21 = .ok (.getfield 29, 3) := by decide +kernel
theorem dX6_settled_24 : decode cX6_settled 24 = .ok (.invokevirtual 248, 3) := by decide +kernel
theorem dX6_settled_27 : decode cX6_settled 27 = .ok (.istore_n 2, 1) := by decide +kernel
theorem dX6_settled_28 : decode cX6_settled 28 = .ok (.iload_n 1, 1) := by decide +kernel
theorem dX6_settled_29 : decode cX6_settled 29 = .ok (.ifCond .ne 10, 3) := by decide +kernel
theorem dX6_settled_32 : decode cX6_settled 32 = .ok (.iload_n 2, 1) := by decide +kernel
theorem dX6_settled_33 : decode cX6_settled 33 = .ok (.invokestatic 252, 3) := by decide +kernel
theorem dX6_settled_36 : decode cX6_settled 36 = .ok (.goto 4, 3) := by decide +kernel
theorem dX6_settled_39 : decode cX6_settled 39 = .ok (.iload_n 2, 1) := by decide +kernel
theorem dX6_settled_40 : decode cX6_settled 40 = .ok (.ireturn, 1) := by decide +kernel
theorem dX6_toFloat_0 : decode cX6_toFloat 0 = .ok (.aload_n 0, 1) := by decide +kernel
theorem dX6_toFloat_1 : decode cX6_toFloat 1 = .ok (.getfield 19, 3) := by decide +kernel
theorem dX6_toFloat_4 : decode cX6_toFloat 4 = .ok (.iload_n 1, 1) := by decide +kernel
theorem dX6_toFloat_5 : decode cX6_toFloat 5 = .ok (.invokevirtual 156, 3) := by decide +kernel
theorem dX6_toFloat_8 : decode cX6_toFloat 8 = .ok (.ifCond .ne 6, 3) := by decide +kernel
theorem dX6_toFloat_11 : decode cX6_toFloat 11 = .ok (.ldc 160, 2) := by decide +kernel
theorem dX6_toFloat_13 : decode cX6_toFloat 13 = .ok (.ireturn, 1) := by decide +kernel
theorem dX6_toFloat_14 : decode cX6_toFloat 14 = .ok (.aload_n 0, 1) := by decide +kernel
theorem dX6_toFloat_15 : decode cX6_toFloat 15 = .ok (.getfield 58, 3) := by decide +kernel
theorem dX6_toFloat_18 : decode cX6_toFloat 18 = .ok (.aload_n 0, 1) := by decide +kernel
theorem dX6_toFloat_19 : decode cX6_toFloat 19 = .ok (.getfield 19, 3) := by decide +kernel
theorem dX6_toFloat_22 : decode cX6_toFloat 22 = .ok (.aload_n 0, 1) := by decide +kernel
theorem dX6_toFloat_23 : decode cX6_toFloat 23 = .ok (.getfield 29, 3) := by decide +kernel
theorem dX6_toFloat_26 : decode cX6_toFloat 26 = .ok (.iload_n 1, 1) := by decide +kernel
theorem dX6_toFloat_27 : decode cX6_toFloat 27 = .ok (.invokevirtual 255, 3) := by decide +kernel
theorem dX6_toFloat_30 : decode cX6_toFloat 30 = .ok (.ireturn, 1) := by decide +kernel
theorem dX6_nets_0 : decode cX6_nets 0 = .ok (.iload_n 1, 1) := by decide +kernel
theorem dX6_nets_1 : decode cX6_nets 1 = .ok (.iconst 0, 1) := by decide +kernel
theorem dX6_nets_2 : decode cX6_nets 2 = .ok (.sipush 9999, 3) := by decide +kernel
theorem dX6_nets_5 : decode cX6_nets 5 = .ok (.invokestatic 76, 3) := by decide +kernel
theorem dX6_nets_8 : decode cX6_nets 8 = .ok (.ifCond .ne 13, 3) := by decide +kernel
theorem dX6_nets_11 : decode cX6_nets 11 = .ok (.iload_n 2, 1) := by decide +kernel
theorem dX6_nets_12 : decode cX6_nets 12 = .ok (.iconst 1, 1) := by decide +kernel
theorem dX6_nets_13 : decode cX6_nets 13 = .ok (.bipush 24, 2) := by decide +kernel
theorem dX6_nets_15 : decode cX6_nets 15 = .ok (.invokestatic 76, 3) := by decide +kernel
theorem dX6_nets_18 : decode cX6_nets 18 = .ok (.ifCond .eq 6, 3) := by decide +kernel
theorem dX6_nets_21 : decode cX6_nets 21 = .ok (.ldc 80, 2) := by decide +kernel
theorem dX6_nets_23 : decode cX6_nets 23 = .ok (.ireturn, 1) := by decide +kernel
theorem dX6_nets_24 : decode cX6_nets 24 = .ok (.aload_n 0, 1) := by decide +kernel
theorem dX6_nets_25 : decode cX6_nets 25 = .ok (.getfield 19, 3) := by decide +kernel
theorem dX6_nets_28 : decode cX6_nets 28 = .ok (.getfield 218, 3) := by decide +kernel
theorem dX6_nets_31 : decode cX6_nets 31 = .ok (.ifCond .ne 5, 3) := by decide +kernel
theorem dX6_nets_34 : decode cX6_nets 34 = .ok (.iconst (-1), 1) := by decide +kernel
theorem dX6_nets_35 : decode cX6_nets 35 = .ok (.ireturn, 1) := by decide +kernel
theorem dX6_nets_36 : decode cX6_nets 36 = .ok (.iconst (-1), 1) := by decide +kernel
theorem dX6_nets_37 : decode cX6_nets 37 = .ok (.istore_n 3, 1) := by decide +kernel
theorem dX6_nets_38 : decode cX6_nets 38 = .ok (.bipush 8, 2) := by decide +kernel
theorem dX6_nets_40 : decode cX6_nets 40 = .ok (.istore 4, 2) := by decide +kernel
theorem dX6_nets_42 : decode cX6_nets 42 = .ok (.iconst 0, 1) := by decide +kernel
theorem dX6_nets_43 : decode cX6_nets 43 = .ok (.istore 5, 2) := by decide +kernel
theorem dX6_nets_45 : decode cX6_nets 45 = .ok (.iload 5, 2) := by decide +kernel
theorem dX6_nets_47 : decode cX6_nets 47 = .ok (.iconst 1, 1) := by decide +kernel
theorem dX6_nets_48 : decode cX6_nets 48 = .ok (.aload_n 0, 1) := by decide +kernel
theorem dX6_nets_49 : decode cX6_nets 49 = .ok (.getfield 19, 3) := by decide +kernel
theorem dX6_nets_52 : decode cX6_nets 52 = .ok (.getfield 101, 3) := by decide +kernel
theorem dX6_nets_55 : decode cX6_nets 55 = .ok (.ishl, 1) := by decide +kernel
theorem dX6_nets_56 : decode cX6_nets 56 = .ok (.if_icmp .ge 66, 3) := by decide +kernel
theorem dX6_nets_59 : decode cX6_nets 59 = .ok (.iload 5, 2) := by decide +kernel
theorem dX6_nets_61 : decode cX6_nets 61 = .ok (.invokestatic 259, 3) := by decide +kernel
theorem dX6_nets_64 : decode cX6_nets 64 = .ok (.istore 6, 2) := by decide +kernel
theorem dX6_nets_66 : decode cX6_nets 66 = .ok (.iload 5, 2) := by decide +kernel
theorem dX6_nets_68 : decode cX6_nets 68 = .ok (.aload_n 0, 1) := by decide +kernel
theorem dX6_nets_69 : decode cX6_nets 69 = .ok (.getfield 29, 3) := by decide +kernel
theorem dX6_nets_72 : decode cX6_nets 72 = .ok (.getfield 123, 3) := by decide +kernel
theorem dX6_nets_75 : decode cX6_nets 75 = .ok (.iand, 1) := by decide +kernel
theorem dX6_nets_76 : decode cX6_nets 76 = .ok (.ifCond .ne 7, 3) := by decide +kernel
theorem dX6_nets_79 : decode cX6_nets 79 = .ok (.iconst 1, 1) := by decide +kernel
theorem dX6_nets_80 : decode cX6_nets 80 = .ok (.goto 4, 3) := by decide +kernel
theorem dX6_nets_83 : decode cX6_nets 83 = .ok (.iconst 0, 1) := by decide +kernel
theorem dX6_nets_84 : decode cX6_nets 84 = .ok (.istore 7, 2) := by decide +kernel
theorem dX6_nets_86 : decode cX6_nets 86 = .ok (.iload 7, 2) := by decide +kernel
theorem dX6_nets_88 : decode cX6_nets 88 = .ok (.ifCond .eq 28, 3) := by decide +kernel
theorem dX6_nets_91 : decode cX6_nets 91 = .ok (.iload 6, 2) := by decide +kernel
theorem dX6_nets_93 : decode cX6_nets 93 = .ok (.iload 4, 2) := by decide +kernel
theorem dX6_nets_95 : decode cX6_nets 95 = .ok (.if_icmp .ge 21, 3) := by decide +kernel
theorem dX6_nets_98 : decode cX6_nets 98 = .ok (.aload_n 0, 1) := by decide +kernel
theorem dX6_nets_99 : decode cX6_nets 99 = .ok (.iload 5, 2) := by decide +kernel
theorem dX6_nets_101 : decode cX6_nets 101 = .ok (.iload_n 2, 1) := by decide +kernel
theorem dX6_nets_102 : decode cX6_nets 102 = .ok (.invokevirtual 264, 3) := by decide +kernel
theorem dX6_nets_105 : decode cX6_nets 105 = .ok (.iload_n 1, 1) := by decide +kernel
theorem dX6_nets_106 : decode cX6_nets 106 = .ok (.if_icmp .lt 10, 3) := by decide +kernel
theorem dX6_nets_109 : decode cX6_nets 109 = .ok (.iload 5, 2) := by decide +kernel
theorem dX6_nets_111 : decode cX6_nets 111 = .ok (.istore_n 3, 1) := by decide +kernel
theorem dX6_nets_112 : decode cX6_nets 112 = .ok (.iload 6, 2) := by decide +kernel
theorem dX6_nets_114 : decode cX6_nets 114 = .ok (.istore 4, 2) := by decide +kernel
theorem dX6_nets_116 : decode cX6_nets 116 = .ok (.iinc 5 1, 3) := by decide +kernel
theorem dX6_nets_119 : decode cX6_nets 119 = .ok (.goto (-74), 3) := by decide +kernel
theorem dX6_nets_122 : decode cX6_nets 122 = .ok (.iload_n 3, 1) := by decide +kernel
theorem dX6_nets_123 : decode cX6_nets 123 = .ok (.ireturn, 1) := by decide +kernel
theorem dX6_calm_0 : decode cX6_calm 0 = .ok (.iload_n 1, 1) := by decide +kernel
theorem dX6_calm_1 : decode cX6_calm 1 = .ok (.iconst 0, 1) := by decide +kernel
theorem dX6_calm_2 : decode cX6_calm 2 = .ok (.bipush 60, 2) := by decide +kernel
theorem dX6_calm_4 : decode cX6_calm 4 = .ok (.invokestatic 76, 3) := by decide +kernel
theorem dX6_calm_7 : decode cX6_calm 7 = .ok (.ifCond .ne 13, 3) := by decide +kernel
theorem dX6_calm_10 : decode cX6_calm 10 = .ok (.iload_n 2, 1) := by decide +kernel
theorem dX6_calm_11 : decode cX6_calm 11 = .ok (.iconst 0, 1) := by decide +kernel
theorem dX6_calm_12 : decode cX6_calm 12 = .ok (.bipush 100, 2) := by decide +kernel
theorem dX6_calm_14 : decode cX6_calm 14 = .ok (.invokestatic 76, 3) := by decide +kernel
theorem dX6_calm_17 : decode cX6_calm 17 = .ok (.ifCond .eq 6, 3) := by decide +kernel
theorem dX6_calm_20 : decode cX6_calm 20 = .ok (.ldc 80, 2) := by decide +kernel
theorem dX6_calm_22 : decode cX6_calm 22 = .ok (.ireturn, 1) := by decide +kernel
theorem dX6_calm_23 : decode cX6_calm 23 = .ok (.ldc2_w 268, 3) := by decide +kernel
theorem dX6_calm_26 : decode cX6_calm 26 = .ok (.lstore_n 3, 1) := by decide +kernel
theorem dX6_calm_27 : decode cX6_calm 27 = .ok (.iconst 0, 1) := by decide +kernel
theorem dX6_calm_28 : decode cX6_calm 28 = .ok (.istore 5, 2) := by decide +kernel
theorem dX6_calm_30 : decode cX6_calm 30 = .ok (.iload 5, 2) := by decide +kernel
theorem dX6_calm_32 : decode cX6_calm 32 = .ok (.iload_n 1, 1) := by decide +kernel
theorem dX6_calm_33 : decode cX6_calm 33 = .ok (.if_icmp .ge 18, 3) := by decide +kernel
theorem dX6_calm_36 : decode cX6_calm 36 = .ok (.lload_n 3, 1) := by decide +kernel
theorem dX6_calm_37 : decode cX6_calm 37 = .ok (.iload_n 2, 1) := by decide +kernel
theorem dX6_calm_38 : decode cX6_calm 38 = .ok (.i2l, 1) := by decide +kernel
theorem dX6_calm_39 : decode cX6_calm 39 = .ok (.lmul, 1) := by decide +kernel
theorem dX6_calm_40 : decode cX6_calm 40 = .ok (.ldc2_w 270, 3) := by decide +kernel
theorem dX6_calm_43 : decode cX6_calm 43 = .ok (.ldiv, 1) := by decide +kernel
theorem dX6_calm_44 : decode cX6_calm 44 = .ok (.lstore_n 3, 1) := by decide +kernel
theorem dX6_calm_45 : decode cX6_calm 45 = .ok (.iinc 5 1, 3) := by decide +kernel
theorem dX6_calm_48 : decode cX6_calm 48 = .ok (.goto (-18), 3) := by decide +kernel
theorem dX6_calm_51 : decode cX6_calm 51 = .ok (.lload_n 3, 1) := by decide +kernel
theorem dX6_calm_52 : decode cX6_calm 52 = .ok (.l2i, 1) := by decide +kernel
theorem dX6_calm_53 : decode cX6_calm 53 = .ok (.ireturn, 1) := by decide +kernel
theorem dX6_watch_0 : decode cX6_watch 0 = .ok (.iload_n 1, 1) := by decide +kernel
theorem dX6_watch_1 : decode cX6_watch 1 = .ok (.iconst 0, 1) := by decide +kernel
theorem dX6_watch_2 : decode cX6_watch 2 = .ok (.bipush 99, 2) := by decide +kernel
theorem dX6_watch_4 : decode cX6_watch 4 = .ok (.invokestatic 76, 3) := by decide +kernel
theorem dX6_watch_7 : decode cX6_watch 7 = .ok (.ifCond .eq 6, 3) := by decide +kernel
theorem dX6_watch_10 : decode cX6_watch 10 = .ok (.ldc 80, 2) := by decide +kernel
theorem dX6_watch_12 : decode cX6_watch 12 = .ok (.ireturn, 1) := by decide +kernel
theorem dX6_watch_13 : decode cX6_watch 13 = .ok (.aload_n 0, 1) := by decide +kernel
theorem dX6_watch_14 : decode cX6_watch 14 = .ok (.getfield 65, 3) := by decide +kernel
theorem dX6_watch_17 : decode cX6_watch 17 = .ok (.getfield 144, 3) := by decide +kernel
theorem dX6_watch_20 : decode cX6_watch 20 = .ok (.bipush 6, 2) := by decide +kernel
theorem dX6_watch_22 : decode cX6_watch 22 = .ok (.if_icmp .lt 6, 3) := by decide +kernel
theorem dX6_watch_25 : decode cX6_watch 25 = .ok (.ldc 84, 2) := by decide +kernel
theorem dX6_watch_27 : decode cX6_watch 27 = .ok (.ireturn, 1) := by decide +kernel
theorem dX6_watch_28 : decode cX6_watch 28 = .ok (.aload_n 0, 1) := by decide +kernel
theorem dX6_watch_29 : decode cX6_watch 29 = .ok (.getfield 65, 3) := by decide +kernel
