/-! decode rows: the reference -/
theorem dX12_in_0 : decode cX12_in 0 = .ok (.lload_n 0, 1) := by decide +kernel
theorem dX12_in_1 : decode cX12_in 1 = .ok (.lload_n 2, 1) := by decide +kernel
theorem dX12_in_2 : decode cX12_in 2 = .ok (.lcmp, 1) := by decide +kernel
theorem dX12_in_3 : decode cX12_in 3 = .ok (.ifCond .lt 14, 3) := by decide +kernel
theorem dX12_in_6 : decode cX12_in 6 = .ok (.lload_n 0, 1) := by decide +kernel
theorem dX12_in_7 : decode cX12_in 7 = .ok (.lload 4, 2) := by decide +kernel
theorem dX12_in_9 : decode cX12_in 9 = .ok (.lcmp, 1) := by decide +kernel
theorem dX12_in_10 : decode cX12_in 10 = .ok (.ifCond .gt 7, 3) := by decide +kernel
theorem dX12_in_13 : decode cX12_in 13 = .ok (.iconst 1, 1) := by decide +kernel
theorem dX12_in_14 : decode cX12_in 14 = .ok (.goto 4, 3) := by decide +kernel
theorem dX12_in_17 : decode cX12_in 17 = .ok (.iconst 0, 1) := by decide +kernel
theorem dX12_in_18 : decode cX12_in 18 = .ok (.ireturn, 1) := by decide +kernel
theorem dX12_lesser_0 : decode cX12_lesser 0 = .ok (.iload_n 0, 1) := by decide +kernel
theorem dX12_lesser_1 : decode cX12_lesser 1 = .ok (.iload_n 1, 1) := by decide +kernel
theorem dX12_lesser_2 : decode cX12_lesser 2 = .ok (.if_icmp .ge 7, 3) := by decide +kernel
theorem dX12_lesser_5 : decode cX12_lesser 5 = .ok (.iload_n 0, 1) := by decide +kernel
theorem dX12_lesser_6 : decode cX12_lesser 6 = .ok (.goto 4, 3) := by decide +kernel
theorem dX12_lesser_9 : decode cX12_lesser 9 = .ok (.iload_n 1, 1) := by decide +kernel
theorem dX12_lesser_10 : decode cX12_lesser 10 = .ok (.ireturn, 1) := by decide +kernel
theorem dX12_greater_0 : decode cX12_greater 0 = .ok (.iload_n 0, 1) := by decide +kernel
theorem dX12_greater_1 : decode cX12_greater 1 = .ok (.iload_n 1, 1) := by decide +kernel
theorem dX12_greater_2 : decode cX12_greater 2 = .ok (.if_icmp .le 7, 3) := by decide +kernel
theorem dX12_greater_5 : decode cX12_greater 5 = .ok (.iload_n 0, 1) := by decide +kernel
theorem dX12_greater_6 : decode cX12_greater 6 = .ok (.goto 4, 3) := by decide +kernel
theorem dX12_greater_9 : decode cX12_greater 9 = .ok (.iload_n 1, 1) := by decide +kernel
theorem dX12_greater_10 : decode cX12_greater 10 = .ok (.ireturn, 1) := by decide +kernel
theorem dX12_init_0 : decode cX12_init 0 = .ok (.aload_n 0, 1) := by decide +kernel
theorem dX12_init_1 : decode cX12_init 1 = .ok (.invokespecial 1, 3) := by decide +kernel
theorem dX12_init_4 : decode cX12_init 4 = .ok (.aload_n 0, 1) := by decide +kernel
theorem dX12_init_5 : decode cX12_init 5 = .ok (.iconst 5, 1) := by decide +kernel
theorem dX12_init_6 : decode cX12_init 6 = .ok (.newarray .int, 2) := by decide +kernel
theorem dX12_init_8 : decode cX12_init 8 = .ok (.putfield 7, 3) := by decide +kernel
theorem dX12_init_11 : decode cX12_init 11 = .ok (.aload_n 0, 1) := by decide +kernel
theorem dX12_init_12 : decode cX12_init 12 = .ok (.bipush 6, 2) := by decide +kernel
theorem dX12_init_14 : decode cX12_init 14 = .ok (.newarray .int, 2) := by decide +kernel
theorem dX12_init_16 : decode cX12_init 16 = .ok (.putfield 13, 3) := by decide +kernel
theorem dX12_init_19 : decode cX12_init 19 = .ok (.aload_n 0, 1) := by decide +kernel
theorem dX12_init_20 : decode cX12_init 20 = .ok (.bipush 20, 2) := by decide +kernel
theorem dX12_init_22 : decode cX12_init 22 = .ok (.newarray .int, 2) := by decide +kernel
theorem dX12_init_24 : decode cX12_init 24 = .ok (.putfield 16, 3) := by decide +kernel
theorem dX12_init_27 : decode cX12_init 27 = .ok (.aload_n 0, 1) := by decide +kernel
theorem dX12_init_28 : decode cX12_init 28 = .ok (.sipush 600, 3) := by decide +kernel
theorem dX12_init_31 : decode cX12_init 31 = .ok (.newarray .int, 2) := by decide +kernel
theorem dX12_init_33 : decode cX12_init 33 = .ok (.putfield 19, 3) := by decide +kernel
theorem dX12_init_36 : decode cX12_init 36 = .ok (.aload_n 0, 1) := by decide +kernel
theorem dX12_init_37 : decode cX12_init 37 = .ok (.bipush 40, 2) := by decide +kernel
theorem dX12_init_39 : decode cX12_init 39 = .ok (.newarray .int, 2) := by decide +kernel
theorem dX12_init_41 : decode cX12_init 41 = .ok (.putfield 22, 3) := by decide +kernel
theorem dX12_init_44 : decode cX12_init 44 = .ok (.aload_n 0, 1) := by decide +kernel
theorem dX12_init_45 : decode cX12_init 45 = .ok (.iconst 2, 1) := by decide +kernel
theorem dX12_init_46 : decode cX12_init 46 = .ok (.newarray .boolean, 2) := by decide +kernel
theorem dX12_init_48 : decode cX12_init 48 = .ok (.putfield 25, 3) := by decide +kernel
theorem dX12_init_51 : decode cX12_init 51 = .ok (.aload_n 0, 1) := by decide +kernel
theorem dX12_init_52 : decode cX12_init 52 = .ok (.bipush 48, 2) := by decide +kernel
theorem dX12_init_54 : decode cX12_init 54 = .ok (.newarray .int, 2) := by decide +kernel
theorem dX12_init_56 : decode cX12_init 56 = .ok (.putfield 29, 3) := by decide +kernel
theorem dX12_init_59 : decode cX12_init 59 = .ok (.aload_n 0, 1) := by decide +kernel
theorem dX12_init_60 : decode cX12_init 60 = .ok (.bipush 40, 2) := by decide +kernel
theorem dX12_init_62 : decode cX12_init 62 = .ok (.newarray .int, 2) := by decide +kernel
theorem dX12_init_64 : decode cX12_init 64 = .ok (.putfield 32, 3) := by decide +kernel
theorem dX12_init_67 : decode cX12_init 67 = .ok (.aload_n 0, 1) := by decide +kernel
theorem dX12_init_68 : decode cX12_init 68 = .ok (.sipush 200, 3) := by decide +kernel
theorem dX12_init_71 : decode cX12_init 71 = .ok (.newarray .int, 2) := by decide +kernel
theorem dX12_init_73 : decode cX12_init 73 = .ok (.putfield 35, 3) := by decide +kernel
theorem dX12_init_76 : decode cX12_init 76 = .ok (.aload_n 0, 1) := by decide +kernel
theorem dX12_init_77 : decode cX12_init 77 = .ok (.iconst 5, 1) := by decide +kernel
theorem dX12_init_78 : decode cX12_init 78 = .ok (.newarray .int, 2) := by decide +kernel
theorem dX12_init_80 : decode cX12_init 80 = .ok (.putfield 38, 3) := by decide +kernel
theorem dX12_init_83 : decode cX12_init 83 = .ok (.aload_n 0, 1) := by decide +kernel
theorem dX12_init_84 : decode cX12_init 84 = .ok (.iconst 5, 1) := by decide +kernel
theorem dX12_init_85 : decode cX12_init 85 = .ok (.newarray .int, 2) := by decide +kernel
theorem dX12_init_87 : decode cX12_init 87 = .ok (.putfield 41, 3) := by decide +kernel
theorem dX12_init_90 : decode cX12_init 90 = .ok (.aload_n 0, 1) := by decide +kernel
theorem dX12_init_91 : decode cX12_init 91 = .ok (.bipush 6, 2) := by decide +kernel
theorem dX12_init_93 : decode cX12_init 93 = .ok (.newarray .int, 2) := by decide +kernel
theorem dX12_init_95 : decode cX12_init 95 = .ok (.putfield 44, 3) := by decide +kernel
theorem dX12_init_98 : decode cX12_init 98 = .ok (.aload_n 0, 1) := by decide +kernel
theorem dX12_init_99 : decode cX12_init 99 = .ok (.bipush 6, 2) := by decide +kernel
theorem dX12_init_101 : decode cX12_init 101 = .ok (.newarray .int, 2) := by decide +kernel
theorem dX12_init_103 : decode cX12_init 103 = .ok (.putfield 47, 3) := by decide +kernel
theorem dX12_init_106 : decode cX12_init 106 = .ok (.aload_n 0, 1) := by decide +kernel
theorem dX12_init_107 : decode cX12_init 107 = .ok (.iconst 3, 1) := by decide +kernel
theorem dX12_init_108 : decode cX12_init 108 = .ok (.newarray .int, 2) := by decide +kernel
theorem dX12_init_110 : decode cX12_init 110 = .ok (.putfield 50, 3) := by decide +kernel
theorem dX12_init_113 : decode cX12_init 113 = .ok (.aload_n 0, 1) := by decide +kernel
theorem dX12_init_114 : decode cX12_init 114 = .ok (.bipush 20, 2) := by decide +kernel
theorem dX12_init_116 : decode cX12_init 116 = .ok (.newarray .int, 2) := by decide +kernel
theorem dX12_init_118 : decode cX12_init 118 = .ok (.putfield 53, 3) := by decide +kernel
theorem dX12_init_121 : decode cX12_init 121 = .ok (.aload_n 0, 1) := by decide +kernel
theorem dX12_init_122 : decode cX12_init 122 = .ok (.bipush 100, 2) := by decide +kernel
theorem dX12_init_124 : decode cX12_init 124 = .ok (.newarray .int, 2) := by decide +kernel
theorem dX12_init_126 : decode cX12_init 126 = .ok (.putfield 56, 3) := by decide +kernel
theorem dX12_init_129 : decode cX12_init 129 = .ok (.aload_n 0, 1) := by decide +kernel
theorem dX12_init_130 : decode cX12_init 130 = .ok (.iconst 5, 1) := by decide +kernel
theorem dX12_init_131 : decode cX12_init 131 = .ok (.newarray .int, 2) := by decide +kernel
theorem dX12_init_133 : decode cX12_init 133 = .ok (.putfield 59, 3) := by decide +kernel
theorem dX12_init_136 : decode cX12_init 136 = .ok (.aload_n 0, 1) := by decide +kernel
theorem dX12_init_137 : decode cX12_init 137 = .ok (.iconst 4, 1) := by decide +kernel
theorem dX12_init_138 : decode cX12_init 138 = .ok (.newarray .int, 2) := by decide +kernel
theorem dX12_init_140 : decode cX12_init 140 = .ok (.putfield 62, 3) := by decide +kernel
theorem dX12_init_143 : decode cX12_init 143 = .ok (.aload_n 0, 1) := by decide +kernel
theorem dX12_init_144 : decode cX12_init 144 = .ok (.iconst 5, 1) := by decide +kernel
theorem dX12_init_145 : decode cX12_init 145 = .ok (.newarray .int, 2) := by decide +kernel
theorem dX12_init_147 : decode cX12_init 147 = .ok (.putfield 65, 3) := by decide +kernel
theorem dX12_init_150 : decode cX12_init 150 = .ok (.aload_n 0, 1) := by decide +kernel
theorem dX12_init_151 : decode cX12_init 151 = .ok (.sipush 606, 3) := by decide +kernel
theorem dX12_init_154 : decode cX12_init 154 = .ok (.newarray .int, 2) := by decide +kernel
theorem dX12_init_156 : decode cX12_init 156 = .ok (.putfield 68, 3) := by decide +kernel
theorem dX12_init_159 : decode cX12_init 159 = .ok (.aload_n 0, 1) := by decide +kernel
theorem dX12_init_160 : decode cX12_init 160 = .ok (.sipush 500, 3) := by decide +kernel
theorem dX12_init_163 : decode cX12_init 163 = .ok (.newarray .int, 2) := by decide +kernel
theorem dX12_init_165 : decode cX12_init 165 = .ok (.putfield 71, 3) := by decide +kernel
theorem dX12_init_168 : decode cX12_init 168 = .ok (.aload_n 0, 1) := by decide +kernel
theorem dX12_init_169 : decode cX12_init 169 = .ok (.iconst 5, 1) := by decide +kernel
theorem dX12_init_170 : decode cX12_init 170 = .ok (.newarray .int, 2) := by decide +kernel
theorem dX12_init_172 : decode cX12_init 172 = .ok (.putfield 74, 3) := by decide +kernel
theorem dX12_init_175 : decode cX12_init 175 = .ok (.aload_n 0, 1) := by decide +kernel
theorem dX12_init_176 : decode cX12_init 176 = .ok (.iconst (-1), 1) := by decide +kernel
theorem dX12_init_177 : decode cX12_init 177 = .ok (.putfield 77, 3) := by decide +kernel
theorem dX12_init_180 : decode cX12_init 180 = .ok (.aload_n 0, 1) := by decide +kernel
theorem dX12_init_181 : decode cX12_init 181 = .ok (.iconst 5, 1) := by decide +kernel
theorem dX12_init_182 : decode cX12_init 182 = .ok (.putfield 81, 3) := by decide +kernel
theorem dX12_init_185 : decode cX12_init 185 = .ok (.aload_n 0, 1) := by decide +kernel
theorem dX12_init_186 : decode cX12_init 186 = .ok (.getfield 16, 3) := by decide +kernel
theorem dX12_init_189 : decode cX12_init 189 = .ok (.iconst 0, 1) := by decide +kernel
theorem dX12_init_190 : decode cX12_init 190 = .ok (.iconst (-1), 1) := by decide +kernel
theorem dX12_init_191 : decode cX12_init 191 = .ok (.iastore, 1) := by decide +kernel
theorem dX12_init_192 : decode cX12_init 192 = .ok (.aload_n 0, 1) := by decide +kernel
theorem dX12_init_193 : decode cX12_init 193 = .ok (.getfield 16, 3) := by decide +kernel
theorem dX12_init_196 : decode cX12_init 196 = .ok (.iconst 1, 1) := by decide +kernel
theorem dX12_init_197 : decode cX12_init 197 = .ok (.bipush 20, 2) := by decide +kernel
theorem dX12_init_199 : decode cX12_init 199 = .ok (.iastore, 1) := by decide +kernel
theorem dX12_init_200 : decode cX12_init 200 = .ok (.iconst 0, 1) := by decide +kernel
theorem dX12_init_201 : decode cX12_init 201 = .ok (.istore_n 1, 1) := by decide +kernel
theorem dX12_init_202 : decode cX12_init 202 = .ok (.iload_n 1, 1) := by decide +kernel
theorem dX12_init_203 : decode cX12_init 203 = .ok (.bipush 6, 2) := by decide +kernel
theorem dX12_init_205 : decode cX12_init 205 = .ok (.if_icmp .ge 26, 3) := by decide +kernel
theorem dX12_init_208 : decode cX12_init 208 = .ok (.aload_n 0, 1) := by decide +kernel
theorem dX12_init_209 : decode cX12_init 209 = .ok (.getfield 13, 3) := by decide +kernel
theorem dX12_init_212 : decode cX12_init 212 = .ok (.iload_n 1, 1) := by decide +kernel
theorem dX12_init_213 : decode cX12_init 213 = .ok (.iconst 1, 1) := by decide +kernel
theorem dX12_init_214 : decode cX12_init 214 = .ok (.iastore, 1) := by decide +kernel
theorem dX12_init_215 : decode cX12_init 215 = .ok (.aload_n 0, 1) := by decide +kernel
theorem dX12_init_216 : decode cX12_init 216 = .ok (.getfield 16, 3) := by decide +kernel
theorem dX12_init_219 : decode cX12_init 219 = .ok (.bipush 14, 2) := by decide +kernel
theorem dX12_init_221 : decode cX12_init 221 = .ok (.iload_n 1, 1) := by decide +kernel
theorem dX12_init_222 : decode cX12_init 222 = .ok (.iadd, 1) := by decide +kernel
theorem dX12_init_223 : decode cX12_init 223 = .ok (.iconst 4, 1) := by decide +kernel
theorem dX12_init_224 : decode cX12_init 224 = .ok (.iastore, 1) := by decide +kernel
theorem dX12_init_225 : decode cX12_init 225 = .ok (.iinc 1 1, 3) := by decide +kernel
theorem dX12_init_228 : decode cX12_init 228 = .ok (.goto (-26), 3) := by decide +kernel
theorem dX12_init_231 : decode cX12_init 231 = .ok (.return_, 1) := by decide +kernel
theorem dX12_feed_0 : decode cX12_feed 0 = .ok (.iload_n 1, 1) := by decide +kernel
theorem dX12_feed_1 : decode cX12_feed 1 = .ok (.i2l, 1) := by decide +kernel
theorem dX12_feed_2 : decode cX12_feed 2 = .ok (.lconst 0, 1) := by decide +kernel
theorem dX12_feed_3 : decode cX12_feed 3 = .ok (.ldc2_w 84, 3) := by decide +kernel
theorem dX12_feed_6 : decode cX12_feed 6 = .ok (.invokestatic 86, 3) := by decide +kernel
theorem dX12_feed_9 : decode cX12_feed 9 = .ok (.ifCond .ne 6, 3) := by decide +kernel
theorem dX12_feed_12 : decode cX12_feed 12 = .ok (.ldc 90, 2) := by decide +kernel
theorem dX12_feed_14 : decode cX12_feed 14 = .ok (.ireturn, 1) := by decide +kernel
theorem dX12_feed_15 : decode cX12_feed 15 = .ok (.aload_n 0, 1) := by decide +kernel
theorem dX12_feed_16 : decode cX12_feed 16 = .ok (.getfield 91, 3) := by decide +kernel
theorem dX12_feed_19 : decode cX12_feed 19 = .ok (.sipush 200, 3) := by decide +kernel
theorem dX12_feed_22 : decode cX12_feed 22 = .ok (.if_icmp .ne 6, 3) := by decide +kernel
theorem dX12_feed_25 : decode cX12_feed 25 = .ok (.ldc 94, 2) := by decide +kernel
theorem dX12_feed_27 : decode cX12_feed 27 = .ok (.ireturn, 1) := by decide +kernel
theorem dX12_feed_28 : decode cX12_feed 28 = .ok (.aload_n 0, 1) := by decide +kernel
theorem dX12_feed_29 : decode cX12_feed 29 = .ok (.getfield 35, 3) := by decide +kernel
theorem dX12_feed_32 : decode cX12_feed 32 = .ok (.aload_n 0, 1) := by decide +kernel
theorem dX12_feed_33 : decode cX12_feed 33 = .ok (.getfield 91, 3) := by decide +kernel
theorem dX12_feed_36 : decode cX12_feed 36 = .ok (.iload_n 1, 1) := by decide +kernel
theorem dX12_feed_37 : decode cX12_feed 37 = .ok (.iastore, 1) := by decide +kernel
theorem dX12_feed_38 : decode cX12_feed 38 = .ok (.aload_n 0, 1) := by decide +kernel
theorem dX12_feed_39 : decode cX12_feed 39 = .ok (.dup, 1) := by decide +kernel
theorem dX12_feed_40 : decode cX12_feed 40 = .ok (.getfield 91, 3) := by decide +kernel
theorem dX12_feed_43 : decode cX12_feed 43 = .ok (.iconst 1, 1) := by decide +kernel
theorem dX12_feed_44 : decode cX12_feed 44 = .ok (.iadd, 1) := by decide +kernel
theorem dX12_feed_45 : decode cX12_feed 45 = .ok (.putfield 91, 3) := by decide +kernel
theorem dX12_feed_48 : decode cX12_feed 48 = .ok (.aload_n 0, 1) := by decide +kernel
theorem dX12_feed_49 : decode cX12_feed 49 = .ok (.getfield 91, 3) := by decide +kernel
theorem dX12_feed_52 : decode cX12_feed 52 = .ok (.ireturn, 1) := by decide +kernel
theorem dX12_isAt_0 : decode cX12_isAt 0 = .ok (.aload_n 0, 1) := by decide +kernel
theorem dX12_isAt_1 : decode cX12_isAt 1 = .ok (.getfield 95, 3) := by decide +kernel
theorem dX12_isAt_4 : decode cX12_isAt 4 = .ok (.aload_n 0, 1) := by decide +kernel
theorem dX12_isAt_5 : decode cX12_isAt 5 = .ok (.getfield 91, 3) := by decide +kernel
theorem dX12_isAt_8 : decode cX12_isAt 8 = .ok (.if_icmp .ge 27, 3) := by decide +kernel
theorem dX12_isAt_11 : decode cX12_isAt 11 = .ok (.aload_n 0, 1) := by decide +kernel
theorem dX12_isAt_12 : decode cX12_isAt 12 = .ok (.getfield 35, 3) := by decide +kernel
theorem dX12_isAt_15 : decode cX12_isAt 15 = .ok (.aload_n 0, 1) := by decide +kernel
theorem dX12_isAt_16 : decode cX12_isAt 16 = .ok (.getfield 95, 3) := by decide +kernel
theorem dX12_isAt_19 : decode cX12_isAt 19 = .ok (.iaload, 1) := by decide +kernel
theorem dX12_isAt_20 : decode cX12_isAt 20 = .ok (.i2l, 1) := by decide +kernel
theorem dX12_isAt_21 : decode cX12_isAt 21 = .ok (.iload_n 1, 1) := by decide +kernel
theorem dX12_isAt_22 : decode cX12_isAt 22 = .ok (.i2l, 1) := by decide +kernel
theorem dX12_isAt_23 : decode cX12_isAt 23 = .ok (.iload_n 2, 1) := by decide +kernel
theorem dX12_isAt_24 : decode cX12_isAt 24 = .ok (.i2l, 1) := by decide +kernel
theorem dX12_isAt_25 : decode cX12_isAt 25 = .ok (.invokestatic 86, 3) := by decide +kernel
theorem dX12_isAt_28 : decode cX12_isAt 28 = .ok (.ifCond .eq 7, 3) := by decide +kernel
theorem dX12_isAt_31 : decode cX12_isAt 31 = .ok (.iconst 1, 1) := by decide +kernel
theorem dX12_isAt_32 : decode cX12_isAt 32 = .ok (.goto 4, 3) := by decide +kernel
theorem dX12_isAt_35 : decode cX12_isAt 35 = .ok (.iconst 0, 1) := by decide +kernel
theorem dX12_isAt_36 : decode cX12_isAt 36 = .ok (.ireturn, 1) := by decide +kernel
theorem dX12_skips_0 : decode cX12_skips 0 = .ok (.aload_n 0, 1) := by decide +kernel
theorem dX12_skips_1 : decode cX12_skips 1 = .ok (.bipush 32, 2) := by decide +kernel
theorem dX12_skips_3 : decode cX12_skips 3 = .ok (.bipush 32, 2) := by decide +kernel
theorem dX12_skips_5 : decode cX12_skips 5 = .ok (.invokevirtual 98, 3) := by decide +kernel
theorem dX12_skips_8 : decode cX12_skips 8 = .ok (.ifCond .eq 21, 3) := by decide +kernel
theorem dX12_skips_11 : decode cX12_skips 11 = .ok (.aload_n 0, 1) := by decide +kernel
theorem dX12_skips_12 : decode cX12_skips 12 = .ok (.dup, 1) := by decide +kernel
theorem dX12_skips_13 : decode cX12_skips 13 = .ok (.getfield 95, 3) := by decide +kernel
theorem dX12_skips_16 : decode cX12_skips 16 = .ok (.iconst 1, 1) := by decide +kernel
theorem dX12_skips_17 : decode cX12_skips 17 = .ok (.iadd, 1) := by decide +kernel
theorem dX12_skips_18 : decode cX12_skips 18 = .ok (.putfield 95, 3) := by decide +kernel
theorem dX12_skips_21 : decode cX12_skips 21 = .ok (.aload_n 0, 1) := by decide +kernel
theorem dX12_skips_22 : decode cX12_skips 22 = .ok (.iconst 0, 1) := by decide +kernel
theorem dX12_skips_23 : decode cX12_skips 23 = .ok (.putfield 102, 3) := by decide +kernel
theorem dX12_skips_26 : decode cX12_skips 26 = .ok (.goto (-26), 3) := by decide +kernel
theorem dX12_skips_29 : decode cX12_skips 29 = .ok (.return_, 1) := by decide +kernel
theorem dX12_fails_0 : decode cX12_fails 0 = .ok (.aload_n 0, 1) := by decide +kernel
theorem dX12_fails_1 : decode cX12_fails 1 = .ok (.iload_n 1, 1) := by decide +kernel
theorem dX12_fails_2 : decode cX12_fails 2 = .ok (.putfield 106, 3) := by decide +kernel
theorem dX12_fails_5 : decode cX12_fails 5 = .ok (.iconst 0, 1) := by decide +kernel
theorem dX12_fails_6 : decode cX12_fails 6 = .ok (.ireturn, 1) := by decide +kernel
theorem dX12_number_0 : decode cX12_number 0 = .ok (.aload_n 0, 1) := by decide +kernel
theorem dX12_number_1 : decode cX12_number 1 = .ok (.invokevirtual 109, 3) := by decide +kernel
theorem dX12_number_4 : decode cX12_number 4 = .ok (.aload_n 0, 1) := by decide +kernel
theorem dX12_number_5 : decode cX12_number 5 = .ok (.bipush 48, 2) := by decide +kernel
theorem dX12_number_7 : decode cX12_number 7 = .ok (.bipush 57, 2) := by decide +kernel
theorem dX12_number_9 : decode cX12_number 9 = .ok (.invokevirtual 98, 3) := by decide +kernel
theorem dX12_number_12 : decode cX12_number 12 = .ok (.ifCond .eq 10, 3) := by decide +kernel
theorem dX12_number_15 : decode cX12_number 15 = .ok (.aload_n 0, 1) := by decide +kernel
theorem dX12_number_16 : decode cX12_number 16 = .ok (.getfield 102, 3) := by decide +kernel
theorem dX12_number_19 : decode cX12_number 19 = .ok (.ifCond .eq 9, 3) := by decide +kernel
theorem dX12_number_22 : decode cX12_number 22 = .ok (.aload_n 0, 1) := by decide +kernel
theorem dX12_number_23 : decode cX12_number 23 = .ok (.iconst 1, 1) := by decide +kernel
theorem dX12_number_24 : decode cX12_number 24 = .ok (.invokevirtual 112, 3) := by decide +kernel
theorem dX12_number_27 : decode cX12_number 27 = .ok (.ireturn, 1) := by decide +kernel
theorem dX12_number_28 : decode cX12_number 28 = .ok (.aload_n 0, 1) := by decide +kernel
theorem dX12_number_29 : decode cX12_number 29 = .ok (.getfield 95, 3) := by decide +kernel
theorem dX12_number_32 : decode cX12_number 32 = .ok (.istore_n 3, 1) := by decide +kernel
theorem dX12_number_33 : decode cX12_number 33 = .ok (.aload_n 0, 1) := by decide +kernel
theorem dX12_number_34 : decode cX12_number 34 = .ok (.iconst 0, 1) := by decide +kernel
theorem dX12_number_35 : decode cX12_number 35 = .ok (.putfield 116, 3) := by decide +kernel
theorem dX12_number_38 : decode cX12_number 38 = .ok (.aload_n 0, 1) := by decide +kernel
theorem dX12_number_39 : decode cX12_number 39 = .ok (.bipush 48, 2) := by decide +kernel
theorem dX12_number_41 : decode cX12_number 41 = .ok (.bipush 57, 2) := by decide +kernel
theorem dX12_number_43 : decode cX12_number 43 = .ok (.invokevirtual 98, 3) := by decide +kernel
theorem dX12_number_46 : decode cX12_number 46 = .ok (.ifCond .eq 55, 3) := by decide +kernel
theorem dX12_number_49 : decode cX12_number 49 = .ok (.aload_n 0, 1) := by decide +kernel
theorem dX12_number_50 : decode cX12_number 50 = .ok (.aload_n 0, 1) := by decide +kernel
theorem dX12_number_51 : decode cX12_number 51 = .ok (.getfield 95, 3) := by decide +kernel
theorem dX12_number_54 : decode cX12_number 54 = .ok (.iload_n 3, 1) := by decide +kernel
theorem dX12_number_55 : decode cX12_number 55 = .ok (.isub, 1) := by decide +kernel
theorem dX12_number_56 : decode cX12_number 56 = .ok (.iconst 3, 1) := by decide +kernel
theorem dX12_number_57 : decode cX12_number 57 = .ok (.if_icmp .ge 26, 3) := by decide +kernel
theorem dX12_number_60 : decode cX12_number 60 = .ok (.bipush 10, 2) := by decide +kernel
theorem dX12_number_62 : decode cX12_number 62 = .ok (.aload_n 0, 1) := by decide +kernel
theorem dX12_number_63 : decode cX12_number 63 = .ok (.getfield 116, 3) := by decide +kernel
theorem dX12_number_66 : decode cX12_number 66 = .ok (.imul, 1) := by decide +kernel
theorem dX12_number_67 : decode cX12_number 67 = .ok (.aload_n 0, 1) := by decide +kernel
theorem dX12_number_68 : decode cX12_number 68 = .ok (.getfield 35, 3) := by decide +kernel
theorem dX12_number_71 : decode cX12_number 71 = .ok (.aload_n 0, 1) := by decide +kernel
theorem dX12_number_72 : decode cX12_number 72 = .ok (.getfield 95, 3) := by decide +kernel
theorem dX12_number_75 : decode cX12_number 75 = .ok (.iaload, 1) := by decide +kernel
theorem dX12_number_76 : decode cX12_number 76 = .ok (.iadd, 1) := by decide +kernel
theorem dX12_number_77 : decode cX12_number 77 = .ok (.bipush 48, 2) := by decide +kernel
theorem dX12_number_79 : decode cX12_number 79 = .ok (.isub, 1) := by decide +kernel
theorem dX12_number_80 : decode cX12_number 80 = .ok (.goto 5, 3) := by decide +kernel
theorem dX12_number_83 : decode cX12_number 83 = .ok (.ldc 119, 2) := by decide +kernel
theorem dX12_number_85 : decode cX12_number 85 = .ok (.putfield 116, 3) := by decide +kernel
theorem dX12_number_88 : decode cX12_number 88 = .ok (.aload_n 0, 1) := by decide +kernel
theorem dX12_number_89 : decode cX12_number 89 = .ok (.dup, 1) := by decide +kernel
theorem dX12_number_90 : decode cX12_number 90 = .ok (.getfield 95, 3) := by decide +kernel
theorem dX12_number_93 : decode cX12_number 93 = .ok (.iconst 1, 1) := by decide +kernel
theorem dX12_number_94 : decode cX12_number 94 = .ok (.iadd, 1) := by decide +kernel
theorem dX12_number_95 : decode cX12_number 95 = .ok (.putfield 95, 3) := by decide +kernel
theorem dX12_number_98 : decode cX12_number 98 = .ok (.goto (-60), 3) := by decide +kernel
theorem dX12_number_101 : decode cX12_number 101 = .ok (.aload_n 0, 1) := by decide +kernel
theorem dX12_number_102 : decode cX12_number 102 = .ok (.iconst 1, 1) := by decide +kernel
theorem dX12_number_103 : decode cX12_number 103 = .ok (.putfield 102, 3) := by decide +kernel
theorem dX12_number_106 : decode cX12_number 106 = .ok (.aload_n 0, 1) := by decide +kernel
theorem dX12_number_107 : decode cX12_number 107 = .ok (.getfield 116, 3) := by decide +kernel
theorem dX12_number_110 : decode cX12_number 110 = .ok (.i2l, 1) := by decide +kernel
theorem dX12_number_111 : decode cX12_number 111 = .ok (.iload_n 1, 1) := by decide +kernel
theorem dX12_number_112 : decode cX12_number 112 = .ok (.i2l, 1) := by decide +kernel
theorem dX12_number_113 : decode cX12_number 113 = .ok (.iload_n 2, 1) := by decide +kernel
theorem dX12_number_114 : decode cX12_number 114 = .ok (.i2l, 1) := by decide +kernel
theorem dX12_number_115 : decode cX12_number 115 = .ok (.invokestatic 86, 3) := by decide +kernel
theorem dX12_number_118 : decode cX12_number 118 = .ok (.ifCond .ne 14, 3) := by decide +kernel
theorem dX12_number_121 : decode cX12_number 121 = .ok (.aload_n 0, 1) := by decide +kernel
theorem dX12_number_122 : decode cX12_number 122 = .ok (.iload_n 3, 1) := by decide +kernel
theorem dX12_number_123 : decode cX12_number 123 = .ok (.putfield 95, 3) := by decide +kernel
theorem dX12_number_126 : decode cX12_number 126 = .ok (.aload_n 0, 1) := by decide +kernel
theorem dX12_number_127 : decode cX12_number 127 = .ok (.iconst 2, 1) := by decide +kernel
theorem dX12_number_128 : decode cX12_number 128 = .ok (.invokevirtual 112, 3) := by decide +kernel
theorem dX12_number_131 : decode cX12_number 131 = .ok (.ireturn, 1) := by decide +kernel
theorem dX12_number_132 : decode cX12_number 132 = .ok (.iconst 1, 1) := by decide +kernel
theorem dX12_number_133 : decode cX12_number 133 = .ok (.ireturn, 1) := by decide +kernel
theorem dX12_row_0 : decode cX12_row 0 = .ok (.aload_n 0, 1) := by decide +kernel
theorem dX12_row_1 : decode cX12_row 1 = .ok (.iload_n 3, 1) := by decide +kernel
theorem dX12_row_2 : decode cX12_row 2 = .ok (.iload 4, 2) := by decide +kernel
theorem dX12_row_4 : decode cX12_row 4 = .ok (.invokevirtual 120, 3) := by decide +kernel
theorem dX12_row_7 : decode cX12_row 7 = .ok (.istore 5, 2) := by decide +kernel
theorem dX12_row_9 : decode cX12_row 9 = .ok (.aload_n 1, 1) := by decide +kernel
theorem dX12_row_10 : decode cX12_row 10 = .ok (.iload_n 2, 1) := by decide +kernel
theorem dX12_row_11 : decode cX12_row 11 = .ok (.iload 5, 2) := by decide +kernel
theorem dX12_row_13 : decode cX12_row 13 = .ok (.ifCond .eq 10, 3) := by decide +kernel
theorem dX12_row_16 : decode cX12_row 16 = .ok (.aload_n 0, 1) := by decide +kernel
theorem dX12_row_17 : decode cX12_row 17 = .ok (.getfield 116, 3) := by decide +kernel
theorem dX12_row_20 : decode cX12_row 20 = .ok (.goto 6, 3) := by decide +kernel
theorem dX12_row_23 : decode cX12_row 23 = .ok (.aload_n 1, 1) := by decide +kernel
theorem dX12_row_24 : decode cX12_row 24 = .ok (.iload_n 2, 1) := by decide +kernel
theorem dX12_row_25 : decode cX12_row 25 = .ok (.iaload, 1) := by decide +kernel
theorem dX12_row_26 : decode cX12_row 26 = .ok (.iastore, 1) := by decide +kernel
theorem dX12_row_27 : decode cX12_row 27 = .ok (.iload 5, 2) := by decide +kernel
theorem dX12_row_29 : decode cX12_row 29 = .ok (.ireturn, 1) := by decide +kernel
theorem dX12_sign_0 : decode cX12_sign 0 = .ok (.aload_n 0, 1) := by decide +kernel
theorem dX12_sign_1 : decode cX12_sign 1 = .ok (.invokevirtual 109, 3) := by decide +kernel
theorem dX12_sign_4 : decode cX12_sign 4 = .ok (.aload_n 0, 1) := by decide +kernel
theorem dX12_sign_5 : decode cX12_sign 5 = .ok (.iconst 0, 1) := by decide +kernel
theorem dX12_sign_6 : decode cX12_sign 6 = .ok (.putfield 102, 3) := by decide +kernel
theorem dX12_sign_9 : decode cX12_sign 9 = .ok (.aload_n 0, 1) := by decide +kernel
theorem dX12_sign_10 : decode cX12_sign 10 = .ok (.bipush 59, 2) := by decide +kernel
theorem dX12_sign_12 : decode cX12_sign 12 = .ok (.bipush 59, 2) := by decide +kernel
theorem dX12_sign_14 : decode cX12_sign 14 = .ok (.invokevirtual 98, 3) := by decide +kernel
theorem dX12_sign_17 : decode cX12_sign 17 = .ok (.ifCond .ne 9, 3) := by decide +kernel
theorem dX12_sign_20 : decode cX12_sign 20 = .ok (.aload_n 0, 1) := by decide +kernel
theorem dX12_sign_21 : decode cX12_sign 21 = .ok (.iconst 1, 1) := by decide +kernel
theorem dX12_sign_22 : decode cX12_sign 22 = .ok (.invokevirtual 112, 3) := by decide +kernel
theorem dX12_sign_25 : decode cX12_sign 25 = .ok (.ireturn, 1) := by decide +kernel
theorem dX12_sign_26 : decode cX12_sign 26 = .ok (.aload_n 0, 1) := by decide +kernel
theorem dX12_sign_27 : decode cX12_sign 27 = .ok (.dup, 1) := by decide +kernel
theorem dX12_sign_28 : decode cX12_sign 28 = .ok (.getfield 95, 3) := by decide +kernel
theorem dX12_sign_31 : decode cX12_sign 31 = .ok (.iconst 1, 1) := by decide +kernel
theorem dX12_sign_32 : decode cX12_sign 32 = .ok (.iadd, 1) := by decide +kernel
theorem dX12_sign_33 : decode cX12_sign 33 = .ok (.putfield 95, 3) := by decide +kernel
theorem dX12_sign_36 : decode cX12_sign 36 = .ok (.iconst 1, 1) := by decide +kernel
theorem dX12_sign_37 : decode cX12_sign 37 = .ok (.ireturn, 1) := by decide +kernel
theorem dX12_readsPerson_0 : decode cX12_readsPerson 0 = .ok (.aload_n 0, 1) := by decide +kernel
theorem dX12_readsPerson_1 : decode cX12_readsPerson 1 = .ok (.getfield 123, 3) := by decide +kernel
theorem dX12_readsPerson_4 : decode cX12_readsPerson 4 = .ok (.iconst 5, 1) := by decide +kernel
theorem dX12_readsPerson_5 : decode cX12_readsPerson 5 = .ok (.if_icmp .ne 9, 3) := by decide +kernel
theorem dX12_readsPerson_8 : decode cX12_readsPerson 8 = .ok (.aload_n 0, 1) := by decide +kernel
theorem dX12_readsPerson_9 : decode cX12_readsPerson 9 = .ok (.iconst 3, 1) := by decide +kernel
theorem dX12_readsPerson_10 : decode cX12_readsPerson 10 = .ok (.invokevirtual 112, 3) := by decide +kernel
theorem dX12_readsPerson_13 : decode cX12_readsPerson 13 = .ok (.ireturn, 1) := by decide +kernel
theorem dX12_readsPerson_14 : decode cX12_readsPerson 14 = .ok (.aload_n 0, 1) := by decide +kernel
theorem dX12_readsPerson_15 : decode cX12_readsPerson 15 = .ok (.dup, 1) := by decide +kernel
theorem dX12_readsPerson_16 : decode cX12_readsPerson 16 = .ok (.getfield 95, 3) := by decide +kernel
theorem dX12_readsPerson_19 : decode cX12_readsPerson 19 = .ok (.iconst 1, 1) := by decide +kernel
theorem dX12_readsPerson_20 : decode cX12_readsPerson 20 = .ok (.iadd, 1) := by decide +kernel
theorem dX12_readsPerson_21 : decode cX12_readsPerson 21 = .ok (.putfield 95, 3) := by decide +kernel
theorem dX12_readsPerson_24 : decode cX12_readsPerson 24 = .ok (.aload_n 0, 1) := by decide +kernel
theorem dX12_readsPerson_25 : decode cX12_readsPerson 25 = .ok (.aload_n 0, 1) := by decide +kernel
theorem dX12_readsPerson_26 : decode cX12_readsPerson 26 = .ok (.getfield 38, 3) := by decide +kernel
theorem dX12_readsPerson_29 : decode cX12_readsPerson 29 = .ok (.aload_n 0, 1) := by decide +kernel
theorem dX12_readsPerson_30 : decode cX12_readsPerson 30 = .ok (.getfield 123, 3) := by decide +kernel
theorem dX12_readsPerson_33 : decode cX12_readsPerson 33 = .ok (.iconst 0, 1) := by decide +kernel
theorem dX12_readsPerson_34 : decode cX12_readsPerson 34 = .ok (.bipush 99, 2) := by decide +kernel
theorem dX12_readsPerson_36 : decode cX12_readsPerson 36 = .ok (.invokevirtual 126, 3) := by decide +kernel
theorem dX12_readsPerson_39 : decode cX12_readsPerson 39 = .ok (.ifCond .eq 32, 3) := by decide +kernel
theorem dX12_readsPerson_42 : decode cX12_readsPerson 42 = .ok (.aload_n 0, 1) := by decide +kernel
theorem dX12_readsPerson_43 : decode cX12_readsPerson 43 = .ok (.aload_n 0, 1) := by decide +kernel
theorem dX12_readsPerson_44 : decode cX12_readsPerson 44 = .ok (.getfield 41, 3) := by decide +kernel
theorem dX12_readsPerson_47 : decode cX12_readsPerson 47 = .ok (.aload_n 0, 1) := by decide +kernel
theorem dX12_readsPerson_48 : decode cX12_readsPerson 48 = .ok (.getfield 123, 3) := by decide +kernel
theorem dX12_readsPerson_51 : decode cX12_readsPerson 51 = .ok (.iconst 0, 1) := by decide +kernel
theorem dX12_readsPerson_52 : decode cX12_readsPerson 52 = .ok (.bipush 9, 2) := by decide +kernel
theorem dX12_readsPerson_54 : decode cX12_readsPerson 54 = .ok (.invokevirtual 126, 3) := by decide +kernel
theorem dX12_readsPerson_57 : decode cX12_readsPerson 57 = .ok (.ifCond .eq 14, 3) := by decide +kernel
theorem dX12_readsPerson_60 : decode cX12_readsPerson 60 = .ok (.aload_n 0, 1) := by decide +kernel
theorem dX12_readsPerson_61 : decode cX12_readsPerson 61 = .ok (.invokevirtual 130, 3) := by decide +kernel
theorem dX12_readsPerson_64 : decode cX12_readsPerson 64 = .ok (.ifCond .eq 7, 3) := by decide +kernel
theorem dX12_readsPerson_67 : decode cX12_readsPerson 67 = .ok (.iconst 1, 1) := by decide +kernel
theorem dX12_readsPerson_68 : decode cX12_readsPerson 68 = .ok (.goto 4, 3) := by decide +kernel
theorem dX12_readsPerson_71 : decode cX12_readsPerson 71 = .ok (.iconst 0, 1) := by decide +kernel
theorem dX12_readsPerson_72 : decode cX12_readsPerson 72 = .ok (.istore_n 1, 1) := by decide +kernel
theorem dX12_readsPerson_73 : decode cX12_readsPerson 73 = .ok (.aload_n 0, 1) := by decide +kernel
theorem dX12_readsPerson_74 : decode cX12_readsPerson 74 = .ok (.dup, 1) := by decide +kernel
theorem dX12_readsPerson_75 : decode cX12_readsPerson 75 = .ok (.getfield 123, 3) := by decide +kernel
theorem dX12_readsPerson_78 : decode cX12_readsPerson 78 = .ok (.iload_n 1, 1) := by decide +kernel
theorem dX12_readsPerson_79 : decode cX12_readsPerson 79 = .ok (.ifCond .eq 7, 3) := by decide +kernel
theorem dX12_readsPerson_82 : decode cX12_readsPerson 82 = .ok (.iconst 1, 1) := by decide +kernel
theorem dX12_readsPerson_83 : decode cX12_readsPerson 83 = .ok (.goto 4, 3) := by decide +kernel
theorem dX12_readsPerson_86 : decode cX12_readsPerson 86 = .ok (.iconst 0, 1) := by decide +kernel
theorem dX12_readsPerson_87 : decode cX12_readsPerson 87 = .ok (.iadd, 1) := by decide +kernel
theorem dX12_readsPerson_88 : decode cX12_readsPerson 88 = .ok (.putfield 123, 3) := by decide +kernel
theorem dX12_readsPerson_91 : decode cX12_readsPerson 91 = .ok (.iload_n 1, 1) := by decide +kernel
theorem dX12_readsPerson_92 : decode cX12_readsPerson 92 = .ok (.ireturn, 1) := by decide +kernel
theorem dX12_readsDoing_0 : decode cX12_readsDoing 0 = .ok (.aload_n 0, 1) := by decide +kernel
theorem dX12_readsDoing_1 : decode cX12_readsDoing 1 = .ok (.dup, 1) := by decide +kernel
theorem dX12_readsDoing_2 : decode cX12_readsDoing 2 = .ok (.getfield 95, 3) := by decide +kernel
theorem dX12_readsDoing_5 : decode cX12_readsDoing 5 = .ok (.iconst 1, 1) := by decide +kernel
theorem dX12_readsDoing_6 : decode cX12_readsDoing 6 = .ok (.iadd, 1) := by decide +kernel
theorem dX12_readsDoing_7 : decode cX12_readsDoing 7 = .ok (.putfield 95, 3) := by decide +kernel
theorem dX12_readsDoing_10 : decode cX12_readsDoing 10 = .ok (.aload_n 0, 1) := by decide +kernel
theorem dX12_readsDoing_11 : decode cX12_readsDoing 11 = .ok (.invokevirtual 109, 3) := by decide +kernel
theorem dX12_readsDoing_14 : decode cX12_readsDoing 14 = .ok (.aload_n 0, 1) := by decide +kernel
theorem dX12_readsDoing_15 : decode cX12_readsDoing 15 = .ok (.getfield 95, 3) := by decide +kernel
theorem dX12_readsDoing_18 : decode cX12_readsDoing 18 = .ok (.istore_n 1, 1) := by decide +kernel
theorem dX12_readsDoing_19 : decode cX12_readsDoing 19 = .ok (.aload_n 0, 1) := by decide +kernel
theorem dX12_readsDoing_20 : decode cX12_readsDoing 20 = .ok (.iconst 0, 1) := by decide +kernel
theorem dX12_readsDoing_21 : decode cX12_readsDoing 21 = .ok (.iconst 5, 1) := by decide +kernel
theorem dX12_readsDoing_22 : decode cX12_readsDoing 22 = .ok (.invokevirtual 120, 3) := by decide +kernel
theorem dX12_readsDoing_25 : decode cX12_readsDoing 25 = .ok (.ifCond .ne 5, 3) := by decide +kernel
theorem dX12_readsDoing_28 : decode cX12_readsDoing 28 = .ok (.iconst 0, 1) := by decide +kernel
theorem dX12_readsDoing_29 : decode cX12_readsDoing 29 = .ok (.ireturn, 1) := by decide +kernel
theorem dX12_readsDoing_30 : decode cX12_readsDoing 30 = .ok (.aload_n 0, 1) := by decide +kernel
theorem dX12_readsDoing_31 : decode cX12_readsDoing 31 = .ok (.getfield 116, 3) := by decide +kernel
theorem dX12_readsDoing_34 : decode cX12_readsDoing 34 = .ok (.istore_n 2, 1) := by decide +kernel
theorem dX12_readsDoing_35 : decode cX12_readsDoing 35 = .ok (.aload_n 0, 1) := by decide +kernel
theorem dX12_readsDoing_36 : decode cX12_readsDoing 36 = .ok (.getfield 134, 3) := by decide +kernel
theorem dX12_readsDoing_39 : decode cX12_readsDoing 39 = .ok (.iload_n 2, 1) := by decide +kernel
theorem dX12_readsDoing_40 : decode cX12_readsDoing 40 = .ok (.ishr, 1) := by decide +kernel
theorem dX12_readsDoing_41 : decode cX12_readsDoing 41 = .ok (.iconst 1, 1) := by decide +kernel
theorem dX12_readsDoing_42 : decode cX12_readsDoing 42 = .ok (.iand, 1) := by decide +kernel
theorem dX12_readsDoing_43 : decode cX12_readsDoing 43 = .ok (.iconst 1, 1) := by decide +kernel
theorem dX12_readsDoing_44 : decode cX12_readsDoing 44 = .ok (.if_icmp .ne 14, 3) := by decide +kernel
theorem dX12_readsDoing_47 : decode cX12_readsDoing 47 = .ok (.aload_n 0, 1) := by decide +kernel
theorem dX12_readsDoing_48 : decode cX12_readsDoing 48 = .ok (.iload_n 1, 1) := by decide +kernel
theorem dX12_readsDoing_49 : decode cX12_readsDoing 49 = .ok (.putfield 95, 3) := by decide +kernel
theorem dX12_readsDoing_52 : decode cX12_readsDoing 52 = .ok (.aload_n 0, 1) := by decide +kernel
theorem dX12_readsDoing_53 : decode cX12_readsDoing 53 = .ok (.iconst 4, 1) := by decide +kernel
theorem dX12_readsDoing_54 : decode cX12_readsDoing 54 = .ok (.invokevirtual 112, 3) := by decide +kernel
theorem dX12_readsDoing_57 : decode cX12_readsDoing 57 = .ok (.ireturn, 1) := by decide +kernel
theorem dX12_readsDoing_58 : decode cX12_readsDoing 58 = .ok (.aload_n 0, 1) := by decide +kernel
theorem dX12_readsDoing_59 : decode cX12_readsDoing 59 = .ok (.dup, 1) := by decide +kernel
theorem dX12_readsDoing_60 : decode cX12_readsDoing 60 = .ok (.getfield 134, 3) := by decide +kernel
theorem dX12_readsDoing_63 : decode cX12_readsDoing 63 = .ok (.iconst 1, 1) := by decide +kernel
theorem dX12_readsDoing_64 : decode cX12_readsDoing 64 = .ok (.iload_n 2, 1) := by decide +kernel
theorem dX12_readsDoing_65 : decode cX12_readsDoing 65 = .ok (.ishl, 1) := by decide +kernel
theorem dX12_readsDoing_66 : decode cX12_readsDoing 66 = .ok (.ior, 1) := by decide +kernel
theorem dX12_readsDoing_67 : decode cX12_readsDoing 67 = .ok (.putfield 134, 3) := by decide +kernel
theorem dX12_readsDoing_70 : decode cX12_readsDoing 70 = .ok (.aload_n 0, 1) := by decide +kernel
theorem dX12_readsDoing_71 : decode cX12_readsDoing 71 = .ok (.aload_n 0, 1) := by decide +kernel
theorem dX12_readsDoing_72 : decode cX12_readsDoing 72 = .ok (.getfield 44, 3) := by decide +kernel
theorem dX12_readsDoing_75 : decode cX12_readsDoing 75 = .ok (.iload_n 2, 1) := by decide +kernel
theorem dX12_readsDoing_76 : decode cX12_readsDoing 76 = .ok (.iconst 0, 1) := by decide +kernel
theorem dX12_readsDoing_77 : decode cX12_readsDoing 77 = .ok (.bipush 9, 2) := by decide +kernel
theorem dX12_readsDoing_79 : decode cX12_readsDoing 79 = .ok (.invokevirtual 126, 3) := by decide +kernel
theorem dX12_readsDoing_82 : decode cX12_readsDoing 82 = .ok (.ifCond .eq 29, 3) := by decide +kernel
theorem dX12_readsDoing_85 : decode cX12_readsDoing 85 = .ok (.aload_n 0, 1) := by decide +kernel
theorem dX12_readsDoing_86 : decode cX12_readsDoing 86 = .ok (.aload_n 0, 1) := by decide +kernel
theorem dX12_readsDoing_87 : decode cX12_readsDoing 87 = .ok (.getfield 47, 3) := by decide +kernel
theorem dX12_readsDoing_90 : decode cX12_readsDoing 90 = .ok (.iload_n 2, 1) := by decide +kernel
theorem dX12_readsDoing_91 : decode cX12_readsDoing 91 = .ok (.iconst 0, 1) := by decide +kernel
theorem dX12_readsDoing_92 : decode cX12_readsDoing 92 = .ok (.bipush 6, 2) := by decide +kernel
theorem dX12_readsDoing_94 : decode cX12_readsDoing 94 = .ok (.invokevirtual 126, 3) := by decide +kernel
theorem dX12_readsDoing_97 : decode cX12_readsDoing 97 = .ok (.ifCond .eq 14, 3) := by decide +kernel
theorem dX12_readsDoing_100 : decode cX12_readsDoing 100 = .ok (.aload_n 0, 1) := by decide +kernel
theorem dX12_readsDoing_101 : decode cX12_readsDoing 101 = .ok (.invokevirtual 130, 3) := by decide +kernel
theorem dX12_readsDoing_104 : decode cX12_readsDoing 104 = .ok (.ifCond .eq 7, 3) := by decide +kernel
theorem dX12_readsDoing_107 : decode cX12_readsDoing 107 = .ok (.iconst 1, 1) := by decide +kernel
theorem dX12_readsDoing_108 : decode cX12_readsDoing 108 = .ok (.goto 4, 3) := by decide +kernel
theorem dX12_readsDoing_111 : decode cX12_readsDoing 111 = .ok (.iconst 0, 1) := by decide +kernel
theorem dX12_readsDoing_112 : decode cX12_readsDoing 112 = .ok (.ireturn, 1) := by decide +kernel
theorem dX12_readsStove_0 : decode cX12_readsStove 0 = .ok (.aload_n 0, 1) := by decide +kernel
theorem dX12_readsStove_1 : decode cX12_readsStove 1 = .ok (.getfield 137, 3) := by decide +kernel
theorem dX12_readsStove_4 : decode cX12_readsStove 4 = .ok (.ifCond .eq 9, 3) := by decide +kernel
theorem dX12_readsStove_7 : decode cX12_readsStove 7 = .ok (.aload_n 0, 1) := by decide +kernel
theorem dX12_readsStove_8 : decode cX12_readsStove 8 = .ok (.iconst 3, 1) := by decide +kernel
theorem dX12_readsStove_9 : decode cX12_readsStove 9 = .ok (.invokevirtual 112, 3) := by decide +kernel
theorem dX12_readsStove_12 : decode cX12_readsStove 12 = .ok (.ireturn, 1) := by decide +kernel
theorem dX12_readsStove_13 : decode cX12_readsStove 13 = .ok (.aload_n 0, 1) := by decide +kernel
theorem dX12_readsStove_14 : decode cX12_readsStove 14 = .ok (.dup, 1) := by decide +kernel
theorem dX12_readsStove_15 : decode cX12_readsStove 15 = .ok (.getfield 95, 3) := by decide +kernel
theorem dX12_readsStove_18 : decode cX12_readsStove 18 = .ok (.iconst 1, 1) := by decide +kernel
theorem dX12_readsStove_19 : decode cX12_readsStove 19 = .ok (.iadd, 1) := by decide +kernel
theorem dX12_readsStove_20 : decode cX12_readsStove 20 = .ok (.putfield 95, 3) := by decide +kernel
theorem dX12_readsStove_23 : decode cX12_readsStove 23 = .ok (.aload_n 0, 1) := by decide +kernel
theorem dX12_readsStove_24 : decode cX12_readsStove 24 = .ok (.iconst 1, 1) := by decide +kernel
theorem dX12_readsStove_25 : decode cX12_readsStove 25 = .ok (.putfield 137, 3) := by decide +kernel
theorem dX12_readsStove_28 : decode cX12_readsStove 28 = .ok (.aload_n 0, 1) := by decide +kernel
theorem dX12_readsStove_29 : decode cX12_readsStove 29 = .ok (.aload_n 0, 1) := by decide +kernel
theorem dX12_readsStove_30 : decode cX12_readsStove 30 = .ok (.getfield 50, 3) := by decide +kernel
theorem dX12_readsStove_33 : decode cX12_readsStove 33 = .ok (.iconst 0, 1) := by decide +kernel
theorem dX12_readsStove_34 : decode cX12_readsStove 34 = .ok (.iconst 0, 1) := by decide +kernel
theorem dX12_readsStove_35 : decode cX12_readsStove 35 = .ok (.aload_n 0, 1) := by decide +kernel
theorem dX12_readsStove_36 : decode cX12_readsStove 36 = .ok (.getfield 123, 3) := by decide +kernel
theorem dX12_readsStove_39 : decode cX12_readsStove 39 = .ok (.iconst 1, 1) := by decide +kernel
theorem dX12_readsStove_40 : decode cX12_readsStove 40 = .ok (.isub, 1) := by decide +kernel
theorem dX12_readsStove_41 : decode cX12_readsStove 41 = .ok (.invokevirtual 126, 3) := by decide +kernel
theorem dX12_readsStove_44 : decode cX12_readsStove 44 = .ok (.ifCond .eq 45, 3) := by decide +kernel
theorem dX12_readsStove_47 : decode cX12_readsStove 47 = .ok (.aload_n 0, 1) := by decide +kernel
theorem dX12_readsStove_48 : decode cX12_readsStove 48 = .ok (.aload_n 0, 1) := by decide +kernel
theorem dX12_readsStove_49 : decode cX12_readsStove 49 = .ok (.getfield 50, 3) := by decide +kernel
theorem dX12_readsStove_52 : decode cX12_readsStove 52 = .ok (.iconst 1, 1) := by decide +kernel
theorem dX12_readsStove_53 : decode cX12_readsStove 53 = .ok (.iconst 1, 1) := by decide +kernel
theorem dX12_readsStove_54 : decode cX12_readsStove 54 = .ok (.bipush 20, 2) := by decide +kernel
theorem dX12_readsStove_56 : decode cX12_readsStove 56 = .ok (.invokevirtual 126, 3) := by decide +kernel
theorem dX12_readsStove_59 : decode cX12_readsStove 59 = .ok (.ifCond .eq 30, 3) := by decide +kernel
theorem dX12_readsStove_62 : decode cX12_readsStove 62 = .ok (.aload_n 0, 1) := by decide +kernel
theorem dX12_readsStove_63 : decode cX12_readsStove 63 = .ok (.aload_n 0, 1) := by decide +kernel
theorem dX12_readsStove_64 : decode cX12_readsStove 64 = .ok (.getfield 50, 3) := by decide +kernel
theorem dX12_readsStove_67 : decode cX12_readsStove 67 = .ok (.iconst 2, 1) := by decide +kernel
theorem dX12_readsStove_68 : decode cX12_readsStove 68 = .ok (.iconst 0, 1) := by decide +kernel
theorem dX12_readsStove_69 : decode cX12_readsStove 69 = .ok (.sipush 999, 3) := by decide +kernel
theorem dX12_readsStove_72 : decode cX12_readsStove 72 = .ok (.invokevirtual 126, 3) := by decide +kernel
theorem dX12_readsStove_75 : decode cX12_readsStove 75 = .ok (.ifCond .eq 14, 3) := by decide +kernel
theorem dX12_readsStove_78 : decode cX12_readsStove 78 = .ok (.aload_n 0, 1) := by decide +kernel
theorem dX12_readsStove_79 : decode cX12_readsStove 79 = .ok (.invokevirtual 130, 3) := by decide +kernel
theorem dX12_readsStove_82 : decode cX12_readsStove 82 = .ok (.ifCond .eq 7, 3) := by decide +kernel
theorem dX12_readsStove_85 : decode cX12_readsStove 85 = .ok (.iconst 1, 1) := by decide +kernel
theorem dX12_readsStove_86 : decode cX12_readsStove 86 = .ok (.goto 4, 3) := by decide +kernel
theorem dX12_readsStove_89 : decode cX12_readsStove 89 = .ok (.iconst 0, 1) := by decide +kernel
theorem dX12_readsStove_90 : decode cX12_readsStove 90 = .ok (.ireturn, 1) := by decide +kernel
theorem dX12_reads_0 : decode cX12_reads 0 = .ok (.aload_n 0, 1) := by decide +kernel
theorem dX12_reads_1 : decode cX12_reads 1 = .ok (.iconst 0, 1) := by decide +kernel
theorem dX12_reads_2 : decode cX12_reads 2 = .ok (.putfield 123, 3) := by decide +kernel
theorem dX12_reads_5 : decode cX12_reads 5 = .ok (.aload_n 0, 1) := by decide +kernel
theorem dX12_reads_6 : decode cX12_reads 6 = .ok (.iconst 0, 1) := by decide +kernel
theorem dX12_reads_7 : decode cX12_reads 7 = .ok (.putfield 134, 3) := by decide +kernel
theorem dX12_reads_10 : decode cX12_reads 10 = .ok (.aload_n 0, 1) := by decide +kernel
theorem dX12_reads_11 : decode cX12_reads 11 = .ok (.iconst 0, 1) := by decide +kernel
theorem dX12_reads_12 : decode cX12_reads 12 = .ok (.putfield 137, 3) := by decide +kernel
theorem dX12_reads_15 : decode cX12_reads 15 = .ok (.iconst 0, 1) := by decide +kernel
theorem dX12_reads_16 : decode cX12_reads 16 = .ok (.istore_n 1, 1) := by decide +kernel
theorem dX12_reads_17 : decode cX12_reads 17 = .ok (.iload_n 1, 1) := by decide +kernel
theorem dX12_reads_18 : decode cX12_reads 18 = .ok (.bipush 6, 2) := by decide +kernel
theorem dX12_reads_20 : decode cX12_reads 20 = .ok (.if_icmp .ge 23, 3) := by decide +kernel
theorem dX12_reads_23 : decode cX12_reads 23 = .ok (.aload_n 0, 1) := by decide +kernel
theorem dX12_reads_24 : decode cX12_reads 24 = .ok (.getfield 44, 3) := by decide +kernel
theorem dX12_reads_27 : decode cX12_reads 27 = .ok (.iload_n 1, 1) := by decide +kernel
theorem dX12_reads_28 : decode cX12_reads 28 = .ok (.iconst 1, 1) := by decide +kernel
theorem dX12_reads_29 : decode cX12_reads 29 = .ok (.iastore, 1) := by decide +kernel
theorem dX12_reads_30 : decode cX12_reads 30 = .ok (.aload_n 0, 1) := by decide +kernel
theorem dX12_reads_31 : decode cX12_reads 31 = .ok (.getfield 47, 3) := by decide +kernel
theorem dX12_reads_34 : decode cX12_reads 34 = .ok (.iload_n 1, 1) := by decide +kernel
theorem dX12_reads_35 : decode cX12_reads 35 = .ok (.iconst 4, 1) := by decide +kernel
theorem dX12_reads_36 : decode cX12_reads 36 = .ok (.iastore, 1) := by decide +kernel
theorem dX12_reads_37 : decode cX12_reads 37 = .ok (.iinc 1 1, 3) := by decide +kernel
theorem dX12_reads_40 : decode cX12_reads 40 = .ok (.goto (-23), 3) := by decide +kernel
theorem dX12_reads_43 : decode cX12_reads 43 = .ok (.aload_n 0, 1) := by decide +kernel
theorem dX12_reads_44 : decode cX12_reads 44 = .ok (.iconst 0, 1) := by decide +kernel
theorem dX12_reads_45 : decode cX12_reads 45 = .ok (.putfield 95, 3) := by decide +kernel
theorem dX12_reads_48 : decode cX12_reads 48 = .ok (.aload_n 0, 1) := by decide +kernel
theorem dX12_reads_49 : decode cX12_reads 49 = .ok (.invokevirtual 109, 3) := by decide +kernel
theorem dX12_reads_52 : decode cX12_reads 52 = .ok (.iconst 1, 1) := by decide +kernel
theorem dX12_reads_53 : decode cX12_reads 53 = .ok (.istore_n 1, 1) := by decide +kernel
theorem dX12_reads_54 : decode cX12_reads 54 = .ok (.iload_n 1, 1) := by decide +kernel
theorem dX12_reads_55 : decode cX12_reads 55 = .ok (.ifCond .eq 85, 3) := by decide +kernel
theorem dX12_reads_58 : decode cX12_reads 58 = .ok (.aload_n 0, 1) := by decide +kernel
theorem dX12_reads_59 : decode cX12_reads 59 = .ok (.getfield 95, 3) := by decide +kernel
theorem dX12_reads_62 : decode cX12_reads 62 = .ok (.aload_n 0, 1) := by decide +kernel
theorem dX12_reads_63 : decode cX12_reads 63 = .ok (.getfield 91, 3) := by decide +kernel
theorem dX12_reads_66 : decode cX12_reads 66 = .ok (.if_icmp .ge 74, 3) := by decide +kernel
theorem dX12_reads_69 : decode cX12_reads 69 = .ok (.aload_n 0, 1) := by decide +kernel
theorem dX12_reads_70 : decode cX12_reads 70 = .ok (.iconst 0, 1) := by decide +kernel
theorem dX12_reads_71 : decode cX12_reads 71 = .ok (.putfield 102, 3) := by decide +kernel
theorem dX12_reads_74 : decode cX12_reads 74 = .ok (.aload_n 0, 1) := by decide +kernel
theorem dX12_reads_75 : decode cX12_reads 75 = .ok (.getfield 35, 3) := by decide +kernel
theorem dX12_reads_78 : decode cX12_reads 78 = .ok (.aload_n 0, 1) := by decide +kernel
theorem dX12_reads_79 : decode cX12_reads 79 = .ok (.getfield 95, 3) := by decide +kernel
theorem dX12_reads_82 : decode cX12_reads 82 = .ok (.iaload, 1) := by decide +kernel
theorem dX12_reads_83 : decode cX12_reads 83 = .ok (.istore_n 2, 1) := by decide +kernel
theorem dX12_reads_84 : decode cX12_reads 84 = .ok (.iload_n 2, 1) := by decide +kernel
theorem dX12_reads_85 : decode cX12_reads 85 = .ok (.bipush 112, 2) := by decide +kernel
theorem dX12_reads_87 : decode cX12_reads 87 = .ok (.if_icmp .ne 10, 3) := by decide +kernel
theorem dX12_reads_90 : decode cX12_reads 90 = .ok (.aload_n 0, 1) := by decide +kernel
theorem dX12_reads_91 : decode cX12_reads 91 = .ok (.invokevirtual 140, 3) := by decide +kernel
theorem dX12_reads_94 : decode cX12_reads 94 = .ok (.goto 34, 3) := by decide +kernel
theorem dX12_reads_97 : decode cX12_reads 97 = .ok (.iload_n 2, 1) := by decide +kernel
theorem dX12_reads_98 : decode cX12_reads 98 = .ok (.bipush 100, 2) := by decide +kernel
theorem dX12_reads_100 : decode cX12_reads 100 = .ok (.if_icmp .ne 10, 3) := by decide +kernel
theorem dX12_reads_103 : decode cX12_reads 103 = .ok (.aload_n 0, 1) := by decide +kernel
theorem dX12_reads_104 : decode cX12_reads 104 = .ok (.invokevirtual 143, 3) := by decide +kernel
theorem dX12_reads_107 : decode cX12_reads 107 = .ok (.goto 21, 3) := by decide +kernel
theorem dX12_reads_110 : decode cX12_reads 110 = .ok (.iload_n 2, 1) := by decide +kernel
theorem dX12_reads_111 : decode cX12_reads 111 = .ok (.bipush 115, 2) := by decide +kernel
theorem dX12_reads_113 : decode cX12_reads 113 = .ok (.if_icmp .ne 10, 3) := by decide +kernel
theorem dX12_reads_116 : decode cX12_reads 116 = .ok (.aload_n 0, 1) := by decide +kernel
theorem dX12_reads_117 : decode cX12_reads 117 = .ok (.invokevirtual 146, 3) := by decide +kernel
theorem dX12_reads_120 : decode cX12_reads 120 = .ok (.goto 8, 3) := by decide +kernel
theorem dX12_reads_123 : decode cX12_reads 123 = .ok (.aload_n 0, 1) := by decide +kernel
theorem dX12_reads_124 : decode cX12_reads 124 = .ok (.iconst 1, 1) := by decide +kernel
theorem dX12_reads_125 : decode cX12_reads 125 = .ok (.invokevirtual 112, 3) := by decide +kernel
theorem dX12_reads_128 : decode cX12_reads 128 = .ok (.istore_n 1, 1) := by decide +kernel
theorem dX12_reads_129 : decode cX12_reads 129 = .ok (.iload_n 1, 1) := by decide +kernel
theorem dX12_reads_130 : decode cX12_reads 130 = .ok (.ifCond .eq 7, 3) := by decide +kernel
theorem dX12_reads_133 : decode cX12_reads 133 = .ok (.aload_n 0, 1) := by decide +kernel
theorem dX12_reads_134 : decode cX12_reads 134 = .ok (.invokevirtual 109, 3) := by decide +kernel
theorem dX12_reads_137 : decode cX12_reads 137 = .ok (.goto (-83), 3) := by decide +kernel
theorem dX12_reads_140 : decode cX12_reads 140 = .ok (.iload_n 1, 1) := by decide +kernel
theorem dX12_reads_141 : decode cX12_reads 141 = .ok (.ireturn, 1) := by decide +kernel
theorem dX12_house_0 : decode cX12_house 0 = .ok (.aload_n 0, 1) := by decide +kernel
theorem dX12_house_1 : decode cX12_house 1 = .ok (.invokevirtual 149, 3) := by decide +kernel
theorem dX12_house_4 : decode cX12_house 4 = .ok (.istore_n 1, 1) := by decide +kernel
theorem dX12_house_5 : decode cX12_house 5 = .ok (.aload_n 0, 1) := by decide +kernel
theorem dX12_house_6 : decode cX12_house 6 = .ok (.iconst 0, 1) := by decide +kernel
theorem dX12_house_7 : decode cX12_house 7 = .ok (.putfield 91, 3) := by decide +kernel
theorem dX12_house_10 : decode cX12_house 10 = .ok (.aload_n 0, 1) := by decide +kernel
theorem dX12_house_11 : decode cX12_house 11 = .ok (.iload_n 1, 1) := by decide +kernel
theorem dX12_house_12 : decode cX12_house 12 = .ok (.ifCond .eq 7, 3) := by decide +kernel
theorem dX12_house_15 : decode cX12_house 15 = .ok (.iconst (-1), 1) := by decide +kernel
theorem dX12_house_16 : decode cX12_house 16 = .ok (.goto 7, 3) := by decide +kernel
theorem dX12_house_19 : decode cX12_house 19 = .ok (.aload_n 0, 1) := by decide +kernel
theorem dX12_house_20 : decode cX12_house 20 = .ok (.getfield 95, 3) := by decide +kernel
theorem dX12_house_23 : decode cX12_house 23 = .ok (.putfield 77, 3) := by decide +kernel
theorem dX12_house_26 : decode cX12_house 26 = .ok (.iload_n 1, 1) := by decide +kernel
theorem dX12_house_27 : decode cX12_house 27 = .ok (.ifCond .ne 11, 3) := by decide +kernel
theorem dX12_house_30 : decode cX12_house 30 = .ok (.bipush (-10), 2) := by decide +kernel
theorem dX12_house_32 : decode cX12_house 32 = .ok (.aload_n 0, 1) := by decide +kernel
theorem dX12_house_33 : decode cX12_house 33 = .ok (.getfield 106, 3) := by decide +kernel
theorem dX12_house_36 : decode cX12_house 36 = .ok (.isub, 1) := by decide +kernel
theorem dX12_house_37 : decode cX12_house 37 = .ok (.ireturn, 1) := by decide +kernel
theorem dX12_house_38 : decode cX12_house 38 = .ok (.aload_n 0, 1) := by decide +kernel
theorem dX12_house_39 : decode cX12_house 39 = .ok (.aload_n 0, 1) := by decide +kernel
theorem dX12_house_40 : decode cX12_house 40 = .ok (.getfield 123, 3) := by decide +kernel
theorem dX12_house_43 : decode cX12_house 43 = .ok (.putfield 152, 3) := by decide +kernel
theorem dX12_house_46 : decode cX12_house 46 = .ok (.aload_n 0, 1) := by decide +kernel
theorem dX12_house_47 : decode cX12_house 47 = .ok (.aload_n 0, 1) := by decide +kernel
theorem dX12_house_48 : decode cX12_house 48 = .ok (.getfield 137, 3) := by decide +kernel
theorem dX12_house_51 : decode cX12_house 51 = .ok (.ifCond .eq 12, 3) := by decide +kernel
theorem dX12_house_54 : decode cX12_house 54 = .ok (.aload_n 0, 1) := by decide +kernel
theorem dX12_house_55 : decode cX12_house 55 = .ok (.getfield 50, 3) := by decide +kernel
theorem dX12_house_58 : decode cX12_house 58 = .ok (.iconst 1, 1) := by decide +kernel
theorem dX12_house_59 : decode cX12_house 59 = .ok (.iaload, 1) := by decide +kernel
theorem dX12_house_60 : decode cX12_house 60 = .ok (.goto 4, 3) := by decide +kernel
theorem dX12_house_63 : decode cX12_house 63 = .ok (.iconst 5, 1) := by decide +kernel
theorem dX12_house_64 : decode cX12_house 64 = .ok (.putfield 81, 3) := by decide +kernel
theorem dX12_house_67 : decode cX12_house 67 = .ok (.aload_n 0, 1) := by decide +kernel
theorem dX12_house_68 : decode cX12_house 68 = .ok (.getfield 16, 3) := by decide +kernel
theorem dX12_house_71 : decode cX12_house 71 = .ok (.iconst 0, 1) := by decide +kernel
theorem dX12_house_72 : decode cX12_house 72 = .ok (.aload_n 0, 1) := by decide +kernel
theorem dX12_house_73 : decode cX12_house 73 = .ok (.getfield 152, 3) := by decide +kernel
theorem dX12_house_76 : decode cX12_house 76 = .ok (.ifCond .ne 7, 3) := by decide +kernel
theorem dX12_house_79 : decode cX12_house 79 = .ok (.iconst (-1), 1) := by decide +kernel
theorem dX12_house_80 : decode cX12_house 80 = .ok (.goto 20, 3) := by decide +kernel
theorem dX12_house_83 : decode cX12_house 83 = .ok (.aload_n 0, 1) := by decide +kernel
theorem dX12_house_84 : decode cX12_house 84 = .ok (.getfield 137, 3) := by decide +kernel
theorem dX12_house_87 : decode cX12_house 87 = .ok (.ifCond .eq 12, 3) := by decide +kernel
theorem dX12_house_90 : decode cX12_house 90 = .ok (.aload_n 0, 1) := by decide +kernel
theorem dX12_house_91 : decode cX12_house 91 = .ok (.getfield 50, 3) := by decide +kernel
theorem dX12_house_94 : decode cX12_house 94 = .ok (.iconst 0, 1) := by decide +kernel
theorem dX12_house_95 : decode cX12_house 95 = .ok (.iaload, 1) := by decide +kernel
theorem dX12_house_96 : decode cX12_house 96 = .ok (.goto 4, 3) := by decide +kernel
theorem dX12_house_99 : decode cX12_house 99 = .ok (.iconst 0, 1) := by decide +kernel
theorem dX12_house_100 : decode cX12_house 100 = .ok (.iastore, 1) := by decide +kernel
theorem dX12_house_101 : decode cX12_house 101 = .ok (.aload_n 0, 1) := by decide +kernel
theorem dX12_house_102 : decode cX12_house 102 = .ok (.getfield 16, 3) := by decide +kernel
theorem dX12_house_105 : decode cX12_house 105 = .ok (.iconst 1, 1) := by decide +kernel
theorem dX12_house_106 : decode cX12_house 106 = .ok (.aload_n 0, 1) := by decide +kernel
theorem dX12_house_107 : decode cX12_house 107 = .ok (.getfield 137, 3) := by decide +kernel
theorem dX12_house_110 : decode cX12_house 110 = .ok (.ifCond .eq 12, 3) := by decide +kernel
theorem dX12_house_113 : decode cX12_house 113 = .ok (.aload_n 0, 1) := by decide +kernel
theorem dX12_house_114 : decode cX12_house 114 = .ok (.getfield 50, 3) := by decide +kernel
theorem dX12_house_117 : decode cX12_house 117 = .ok (.iconst 2, 1) := by decide +kernel
theorem dX12_house_118 : decode cX12_house 118 = .ok (.iaload, 1) := by decide +kernel
theorem dX12_house_119 : decode cX12_house 119 = .ok (.goto 5, 3) := by decide +kernel
theorem dX12_house_122 : decode cX12_house 122 = .ok (.bipush 20, 2) := by decide +kernel
theorem dX12_house_124 : decode cX12_house 124 = .ok (.iastore, 1) := by decide +kernel
theorem dX12_house_125 : decode cX12_house 125 = .ok (.aload_n 0, 1) := by decide +kernel
theorem dX12_house_126 : decode cX12_house 126 = .ok (.getfield 16, 3) := by decide +kernel
theorem dX12_house_129 : decode cX12_house 129 = .ok (.iconst 2, 1) := by decide +kernel
theorem dX12_house_130 : decode cX12_house 130 = .ok (.iconst 0, 1) := by decide +kernel
theorem dX12_house_131 : decode cX12_house 131 = .ok (.iastore, 1) := by decide +kernel
theorem dX12_house_132 : decode cX12_house 132 = .ok (.iconst 0, 1) := by decide +kernel
theorem dX12_house_133 : decode cX12_house 133 = .ok (.istore_n 2, 1) := by decide +kernel
theorem dX12_house_134 : decode cX12_house 134 = .ok (.iload_n 2, 1) := by decide +kernel
theorem dX12_house_135 : decode cX12_house 135 = .ok (.iconst 5, 1) := by decide +kernel
theorem dX12_house_136 : decode cX12_house 136 = .ok (.if_icmp .ge 45, 3) := by decide +kernel
theorem dX12_house_139 : decode cX12_house 139 = .ok (.aload_n 0, 1) := by decide +kernel
theorem dX12_house_140 : decode cX12_house 140 = .ok (.getfield 7, 3) := by decide +kernel
theorem dX12_house_143 : decode cX12_house 143 = .ok (.iload_n 2, 1) := by decide +kernel
theorem dX12_house_144 : decode cX12_house 144 = .ok (.aload_n 0, 1) := by decide +kernel
theorem dX12_house_145 : decode cX12_house 145 = .ok (.getfield 41, 3) := by decide +kernel
theorem dX12_house_148 : decode cX12_house 148 = .ok (.iload_n 2, 1) := by decide +kernel
theorem dX12_house_149 : decode cX12_house 149 = .ok (.iaload, 1) := by decide +kernel
theorem dX12_house_150 : decode cX12_house 150 = .ok (.iastore, 1) := by decide +kernel
theorem dX12_house_151 : decode cX12_house 151 = .ok (.aload_n 0, 1) := by decide +kernel
theorem dX12_house_152 : decode cX12_house 152 = .ok (.getfield 16, 3) := by decide +kernel
theorem dX12_house_155 : decode cX12_house 155 = .ok (.iconst 4, 1) := by decide +kernel
theorem dX12_house_156 : decode cX12_house 156 = .ok (.iload_n 2, 1) := by decide +kernel
theorem dX12_house_157 : decode cX12_house 157 = .ok (.iadd, 1) := by decide +kernel
theorem dX12_house_158 : decode cX12_house 158 = .ok (.aload_n 0, 1) := by decide +kernel
theorem dX12_house_159 : decode cX12_house 159 = .ok (.getfield 38, 3) := by decide +kernel
theorem dX12_house_162 : decode cX12_house 162 = .ok (.iload_n 2, 1) := by decide +kernel
theorem dX12_house_163 : decode cX12_house 163 = .ok (.iaload, 1) := by decide +kernel
theorem dX12_house_164 : decode cX12_house 164 = .ok (.iastore, 1) := by decide +kernel
theorem dX12_house_165 : decode cX12_house 165 = .ok (.aload_n 0, 1) := by decide +kernel
theorem dX12_house_166 : decode cX12_house 166 = .ok (.getfield 16, 3) := by decide +kernel
theorem dX12_house_169 : decode cX12_house 169 = .ok (.bipush 9, 2) := by decide +kernel
theorem dX12_house_171 : decode cX12_house 171 = .ok (.iload_n 2, 1) := by decide +kernel
theorem dX12_house_172 : decode cX12_house 172 = .ok (.iadd, 1) := by decide +kernel
theorem dX12_house_173 : decode cX12_house 173 = .ok (.iconst (-1), 1) := by decide +kernel
theorem dX12_house_174 : decode cX12_house 174 = .ok (.iastore, 1) := by decide +kernel
theorem dX12_house_175 : decode cX12_house 175 = .ok (.iinc 2 1, 3) := by decide +kernel
theorem dX12_house_178 : decode cX12_house 178 = .ok (.goto (-44), 3) := by decide +kernel
theorem dX12_house_181 : decode cX12_house 181 = .ok (.iconst 0, 1) := by decide +kernel
theorem dX12_house_182 : decode cX12_house 182 = .ok (.istore_n 2, 1) := by decide +kernel
theorem dX12_house_183 : decode cX12_house 183 = .ok (.iload_n 2, 1) := by decide +kernel
theorem dX12_house_184 : decode cX12_house 184 = .ok (.bipush 6, 2) := by decide +kernel
theorem dX12_house_186 : decode cX12_house 186 = .ok (.if_icmp .ge 36, 3) := by decide +kernel
theorem dX12_house_189 : decode cX12_house 189 = .ok (.aload_n 0, 1) := by decide +kernel
theorem dX12_house_190 : decode cX12_house 190 = .ok (.getfield 13, 3) := by decide +kernel
theorem dX12_house_193 : decode cX12_house 193 = .ok (.iload_n 2, 1) := by decide +kernel
theorem dX12_house_194 : decode cX12_house 194 = .ok (.aload_n 0, 1) := by decide +kernel
theorem dX12_house_195 : decode cX12_house 195 = .ok (.getfield 44, 3) := by decide +kernel
theorem dX12_house_198 : decode cX12_house 198 = .ok (.iload_n 2, 1) := by decide +kernel
theorem dX12_house_199 : decode cX12_house 199 = .ok (.iaload, 1) := by decide +kernel
theorem dX12_house_200 : decode cX12_house 200 = .ok (.iastore, 1) := by decide +kernel
theorem dX12_house_201 : decode cX12_house 201 = .ok (.aload_n 0, 1) := by decide +kernel
theorem dX12_house_202 : decode cX12_house 202 = .ok (.getfield 16, 3) := by decide +kernel
theorem dX12_house_205 : decode cX12_house 205 = .ok (.bipush 14, 2) := by decide +kernel
theorem dX12_house_207 : decode cX12_house 207 = .ok (.iload_n 2, 1) := by decide +kernel
theorem dX12_house_208 : decode cX12_house 208 = .ok (.iadd, 1) := by decide +kernel
theorem dX12_house_209 : decode cX12_house 209 = .ok (.aload_n 0, 1) := by decide +kernel
theorem dX12_house_210 : decode cX12_house 210 = .ok (.getfield 47, 3) := by decide +kernel
theorem dX12_house_213 : decode cX12_house 213 = .ok (.iload_n 2, 1) := by decide +kernel
theorem dX12_house_214 : decode cX12_house 214 = .ok (.iaload, 1) := by decide +kernel
theorem dX12_house_215 : decode cX12_house 215 = .ok (.iastore, 1) := by decide +kernel
theorem dX12_house_216 : decode cX12_house 216 = .ok (.iinc 2 1, 3) := by decide +kernel
theorem dX12_house_219 : decode cX12_house 219 = .ok (.goto (-36), 3) := by decide +kernel
theorem dX12_house_222 : decode cX12_house 222 = .ok (.aload_n 0, 1) := by decide +kernel
theorem dX12_house_223 : decode cX12_house 223 = .ok (.iconst 0, 1) := by decide +kernel
theorem dX12_house_224 : decode cX12_house 224 = .ok (.putfield 155, 3) := by decide +kernel
theorem dX12_house_227 : decode cX12_house 227 = .ok (.aload_n 0, 1) := by decide +kernel
theorem dX12_house_228 : decode cX12_house 228 = .ok (.iconst 0, 1) := by decide +kernel
theorem dX12_house_229 : decode cX12_house 229 = .ok (.putfield 158, 3) := by decide +kernel
theorem dX12_house_232 : decode cX12_house 232 = .ok (.aload_n 0, 1) := by decide +kernel
theorem dX12_house_233 : decode cX12_house 233 = .ok (.iconst 0, 1) := by decide +kernel
theorem dX12_house_234 : decode cX12_house 234 = .ok (.putfield 161, 3) := by decide +kernel
theorem dX12_house_237 : decode cX12_house 237 = .ok (.aload_n 0, 1) := by decide +kernel
theorem dX12_house_238 : decode cX12_house 238 = .ok (.getfield 25, 3) := by decide +kernel
theorem dX12_house_241 : decode cX12_house 241 = .ok (.iconst 0, 1) := by decide +kernel
theorem dX12_house_242 : decode cX12_house 242 = .ok (.iconst 0, 1) := by decide +kernel
theorem dX12_house_243 : decode cX12_house 243 = .ok (.bastore, 1) := by decide +kernel
theorem dX12_house_244 : decode cX12_house 244 = .ok (.aload_n 0, 1) := by decide +kernel
theorem dX12_house_245 : decode cX12_house 245 = .ok (.getfield 25, 3) := by decide +kernel
theorem dX12_house_248 : decode cX12_house 248 = .ok (.iconst 1, 1) := by decide +kernel
theorem dX12_house_249 : decode cX12_house 249 = .ok (.iconst 0, 1) := by decide +kernel
theorem dX12_house_250 : decode cX12_house 250 = .ok (.bastore, 1) := by decide +kernel
theorem dX12_house_251 : decode cX12_house 251 = .ok (.aload_n 0, 1) := by decide +kernel
theorem dX12_house_252 : decode cX12_house 252 = .ok (.getfield 152, 3) := by decide +kernel
theorem dX12_house_255 : decode cX12_house 255 = .ok (.ireturn, 1) := by decide +kernel
theorem dX12_fault_0 : decode cX12_fault 0 = .ok (.aload_n 0, 1) := by decide +kernel
theorem dX12_fault_1 : decode cX12_fault 1 = .ok (.getfield 77, 3) := by decide +kernel
theorem dX12_fault_4 : decode cX12_fault 4 = .ok (.ireturn, 1) := by decide +kernel
theorem dX12_isPerson_0 : decode cX12_isPerson 0 = .ok (.iload_n 1, 1) := by decide +kernel
theorem dX12_isPerson_1 : decode cX12_isPerson 1 = .ok (.i2l, 1) := by decide +kernel
theorem dX12_isPerson_2 : decode cX12_isPerson 2 = .ok (.lconst 0, 1) := by decide +kernel
theorem dX12_isPerson_3 : decode cX12_isPerson 3 = .ok (.aload_n 0, 1) := by decide +kernel
theorem dX12_isPerson_4 : decode cX12_isPerson 4 = .ok (.getfield 152, 3) := by decide +kernel
theorem dX12_isPerson_7 : decode cX12_isPerson 7 = .ok (.iconst 1, 1) := by decide +kernel
theorem dX12_isPerson_8 : decode cX12_isPerson 8 = .ok (.isub, 1) := by decide +kernel
theorem dX12_isPerson_9 : decode cX12_isPerson 9 = .ok (.i2l, 1) := by decide +kernel
theorem dX12_isPerson_10 : decode cX12_isPerson 10 = .ok (.invokestatic 86, 3) := by decide +kernel
theorem dX12_isPerson_13 : decode cX12_isPerson 13 = .ok (.ireturn, 1) := by decide +kernel
theorem dX12_isDoing_0 : decode cX12_isDoing 0 = .ok (.iload_n 0, 1) := by decide +kernel
theorem dX12_isDoing_1 : decode cX12_isDoing 1 = .ok (.i2l, 1) := by decide +kernel
theorem dX12_isDoing_2 : decode cX12_isDoing 2 = .ok (.lconst 0, 1) := by decide +kernel
theorem dX12_isDoing_3 : decode cX12_isDoing 3 = .ok (.ldc2_w 164, 3) := by decide +kernel
theorem dX12_isDoing_6 : decode cX12_isDoing 6 = .ok (.invokestatic 86, 3) := by decide +kernel
theorem dX12_isDoing_9 : decode cX12_isDoing 9 = .ok (.ireturn, 1) := by decide +kernel
theorem dX12_told_0 : decode cX12_told 0 = .ok (.iload_n 1, 1) := by decide +kernel
theorem dX12_told_1 : decode cX12_told 1 = .ok (.i2l, 1) := by decide +kernel
theorem dX12_told_2 : decode cX12_told 2 = .ok (.lconst 0, 1) := by decide +kernel
theorem dX12_told_3 : decode cX12_told 3 = .ok (.ldc2_w 166, 3) := by decide +kernel
theorem dX12_told_6 : decode cX12_told 6 = .ok (.invokestatic 86, 3) := by decide +kernel
theorem dX12_told_9 : decode cX12_told 9 = .ok (.ifCond .ne 6, 3) := by decide +kernel
theorem dX12_told_12 : decode cX12_told 12 = .ok (.ldc 90, 2) := by decide +kernel
theorem dX12_told_14 : decode cX12_told 14 = .ok (.ireturn, 1) := by decide +kernel
theorem dX12_told_15 : decode cX12_told 15 = .ok (.iconst 0, 1) := by decide +kernel
theorem dX12_told_16 : decode cX12_told 16 = .ok (.istore_n 2, 1) := by decide +kernel
theorem dX12_told_17 : decode cX12_told 17 = .ok (.iconst 0, 1) := by decide +kernel
theorem dX12_told_18 : decode cX12_told 18 = .ok (.istore_n 3, 1) := by decide +kernel
theorem dX12_told_19 : decode cX12_told 19 = .ok (.iload_n 3, 1) := by decide +kernel
theorem dX12_told_20 : decode cX12_told 20 = .ok (.aload_n 0, 1) := by decide +kernel
theorem dX12_told_21 : decode cX12_told 21 = .ok (.getfield 152, 3) := by decide +kernel
theorem dX12_told_24 : decode cX12_told 24 = .ok (.if_icmp .ge 30, 3) := by decide +kernel
theorem dX12_told_27 : decode cX12_told 27 = .ok (.iload_n 2, 1) := by decide +kernel
theorem dX12_told_28 : decode cX12_told 28 = .ok (.aload_n 0, 1) := by decide +kernel
theorem dX12_told_29 : decode cX12_told 29 = .ok (.getfield 16, 3) := by decide +kernel
theorem dX12_told_32 : decode cX12_told 32 = .ok (.iconst 4, 1) := by decide +kernel
theorem dX12_told_33 : decode cX12_told 33 = .ok (.iload_n 3, 1) := by decide +kernel
theorem dX12_told_34 : decode cX12_told 34 = .ok (.iadd, 1) := by decide +kernel
theorem dX12_told_35 : decode cX12_told 35 = .ok (.iaload, 1) := by decide +kernel
theorem dX12_told_36 : decode cX12_told 36 = .ok (.ifCond .ne 9, 3) := by decide +kernel
theorem dX12_told_39 : decode cX12_told 39 = .ok (.iconst 1, 1) := by decide +kernel
theorem dX12_told_40 : decode cX12_told 40 = .ok (.iload_n 3, 1) := by decide +kernel
theorem dX12_told_41 : decode cX12_told 41 = .ok (.ishl, 1) := by decide +kernel
theorem dX12_told_42 : decode cX12_told 42 = .ok (.goto 4, 3) := by decide +kernel
theorem dX12_told_45 : decode cX12_told 45 = .ok (.iconst 0, 1) := by decide +kernel
theorem dX12_told_46 : decode cX12_told 46 = .ok (.ior, 1) := by decide +kernel
theorem dX12_told_47 : decode cX12_told 47 = .ok (.istore_n 2, 1) := by decide +kernel
theorem dX12_told_48 : decode cX12_told 48 = .ok (.iinc 3 1, 3) := by decide +kernel
theorem dX12_told_51 : decode cX12_told 51 = .ok (.goto (-32), 3) := by decide +kernel
theorem dX12_told_54 : decode cX12_told 54 = .ok (.iload_n 1, 1) := by decide +kernel
theorem dX12_told_55 : decode cX12_told 55 = .ok (.ifCond .ne 10, 3) := by decide +kernel
theorem dX12_told_58 : decode cX12_told 58 = .ok (.aload_n 0, 1) := by decide +kernel
theorem dX12_told_59 : decode cX12_told 59 = .ok (.getfield 152, 3) := by decide +kernel
theorem dX12_told_62 : decode cX12_told 62 = .ok (.goto 49, 3) := by decide +kernel
theorem dX12_told_65 : decode cX12_told 65 = .ok (.iload_n 1, 1) := by decide +kernel
theorem dX12_told_66 : decode cX12_told 66 = .ok (.iconst 1, 1) := by decide +kernel
theorem dX12_told_67 : decode cX12_told 67 = .ok (.if_icmp .ne 10, 3) := by decide +kernel
theorem dX12_told_70 : decode cX12_told 70 = .ok (.aload_n 0, 1) := by decide +kernel
theorem dX12_told_71 : decode cX12_told 71 = .ok (.getfield 91, 3) := by decide +kernel
theorem dX12_told_74 : decode cX12_told 74 = .ok (.goto 37, 3) := by decide +kernel
theorem dX12_told_77 : decode cX12_told 77 = .ok (.iload_n 1, 1) := by decide +kernel
theorem dX12_told_78 : decode cX12_told 78 = .ok (.iconst 2, 1) := by decide +kernel
theorem dX12_told_79 : decode cX12_told 79 = .ok (.if_icmp .ne 12, 3) := by decide +kernel
theorem dX12_told_82 : decode cX12_told 82 = .ok (.aload_n 0, 1) := by decide +kernel
theorem dX12_told_83 : decode cX12_told 83 = .ok (.getfield 16, 3) := by decide +kernel
theorem dX12_told_86 : decode cX12_told 86 = .ok (.iconst 2, 1) := by decide +kernel
theorem dX12_told_87 : decode cX12_told 87 = .ok (.iaload, 1) := by decide +kernel
theorem dX12_told_88 : decode cX12_told 88 = .ok (.goto 23, 3) := by decide +kernel
theorem dX12_told_91 : decode cX12_told 91 = .ok (.iload_n 1, 1) := by decide +kernel
theorem dX12_told_92 : decode cX12_told 92 = .ok (.iconst 3, 1) := by decide +kernel
theorem dX12_told_93 : decode cX12_told 93 = .ok (.if_icmp .ne 12, 3) := by decide +kernel
theorem dX12_told_96 : decode cX12_told 96 = .ok (.aload_n 0, 1) := by decide +kernel
theorem dX12_told_97 : decode cX12_told 97 = .ok (.getfield 16, 3) := by decide +kernel
theorem dX12_told_100 : decode cX12_told 100 = .ok (.iconst 0, 1) := by decide +kernel
theorem dX12_told_101 : decode cX12_told 101 = .ok (.iaload, 1) := by decide +kernel
theorem dX12_told_102 : decode cX12_told 102 = .ok (.goto 9, 3) := by decide +kernel
theorem dX12_told_105 : decode cX12_told 105 = .ok (.aload_n 0, 1) := by decide +kernel
theorem dX12_told_106 : decode cX12_told 106 = .ok (.getfield 16, 3) := by decide +kernel
theorem dX12_told_109 : decode cX12_told 109 = .ok (.iconst 1, 1) := by decide +kernel
theorem dX12_told_110 : decode cX12_told 110 = .ok (.iaload, 1) := by decide +kernel
theorem dX12_told_111 : decode cX12_told 111 = .ok (.istore_n 3, 1) := by decide +kernel
theorem dX12_told_112 : decode cX12_told 112 = .ok (.iload_n 1, 1) := by decide +kernel
theorem dX12_told_113 : decode cX12_told 113 = .ok (.bipush 7, 2) := by decide +kernel
theorem dX12_told_115 : decode cX12_told 115 = .ok (.if_icmp .ne 10, 3) := by decide +kernel
theorem dX12_told_118 : decode cX12_told 118 = .ok (.aload_n 0, 1) := by decide +kernel
theorem dX12_told_119 : decode cX12_told 119 = .ok (.getfield 155, 3) := by decide +kernel
theorem dX12_told_122 : decode cX12_told 122 = .ok (.goto 20, 3) := by decide +kernel
theorem dX12_told_125 : decode cX12_told 125 = .ok (.iload_n 1, 1) := by decide +kernel
theorem dX12_told_126 : decode cX12_told 126 = .ok (.bipush 8, 2) := by decide +kernel
theorem dX12_told_128 : decode cX12_told 128 = .ok (.if_icmp .ne 10, 3) := by decide +kernel
theorem dX12_told_131 : decode cX12_told 131 = .ok (.aload_n 0, 1) := by decide +kernel
theorem dX12_told_132 : decode cX12_told 132 = .ok (.getfield 158, 3) := by decide +kernel
theorem dX12_told_135 : decode cX12_told 135 = .ok (.goto 7, 3) := by decide +kernel
theorem dX12_told_138 : decode cX12_told 138 = .ok (.aload_n 0, 1) := by decide +kernel
theorem dX12_told_139 : decode cX12_told 139 = .ok (.getfield 161, 3) := by decide +kernel
theorem dX12_told_142 : decode cX12_told 142 = .ok (.istore 4, 2) := by decide +kernel
theorem dX12_told_144 : decode cX12_told 144 = .ok (.iload_n 1, 1) := by decide +kernel
theorem dX12_told_145 : decode cX12_told 145 = .ok (.iconst 5, 1) := by decide +kernel
theorem dX12_told_146 : decode cX12_told 146 = .ok (.if_icmp .ge 7, 3) := by decide +kernel
theorem dX12_told_149 : decode cX12_told 149 = .ok (.iload_n 3, 1) := by decide +kernel
theorem dX12_told_150 : decode cX12_told 150 = .ok (.goto 27, 3) := by decide +kernel
theorem dX12_told_153 : decode cX12_told 153 = .ok (.iload_n 1, 1) := by decide +kernel
theorem dX12_told_154 : decode cX12_told 154 = .ok (.iconst 5, 1) := by decide +kernel
theorem dX12_told_155 : decode cX12_told 155 = .ok (.if_icmp .ne 10, 3) := by decide +kernel
theorem dX12_told_158 : decode cX12_told 158 = .ok (.aload_n 0, 1) := by decide +kernel
theorem dX12_told_159 : decode cX12_told 159 = .ok (.getfield 81, 3) := by decide +kernel
theorem dX12_told_162 : decode cX12_told 162 = .ok (.goto 15, 3) := by decide +kernel
theorem dX12_told_165 : decode cX12_told 165 = .ok (.iload_n 1, 1) := by decide +kernel
theorem dX12_told_166 : decode cX12_told 166 = .ok (.bipush 6, 2) := by decide +kernel
theorem dX12_told_168 : decode cX12_told 168 = .ok (.if_icmp .ne 7, 3) := by decide +kernel
theorem dX12_told_171 : decode cX12_told 171 = .ok (.iload_n 2, 1) := by decide +kernel
theorem dX12_told_172 : decode cX12_told 172 = .ok (.goto 5, 3) := by decide +kernel
theorem dX12_told_175 : decode cX12_told 175 = .ok (.iload 4, 2) := by decide +kernel
theorem dX12_told_177 : decode cX12_told 177 = .ok (.ireturn, 1) := by decide +kernel
theorem dX12_person_0 : decode cX12_person 0 = .ok (.aload_n 0, 1) := by decide +kernel
theorem dX12_person_1 : decode cX12_person 1 = .ok (.iload_n 1, 1) := by decide +kernel
theorem dX12_person_2 : decode cX12_person 2 = .ok (.invokevirtual 168, 3) := by decide +kernel
theorem dX12_person_5 : decode cX12_person 5 = .ok (.ifCond .ne 6, 3) := by decide +kernel
theorem dX12_person_8 : decode cX12_person 8 = .ok (.ldc 171, 2) := by decide +kernel
theorem dX12_person_10 : decode cX12_person 10 = .ok (.ireturn, 1) := by decide +kernel
theorem dX12_person_11 : decode cX12_person 11 = .ok (.iload_n 2, 1) := by decide +kernel
theorem dX12_person_12 : decode cX12_person 12 = .ok (.i2l, 1) := by decide +kernel
theorem dX12_person_13 : decode cX12_person 13 = .ok (.lconst 0, 1) := by decide +kernel
theorem dX12_person_14 : decode cX12_person 14 = .ok (.ldc2_w 172, 3) := by decide +kernel
theorem dX12_person_17 : decode cX12_person 17 = .ok (.invokestatic 86, 3) := by decide +kernel
theorem dX12_person_20 : decode cX12_person 20 = .ok (.ifCond .ne 8, 3) := by decide +kernel
theorem dX12_person_23 : decode cX12_person 23 = .ok (.ldc 90, 2) := by decide +kernel
theorem dX12_person_25 : decode cX12_person 25 = .ok (.goto 41, 3) := by decide +kernel
theorem dX12_person_28 : decode cX12_person 28 = .ok (.iload_n 2, 1) := by decide +kernel
theorem dX12_person_29 : decode cX12_person 29 = .ok (.ifCond .ne 14, 3) := by decide +kernel
theorem dX12_person_32 : decode cX12_person 32 = .ok (.aload_n 0, 1) := by decide +kernel
theorem dX12_person_33 : decode cX12_person 33 = .ok (.getfield 16, 3) := by decide +kernel
theorem dX12_person_36 : decode cX12_person 36 = .ok (.iconst 4, 1) := by decide +kernel
theorem dX12_person_37 : decode cX12_person 37 = .ok (.iload_n 1, 1) := by decide +kernel
theorem dX12_person_38 : decode cX12_person 38 = .ok (.iadd, 1) := by decide +kernel
theorem dX12_person_39 : decode cX12_person 39 = .ok (.iaload, 1) := by decide +kernel
theorem dX12_person_40 : decode cX12_person 40 = .ok (.goto 26, 3) := by decide +kernel
theorem dX12_person_43 : decode cX12_person 43 = .ok (.iload_n 2, 1) := by decide +kernel
theorem dX12_person_44 : decode cX12_person 44 = .ok (.iconst 1, 1) := by decide +kernel
theorem dX12_person_45 : decode cX12_person 45 = .ok (.if_icmp .ne 12, 3) := by decide +kernel
theorem dX12_person_48 : decode cX12_person 48 = .ok (.aload_n 0, 1) := by decide +kernel
theorem dX12_person_49 : decode cX12_person 49 = .ok (.getfield 7, 3) := by decide +kernel
theorem dX12_person_52 : decode cX12_person 52 = .ok (.iload_n 1, 1) := by decide +kernel
theorem dX12_person_53 : decode cX12_person 53 = .ok (.iaload, 1) := by decide +kernel
theorem dX12_person_54 : decode cX12_person 54 = .ok (.goto 12, 3) := by decide +kernel
theorem dX12_person_57 : decode cX12_person 57 = .ok (.aload_n 0, 1) := by decide +kernel
theorem dX12_person_58 : decode cX12_person 58 = .ok (.getfield 16, 3) := by decide +kernel
theorem dX12_person_61 : decode cX12_person 61 = .ok (.bipush 9, 2) := by decide +kernel
theorem dX12_person_63 : decode cX12_person 63 = .ok (.iload_n 1, 1) := by decide +kernel
theorem dX12_person_64 : decode cX12_person 64 = .ok (.iadd, 1) := by decide +kernel
theorem dX12_person_65 : decode cX12_person 65 = .ok (.iaload, 1) := by decide +kernel
theorem dX12_person_66 : decode cX12_person 66 = .ok (.ireturn, 1) := by decide +kernel
theorem dX12_doing_0 : decode cX12_doing 0 = .ok (.iload_n 1, 1) := by decide +kernel
theorem dX12_doing_1 : decode cX12_doing 1 = .ok (.invokestatic 174, 3) := by decide +kernel
theorem dX12_doing_4 : decode cX12_doing 4 = .ok (.ifCond .ne 6, 3) := by decide +kernel
theorem dX12_doing_7 : decode cX12_doing 7 = .ok (.ldc 171, 2) := by decide +kernel
theorem dX12_doing_9 : decode cX12_doing 9 = .ok (.ireturn, 1) := by decide +kernel
theorem dX12_doing_10 : decode cX12_doing 10 = .ok (.iload_n 2, 1) := by decide +kernel
theorem dX12_doing_11 : decode cX12_doing 11 = .ok (.i2l, 1) := by decide +kernel
theorem dX12_doing_12 : decode cX12_doing 12 = .ok (.lconst 0, 1) := by decide +kernel
theorem dX12_doing_13 : decode cX12_doing 13 = .ok (.lconst 1, 1) := by decide +kernel
theorem dX12_doing_14 : decode cX12_doing 14 = .ok (.invokestatic 86, 3) := by decide +kernel
theorem dX12_doing_17 : decode cX12_doing 17 = .ok (.ifCond .ne 8, 3) := by decide +kernel
theorem dX12_doing_20 : decode cX12_doing 20 = .ok (.ldc 90, 2) := by decide +kernel
theorem dX12_doing_22 : decode cX12_doing 22 = .ok (.goto 25, 3) := by decide +kernel
theorem dX12_doing_25 : decode cX12_doing 25 = .ok (.iload_n 2, 1) := by decide +kernel
theorem dX12_doing_26 : decode cX12_doing 26 = .ok (.ifCond .ne 12, 3) := by decide +kernel
theorem dX12_doing_29 : decode cX12_doing 29 = .ok (.aload_n 0, 1) := by decide +kernel
theorem dX12_doing_30 : decode cX12_doing 30 = .ok (.getfield 13, 3) := by decide +kernel
theorem dX12_doing_33 : decode cX12_doing 33 = .ok (.iload_n 1, 1) := by decide +kernel
theorem dX12_doing_34 : decode cX12_doing 34 = .ok (.iaload, 1) := by decide +kernel
theorem dX12_doing_35 : decode cX12_doing 35 = .ok (.goto 12, 3) := by decide +kernel
theorem dX12_doing_38 : decode cX12_doing 38 = .ok (.aload_n 0, 1) := by decide +kernel
theorem dX12_doing_39 : decode cX12_doing 39 = .ok (.getfield 16, 3) := by decide +kernel
theorem dX12_doing_42 : decode cX12_doing 42 = .ok (.bipush 14, 2) := by decide +kernel
theorem dX12_doing_44 : decode cX12_doing 44 = .ok (.iload_n 1, 1) := by decide +kernel
theorem dX12_doing_45 : decode cX12_doing 45 = .ok (.iadd, 1) := by decide +kernel
theorem dX12_doing_46 : decode cX12_doing 46 = .ok (.iaload, 1) := by decide +kernel
theorem dX12_doing_47 : decode cX12_doing 47 = .ok (.ireturn, 1) := by decide +kernel
theorem dX12_take_0 : decode cX12_take 0 = .ok (.iconst 0, 1) := by decide +kernel
theorem dX12_take_1 : decode cX12_take 1 = .ok (.istore_n 1, 1) := by decide +kernel
theorem dX12_take_2 : decode cX12_take 2 = .ok (.iload_n 1, 1) := by decide +kernel
theorem dX12_take_3 : decode cX12_take 3 = .ok (.bipush 20, 2) := by decide +kernel
theorem dX12_take_5 : decode cX12_take 5 = .ok (.if_icmp .ge 21, 3) := by decide +kernel
theorem dX12_take_8 : decode cX12_take 8 = .ok (.aload_n 0, 1) := by decide +kernel
theorem dX12_take_9 : decode cX12_take 9 = .ok (.getfield 53, 3) := by decide +kernel
theorem dX12_take_12 : decode cX12_take 12 = .ok (.iload_n 1, 1) := by decide +kernel
theorem dX12_take_13 : decode cX12_take 13 = .ok (.aload_n 0, 1) := by decide +kernel
theorem dX12_take_14 : decode cX12_take 14 = .ok (.getfield 16, 3) := by decide +kernel
theorem dX12_take_17 : decode cX12_take 17 = .ok (.iload_n 1, 1) := by decide +kernel
theorem dX12_take_18 : decode cX12_take 18 = .ok (.iaload, 1) := by decide +kernel
theorem dX12_take_19 : decode cX12_take 19 = .ok (.iastore, 1) := by decide +kernel
theorem dX12_take_20 : decode cX12_take 20 = .ok (.iinc 1 1, 3) := by decide +kernel
theorem dX12_take_23 : decode cX12_take 23 = .ok (.goto (-21), 3) := by decide +kernel
theorem dX12_take_26 : decode cX12_take 26 = .ok (.return_, 1) := by decide +kernel
theorem dX12_likes_0 : decode cX12_likes 0 = .ok (.aload_n 0, 1) := by decide +kernel
theorem dX12_likes_1 : decode cX12_likes 1 = .ok (.getfield 53, 3) := by decide +kernel
theorem dX12_likes_4 : decode cX12_likes 4 = .ok (.iconst 0, 1) := by decide +kernel
theorem dX12_likes_5 : decode cX12_likes 5 = .ok (.iaload, 1) := by decide +kernel
theorem dX12_likes_6 : decode cX12_likes 6 = .ok (.istore_n 3, 1) := by decide +kernel
theorem dX12_likes_7 : decode cX12_likes 7 = .ok (.iconst 0, 1) := by decide +kernel
theorem dX12_likes_8 : decode cX12_likes 8 = .ok (.istore 4, 2) := by decide +kernel
theorem dX12_likes_10 : decode cX12_likes 10 = .ok (.iconst 0, 1) := by decide +kernel
theorem dX12_likes_11 : decode cX12_likes 11 = .ok (.istore 5, 2) := by decide +kernel
theorem dX12_likes_13 : decode cX12_likes 13 = .ok (.iconst 1, 1) := by decide +kernel
theorem dX12_likes_14 : decode cX12_likes 14 = .ok (.istore 6, 2) := by decide +kernel
theorem dX12_likes_16 : decode cX12_likes 16 = .ok (.iload 6, 2) := by decide +kernel
theorem dX12_likes_18 : decode cX12_likes 18 = .ok (.aload_n 0, 1) := by decide +kernel
theorem dX12_likes_19 : decode cX12_likes 19 = .ok (.getfield 152, 3) := by decide +kernel
theorem dX12_likes_22 : decode cX12_likes 22 = .ok (.if_icmp .ge 71, 3) := by decide +kernel
theorem dX12_likes_25 : decode cX12_likes 25 = .ok (.aload_n 0, 1) := by decide +kernel
theorem dX12_likes_26 : decode cX12_likes 26 = .ok (.getfield 53, 3) := by decide +kernel
theorem dX12_likes_29 : decode cX12_likes 29 = .ok (.iconst 4, 1) := by decide +kernel
theorem dX12_likes_30 : decode cX12_likes 30 = .ok (.iload 6, 2) := by decide +kernel
theorem dX12_likes_32 : decode cX12_likes 32 = .ok (.iadd, 1) := by decide +kernel
theorem dX12_likes_33 : decode cX12_likes 33 = .ok (.iaload, 1) := by decide +kernel
theorem dX12_likes_34 : decode cX12_likes 34 = .ok (.aload_n 0, 1) := by decide +kernel
theorem dX12_likes_35 : decode cX12_likes 35 = .ok (.getfield 53, 3) := by decide +kernel
theorem dX12_likes_38 : decode cX12_likes 38 = .ok (.iconst 4, 1) := by decide +kernel
theorem dX12_likes_39 : decode cX12_likes 39 = .ok (.iload 4, 2) := by decide +kernel
theorem dX12_likes_41 : decode cX12_likes 41 = .ok (.iadd, 1) := by decide +kernel
theorem dX12_likes_42 : decode cX12_likes 42 = .ok (.iaload, 1) := by decide +kernel
theorem dX12_likes_43 : decode cX12_likes 43 = .ok (.if_icmp .ge 8, 3) := by decide +kernel
theorem dX12_likes_46 : decode cX12_likes 46 = .ok (.iload 6, 2) := by decide +kernel
theorem dX12_likes_48 : decode cX12_likes 48 = .ok (.goto 5, 3) := by decide +kernel
theorem dX12_likes_51 : decode cX12_likes 51 = .ok (.iload 4, 2) := by decide +kernel
theorem dX12_likes_53 : decode cX12_likes 53 = .ok (.istore 4, 2) := by decide +kernel
theorem dX12_likes_55 : decode cX12_likes 55 = .ok (.aload_n 0, 1) := by decide +kernel
theorem dX12_likes_56 : decode cX12_likes 56 = .ok (.getfield 53, 3) := by decide +kernel
theorem dX12_likes_59 : decode cX12_likes 59 = .ok (.bipush 9, 2) := by decide +kernel
theorem dX12_likes_61 : decode cX12_likes 61 = .ok (.iload 6, 2) := by decide +kernel
theorem dX12_likes_63 : decode cX12_likes 63 = .ok (.iadd, 1) := by decide +kernel
theorem dX12_likes_64 : decode cX12_likes 64 = .ok (.iaload, 1) := by decide +kernel
theorem dX12_likes_65 : decode cX12_likes 65 = .ok (.aload_n 0, 1) := by decide +kernel
theorem dX12_likes_66 : decode cX12_likes 66 = .ok (.getfield 53, 3) := by decide +kernel
theorem dX12_likes_69 : decode cX12_likes 69 = .ok (.bipush 9, 2) := by decide +kernel
theorem dX12_likes_71 : decode cX12_likes 71 = .ok (.iload 5, 2) := by decide +kernel
theorem dX12_likes_73 : decode cX12_likes 73 = .ok (.iadd, 1) := by decide +kernel
theorem dX12_likes_74 : decode cX12_likes 74 = .ok (.iaload, 1) := by decide +kernel
theorem dX12_likes_75 : decode cX12_likes 75 = .ok (.if_icmp .ge 8, 3) := by decide +kernel
theorem dX12_likes_78 : decode cX12_likes 78 = .ok (.iload 6, 2) := by decide +kernel
theorem dX12_likes_80 : decode cX12_likes 80 = .ok (.goto 5, 3) := by decide +kernel
theorem dX12_likes_83 : decode cX12_likes 83 = .ok (.iload 5, 2) := by decide +kernel
theorem dX12_likes_85 : decode cX12_likes 85 = .ok (.istore 5, 2) := by decide +kernel
theorem dX12_likes_87 : decode cX12_likes 87 = .ok (.iinc 6 1, 3) := by decide +kernel
theorem dX12_likes_90 : decode cX12_likes 90 = .ok (.goto (-74), 3) := by decide +kernel
theorem dX12_likes_93 : decode cX12_likes 93 = .ok (.iload_n 1, 1) := by decide +kernel
theorem dX12_likes_94 : decode cX12_likes 94 = .ok (.ifCond .ne 7, 3) := by decide +kernel
theorem dX12_likes_97 : decode cX12_likes 97 = .ok (.iload_n 2, 1) := by decide +kernel
theorem dX12_likes_98 : decode cX12_likes 98 = .ok (.goto 31, 3) := by decide +kernel
theorem dX12_likes_101 : decode cX12_likes 101 = .ok (.iload_n 1, 1) := by decide +kernel
theorem dX12_likes_102 : decode cX12_likes 102 = .ok (.iconst 1, 1) := by decide +kernel
theorem dX12_likes_103 : decode cX12_likes 103 = .ok (.if_icmp .ne 14, 3) := by decide +kernel
theorem dX12_likes_106 : decode cX12_likes 106 = .ok (.iload_n 3, 1) := by decide +kernel
theorem dX12_likes_107 : decode cX12_likes 107 = .ok (.iconst 1, 1) := by decide +kernel
theorem dX12_likes_108 : decode cX12_likes 108 = .ok (.iadd, 1) := by decide +kernel
theorem dX12_likes_109 : decode cX12_likes 109 = .ok (.aload_n 0, 1) := by decide +kernel
theorem dX12_likes_110 : decode cX12_likes 110 = .ok (.getfield 152, 3) := by decide +kernel
theorem dX12_likes_113 : decode cX12_likes 113 = .ok (.irem, 1) := by decide +kernel
theorem dX12_likes_114 : decode cX12_likes 114 = .ok (.goto 15, 3) := by decide +kernel
theorem dX12_likes_117 : decode cX12_likes 117 = .ok (.iload_n 1, 1) := by decide +kernel
theorem dX12_likes_118 : decode cX12_likes 118 = .ok (.iconst 2, 1) := by decide +kernel
theorem dX12_likes_119 : decode cX12_likes 119 = .ok (.if_icmp .ne 8, 3) := by decide +kernel
theorem dX12_likes_122 : decode cX12_likes 122 = .ok (.iload 4, 2) := by decide +kernel
theorem dX12_likes_124 : decode cX12_likes 124 = .ok (.goto 5, 3) := by decide +kernel
theorem dX12_likes_127 : decode cX12_likes 127 = .ok (.iload 5, 2) := by decide +kernel
theorem dX12_likes_129 : decode cX12_likes 129 = .ok (.istore 6, 2) := by decide +kernel
theorem dX12_likes_131 : decode cX12_likes 131 = .ok (.iload_n 1, 1) := by decide +kernel
theorem dX12_likes_132 : decode cX12_likes 132 = .ok (.iconst 4, 1) := by decide +kernel
theorem dX12_likes_133 : decode cX12_likes 133 = .ok (.if_icmp .ge 8, 3) := by decide +kernel
theorem dX12_likes_136 : decode cX12_likes 136 = .ok (.iload 6, 2) := by decide +kernel
theorem dX12_likes_138 : decode cX12_likes 138 = .ok (.goto 41, 3) := by decide +kernel
theorem dX12_likes_141 : decode cX12_likes 141 = .ok (.iload_n 1, 1) := by decide +kernel
theorem dX12_likes_142 : decode cX12_likes 142 = .ok (.iconst 4, 1) := by decide +kernel
theorem dX12_likes_143 : decode cX12_likes 143 = .ok (.if_icmp .ne 7, 3) := by decide +kernel
theorem dX12_likes_146 : decode cX12_likes 146 = .ok (.iload_n 3, 1) := by decide +kernel
theorem dX12_likes_147 : decode cX12_likes 147 = .ok (.goto 32, 3) := by decide +kernel
theorem dX12_likes_150 : decode cX12_likes 150 = .ok (.iload_n 1, 1) := by decide +kernel
theorem dX12_likes_151 : decode cX12_likes 151 = .ok (.iconst 5, 1) := by decide +kernel
theorem dX12_likes_152 : decode cX12_likes 152 = .ok (.if_icmp .ne 19, 3) := by decide +kernel
theorem dX12_likes_155 : decode cX12_likes 155 = .ok (.iload_n 3, 1) := by decide +kernel
theorem dX12_likes_156 : decode cX12_likes 156 = .ok (.aload_n 0, 1) := by decide +kernel
theorem dX12_likes_157 : decode cX12_likes 157 = .ok (.getfield 152, 3) := by decide +kernel
theorem dX12_likes_160 : decode cX12_likes 160 = .ok (.iadd, 1) := by decide +kernel
theorem dX12_likes_161 : decode cX12_likes 161 = .ok (.iconst 1, 1) := by decide +kernel
theorem dX12_likes_162 : decode cX12_likes 162 = .ok (.isub, 1) := by decide +kernel
theorem dX12_likes_163 : decode cX12_likes 163 = .ok (.aload_n 0, 1) := by decide +kernel
theorem dX12_likes_164 : decode cX12_likes 164 = .ok (.getfield 152, 3) := by decide +kernel
theorem dX12_likes_167 : decode cX12_likes 167 = .ok (.irem, 1) := by decide +kernel
theorem dX12_likes_168 : decode cX12_likes 168 = .ok (.goto 11, 3) := by decide +kernel
theorem dX12_likes_171 : decode cX12_likes 171 = .ok (.iload_n 2, 1) := by decide +kernel
theorem dX12_likes_172 : decode cX12_likes 172 = .ok (.iconst 1, 1) := by decide +kernel
theorem dX12_likes_173 : decode cX12_likes 173 = .ok (.iadd, 1) := by decide +kernel
theorem dX12_likes_174 : decode cX12_likes 174 = .ok (.aload_n 0, 1) := by decide +kernel
theorem dX12_likes_175 : decode cX12_likes 175 = .ok (.getfield 152, 3) := by decide +kernel
theorem dX12_likes_178 : decode cX12_likes 178 = .ok (.irem, 1) := by decide +kernel
theorem dX12_likes_179 : decode cX12_likes 179 = .ok (.ireturn, 1) := by decide +kernel
theorem dX12_doesIt_0 : decode cX12_doesIt 0 = .ok (.aload_n 0, 1) := by decide +kernel
theorem dX12_doesIt_1 : decode cX12_doesIt 1 = .ok (.getfield 53, 3) := by decide +kernel
theorem dX12_doesIt_4 : decode cX12_doesIt 4 = .ok (.iconst 1, 1) := by decide +kernel
theorem dX12_doesIt_5 : decode cX12_doesIt 5 = .ok (.dup2, 1) := by decide +kernel
theorem dX12_doesIt_6 : decode cX12_doesIt 6 = .ok (.iaload, 1) := by decide +kernel
theorem dX12_doesIt_7 : decode cX12_doesIt 7 = .ok (.aload_n 0, 1) := by decide +kernel
theorem dX12_doesIt_8 : decode cX12_doesIt 8 = .ok (.getfield 13, 3) := by decide +kernel
theorem dX12_doesIt_11 : decode cX12_doesIt 11 = .ok (.iload_n 1, 1) := by decide +kernel
theorem dX12_doesIt_12 : decode cX12_doesIt 12 = .ok (.iaload, 1) := by decide +kernel
theorem dX12_doesIt_13 : decode cX12_doesIt 13 = .ok (.isub, 1) := by decide +kernel
theorem dX12_doesIt_14 : decode cX12_doesIt 14 = .ok (.iastore, 1) := by decide +kernel
theorem dX12_doesIt_15 : decode cX12_doesIt 15 = .ok (.aload_n 0, 1) := by decide +kernel
theorem dX12_doesIt_16 : decode cX12_doesIt 16 = .ok (.getfield 53, 3) := by decide +kernel
theorem dX12_doesIt_19 : decode cX12_doesIt 19 = .ok (.iconst 0, 1) := by decide +kernel
theorem dX12_doesIt_20 : decode cX12_doesIt 20 = .ok (.aload_n 0, 1) := by decide +kernel
theorem dX12_doesIt_21 : decode cX12_doesIt 21 = .ok (.aload_n 0, 1) := by decide +kernel
theorem dX12_doesIt_22 : decode cX12_doesIt 22 = .ok (.getfield 53, 3) := by decide +kernel
theorem dX12_doesIt_25 : decode cX12_doesIt 25 = .ok (.bipush 14, 2) := by decide +kernel
theorem dX12_doesIt_27 : decode cX12_doesIt 27 = .ok (.iload_n 1, 1) := by decide +kernel
theorem dX12_doesIt_28 : decode cX12_doesIt 28 = .ok (.iadd, 1) := by decide +kernel
theorem dX12_doesIt_29 : decode cX12_doesIt 29 = .ok (.iaload, 1) := by decide +kernel
theorem dX12_doesIt_30 : decode cX12_doesIt 30 = .ok (.iload_n 2, 1) := by decide +kernel
theorem dX12_doesIt_31 : decode cX12_doesIt 31 = .ok (.invokevirtual 177, 3) := by decide +kernel
theorem dX12_doesIt_34 : decode cX12_doesIt 34 = .ok (.iastore, 1) := by decide +kernel
theorem dX12_doesIt_35 : decode cX12_doesIt 35 = .ok (.return_, 1) := by decide +kernel
theorem dX12_goesBy_0 : decode cX12_goesBy 0 = .ok (.aload_n 0, 1) := by decide +kernel
theorem dX12_goesBy_1 : decode cX12_goesBy 1 = .ok (.getfield 53, 3) := by decide +kernel
theorem dX12_goesBy_4 : decode cX12_goesBy 4 = .ok (.iconst 0, 1) := by decide +kernel
theorem dX12_goesBy_5 : decode cX12_goesBy 5 = .ok (.iaload, 1) := by decide +kernel
theorem dX12_goesBy_6 : decode cX12_goesBy 6 = .ok (.istore_n 1, 1) := by decide +kernel
theorem dX12_goesBy_7 : decode cX12_goesBy 7 = .ok (.aload_n 0, 1) := by decide +kernel
theorem dX12_goesBy_8 : decode cX12_goesBy 8 = .ok (.getfield 53, 3) := by decide +kernel
theorem dX12_goesBy_11 : decode cX12_goesBy 11 = .ok (.bipush 9, 2) := by decide +kernel
theorem dX12_goesBy_13 : decode cX12_goesBy 13 = .ok (.iload_n 1, 1) := by decide +kernel
theorem dX12_goesBy_14 : decode cX12_goesBy 14 = .ok (.iadd, 1) := by decide +kernel
theorem dX12_goesBy_15 : decode cX12_goesBy 15 = .ok (.aload_n 0, 1) := by decide +kernel
theorem dX12_goesBy_16 : decode cX12_goesBy 16 = .ok (.getfield 53, 3) := by decide +kernel
theorem dX12_goesBy_19 : decode cX12_goesBy 19 = .ok (.iconst 2, 1) := by decide +kernel
theorem dX12_goesBy_20 : decode cX12_goesBy 20 = .ok (.iaload, 1) := by decide +kernel
theorem dX12_goesBy_21 : decode cX12_goesBy 21 = .ok (.iastore, 1) := by decide +kernel
theorem dX12_goesBy_22 : decode cX12_goesBy 22 = .ok (.iconst 0, 1) := by decide +kernel
theorem dX12_goesBy_23 : decode cX12_goesBy 23 = .ok (.istore_n 2, 1) := by decide +kernel
theorem dX12_goesBy_24 : decode cX12_goesBy 24 = .ok (.iload_n 2, 1) := by decide +kernel
theorem dX12_goesBy_25 : decode cX12_goesBy 25 = .ok (.aload_n 0, 1) := by decide +kernel
theorem dX12_goesBy_26 : decode cX12_goesBy 26 = .ok (.getfield 152, 3) := by decide +kernel
theorem dX12_goesBy_29 : decode cX12_goesBy 29 = .ok (.if_icmp .ge 62, 3) := by decide +kernel
theorem dX12_goesBy_32 : decode cX12_goesBy 32 = .ok (.aload_n 0, 1) := by decide +kernel
theorem dX12_goesBy_33 : decode cX12_goesBy 33 = .ok (.getfield 53, 3) := by decide +kernel
theorem dX12_goesBy_36 : decode cX12_goesBy 36 = .ok (.iconst 4, 1) := by decide +kernel
theorem dX12_goesBy_37 : decode cX12_goesBy 37 = .ok (.iload_n 2, 1) := by decide +kernel
theorem dX12_goesBy_38 : decode cX12_goesBy 38 = .ok (.iadd, 1) := by decide +kernel
theorem dX12_goesBy_39 : decode cX12_goesBy 39 = .ok (.iload_n 2, 1) := by decide +kernel
theorem dX12_goesBy_40 : decode cX12_goesBy 40 = .ok (.iload_n 1, 1) := by decide +kernel
theorem dX12_goesBy_41 : decode cX12_goesBy 41 = .ok (.if_icmp .ne 24, 3) := by decide +kernel
theorem dX12_goesBy_44 : decode cX12_goesBy 44 = .ok (.bipush 99, 2) := by decide +kernel
theorem dX12_goesBy_46 : decode cX12_goesBy 46 = .ok (.aload_n 0, 1) := by decide +kernel
theorem dX12_goesBy_47 : decode cX12_goesBy 47 = .ok (.getfield 53, 3) := by decide +kernel
theorem dX12_goesBy_50 : decode cX12_goesBy 50 = .ok (.iconst 4, 1) := by decide +kernel
theorem dX12_goesBy_51 : decode cX12_goesBy 51 = .ok (.iload_n 2, 1) := by decide +kernel
theorem dX12_goesBy_52 : decode cX12_goesBy 52 = .ok (.iadd, 1) := by decide +kernel
theorem dX12_goesBy_53 : decode cX12_goesBy 53 = .ok (.iaload, 1) := by decide +kernel
theorem dX12_goesBy_54 : decode cX12_goesBy 54 = .ok (.aload_n 0, 1) := by decide +kernel
theorem dX12_goesBy_55 : decode cX12_goesBy 55 = .ok (.getfield 81, 3) := by decide +kernel
theorem dX12_goesBy_58 : decode cX12_goesBy 58 = .ok (.iadd, 1) := by decide +kernel
theorem dX12_goesBy_59 : decode cX12_goesBy 59 = .ok (.invokestatic 181, 3) := by decide +kernel
theorem dX12_goesBy_62 : decode cX12_goesBy 62 = .ok (.goto 22, 3) := by decide +kernel
theorem dX12_goesBy_65 : decode cX12_goesBy 65 = .ok (.iconst 0, 1) := by decide +kernel
theorem dX12_goesBy_66 : decode cX12_goesBy 66 = .ok (.aload_n 0, 1) := by decide +kernel
theorem dX12_goesBy_67 : decode cX12_goesBy 67 = .ok (.getfield 53, 3) := by decide +kernel
theorem dX12_goesBy_70 : decode cX12_goesBy 70 = .ok (.iconst 4, 1) := by decide +kernel
theorem dX12_goesBy_71 : decode cX12_goesBy 71 = .ok (.iload_n 2, 1) := by decide +kernel
theorem dX12_goesBy_72 : decode cX12_goesBy 72 = .ok (.iadd, 1) := by decide +kernel
theorem dX12_goesBy_73 : decode cX12_goesBy 73 = .ok (.iaload, 1) := by decide +kernel
theorem dX12_goesBy_74 : decode cX12_goesBy 74 = .ok (.aload_n 0, 1) := by decide +kernel
theorem dX12_goesBy_75 : decode cX12_goesBy 75 = .ok (.getfield 7, 3) := by decide +kernel
theorem dX12_goesBy_78 : decode cX12_goesBy 78 = .ok (.iload_n 2, 1) := by decide +kernel
theorem dX12_goesBy_79 : decode cX12_goesBy 79 = .ok (.iaload, 1) := by decide +kernel
theorem dX12_goesBy_80 : decode cX12_goesBy 80 = .ok (.isub, 1) := by decide +kernel
theorem dX12_goesBy_81 : decode cX12_goesBy 81 = .ok (.invokestatic 184, 3) := by decide +kernel
theorem dX12_goesBy_84 : decode cX12_goesBy 84 = .ok (.iastore, 1) := by decide +kernel
theorem dX12_goesBy_85 : decode cX12_goesBy 85 = .ok (.iinc 2 1, 3) := by decide +kernel
theorem dX12_goesBy_88 : decode cX12_goesBy 88 = .ok (.goto (-64), 3) := by decide +kernel
theorem dX12_goesBy_91 : decode cX12_goesBy 91 = .ok (.aload_n 0, 1) := by decide +kernel
theorem dX12_goesBy_92 : decode cX12_goesBy 92 = .ok (.getfield 53, 3) := by decide +kernel
theorem dX12_goesBy_95 : decode cX12_goesBy 95 = .ok (.iconst 2, 1) := by decide +kernel
theorem dX12_goesBy_96 : decode cX12_goesBy 96 = .ok (.dup2, 1) := by decide +kernel
theorem dX12_goesBy_97 : decode cX12_goesBy 97 = .ok (.iaload, 1) := by decide +kernel
theorem dX12_goesBy_98 : decode cX12_goesBy 98 = .ok (.iconst 1, 1) := by decide +kernel
theorem dX12_goesBy_99 : decode cX12_goesBy 99 = .ok (.iadd, 1) := by decide +kernel
theorem dX12_goesBy_100 : decode cX12_goesBy 100 = .ok (.iastore, 1) := by decide +kernel
theorem dX12_goesBy_101 : decode cX12_goesBy 101 = .ok (.return_, 1) := by decide +kernel
theorem dX12_keepsHour_0 : decode cX12_keepsHour 0 = .ok (.aload_n 0, 1) := by decide +kernel
theorem dX12_keepsHour_1 : decode cX12_keepsHour 1 = .ok (.getfield 161, 3) := by decide +kernel
theorem dX12_keepsHour_4 : decode cX12_keepsHour 4 = .ok (.bipush 30, 2) := by decide +kernel
theorem dX12_keepsHour_6 : decode cX12_keepsHour 6 = .ok (.if_icmp .ne 43, 3) := by decide +kernel
theorem dX12_keepsHour_9 : decode cX12_keepsHour 9 = .ok (.iconst 0, 1) := by decide +kernel
theorem dX12_keepsHour_10 : decode cX12_keepsHour 10 = .ok (.istore_n 1, 1) := by decide +kernel
theorem dX12_keepsHour_11 : decode cX12_keepsHour 11 = .ok (.iload_n 1, 1) := by decide +kernel
theorem dX12_keepsHour_12 : decode cX12_keepsHour 12 = .ok (.sipush 580, 3) := by decide +kernel
theorem dX12_keepsHour_15 : decode cX12_keepsHour 15 = .ok (.if_icmp .ge 24, 3) := by decide +kernel
theorem dX12_keepsHour_18 : decode cX12_keepsHour 18 = .ok (.aload_n 0, 1) := by decide +kernel
theorem dX12_keepsHour_19 : decode cX12_keepsHour 19 = .ok (.getfield 19, 3) := by decide +kernel
theorem dX12_keepsHour_22 : decode cX12_keepsHour 22 = .ok (.iload_n 1, 1) := by decide +kernel
theorem dX12_keepsHour_23 : decode cX12_keepsHour 23 = .ok (.aload_n 0, 1) := by decide +kernel
theorem dX12_keepsHour_24 : decode cX12_keepsHour 24 = .ok (.getfield 19, 3) := by decide +kernel
theorem dX12_keepsHour_27 : decode cX12_keepsHour 27 = .ok (.iload_n 1, 1) := by decide +kernel
theorem dX12_keepsHour_28 : decode cX12_keepsHour 28 = .ok (.bipush 20, 2) := by decide +kernel
theorem dX12_keepsHour_30 : decode cX12_keepsHour 30 = .ok (.iadd, 1) := by decide +kernel
theorem dX12_keepsHour_31 : decode cX12_keepsHour 31 = .ok (.iaload, 1) := by decide +kernel
theorem dX12_keepsHour_32 : decode cX12_keepsHour 32 = .ok (.iastore, 1) := by decide +kernel
theorem dX12_keepsHour_33 : decode cX12_keepsHour 33 = .ok (.iinc 1 1, 3) := by decide +kernel
theorem dX12_keepsHour_36 : decode cX12_keepsHour 36 = .ok (.goto (-25), 3) := by decide +kernel
theorem dX12_keepsHour_39 : decode cX12_keepsHour 39 = .ok (.aload_n 0, 1) := by decide +kernel
theorem dX12_keepsHour_40 : decode cX12_keepsHour 40 = .ok (.dup, 1) := by decide +kernel
theorem dX12_keepsHour_41 : decode cX12_keepsHour 41 = .ok (.getfield 161, 3) := by decide +kernel
theorem dX12_keepsHour_44 : decode cX12_keepsHour 44 = .ok (.iconst 1, 1) := by decide +kernel
theorem dX12_keepsHour_45 : decode cX12_keepsHour 45 = .ok (.isub, 1) := by decide +kernel
theorem dX12_keepsHour_46 : decode cX12_keepsHour 46 = .ok (.putfield 161, 3) := by decide +kernel
theorem dX12_keepsHour_49 : decode cX12_keepsHour 49 = .ok (.iconst 0, 1) := by decide +kernel
theorem dX12_keepsHour_50 : decode cX12_keepsHour 50 = .ok (.istore_n 1, 1) := by decide +kernel
theorem dX12_keepsHour_51 : decode cX12_keepsHour 51 = .ok (.iload_n 1, 1) := by decide +kernel
theorem dX12_keepsHour_52 : decode cX12_keepsHour 52 = .ok (.bipush 20, 2) := by decide +kernel
theorem dX12_keepsHour_54 : decode cX12_keepsHour 54 = .ok (.if_icmp .ge 29, 3) := by decide +kernel
theorem dX12_keepsHour_57 : decode cX12_keepsHour 57 = .ok (.aload_n 0, 1) := by decide +kernel
theorem dX12_keepsHour_58 : decode cX12_keepsHour 58 = .ok (.getfield 19, 3) := by decide +kernel
theorem dX12_keepsHour_61 : decode cX12_keepsHour 61 = .ok (.bipush 20, 2) := by decide +kernel
theorem dX12_keepsHour_63 : decode cX12_keepsHour 63 = .ok (.aload_n 0, 1) := by decide +kernel
theorem dX12_keepsHour_64 : decode cX12_keepsHour 64 = .ok (.getfield 161, 3) := by decide +kernel
theorem dX12_keepsHour_67 : decode cX12_keepsHour 67 = .ok (.imul, 1) := by decide +kernel
theorem dX12_keepsHour_68 : decode cX12_keepsHour 68 = .ok (.iload_n 1, 1) := by decide +kernel
theorem dX12_keepsHour_69 : decode cX12_keepsHour 69 = .ok (.iadd, 1) := by decide +kernel
theorem dX12_keepsHour_70 : decode cX12_keepsHour 70 = .ok (.aload_n 0, 1) := by decide +kernel
theorem dX12_keepsHour_71 : decode cX12_keepsHour 71 = .ok (.getfield 16, 3) := by decide +kernel
theorem dX12_keepsHour_74 : decode cX12_keepsHour 74 = .ok (.iload_n 1, 1) := by decide +kernel
theorem dX12_keepsHour_75 : decode cX12_keepsHour 75 = .ok (.iaload, 1) := by decide +kernel
theorem dX12_keepsHour_76 : decode cX12_keepsHour 76 = .ok (.iastore, 1) := by decide +kernel
theorem dX12_keepsHour_77 : decode cX12_keepsHour 77 = .ok (.iinc 1 1, 3) := by decide +kernel
theorem dX12_keepsHour_80 : decode cX12_keepsHour 80 = .ok (.goto (-29), 3) := by decide +kernel
theorem dX12_keepsHour_83 : decode cX12_keepsHour 83 = .ok (.aload_n 0, 1) := by decide +kernel
theorem dX12_keepsHour_84 : decode cX12_keepsHour 84 = .ok (.dup, 1) := by decide +kernel
theorem dX12_keepsHour_85 : decode cX12_keepsHour 85 = .ok (.getfield 161, 3) := by decide +kernel
theorem dX12_keepsHour_88 : decode cX12_keepsHour 88 = .ok (.iconst 1, 1) := by decide +kernel
theorem dX12_keepsHour_89 : decode cX12_keepsHour 89 = .ok (.iadd, 1) := by decide +kernel
theorem dX12_keepsHour_90 : decode cX12_keepsHour 90 = .ok (.putfield 161, 3) := by decide +kernel
theorem dX12_keepsHour_93 : decode cX12_keepsHour 93 = .ok (.return_, 1) := by decide +kernel
theorem dX12_does_0 : decode cX12_does 0 = .ok (.aload_n 0, 1) := by decide +kernel
theorem dX12_does_1 : decode cX12_does 1 = .ok (.invokevirtual 187, 3) := by decide +kernel
theorem dX12_does_4 : decode cX12_does 4 = .ok (.aload_n 0, 1) := by decide +kernel
theorem dX12_does_5 : decode cX12_does 5 = .ok (.invokevirtual 190, 3) := by decide +kernel
theorem dX12_does_8 : decode cX12_does 8 = .ok (.iload_n 1, 1) := by decide +kernel
theorem dX12_does_9 : decode cX12_does 9 = .ok (.ifCond .lt 9, 3) := by decide +kernel
theorem dX12_does_12 : decode cX12_does 12 = .ok (.aload_n 0, 1) := by decide +kernel
theorem dX12_does_13 : decode cX12_does 13 = .ok (.iload_n 1, 1) := by decide +kernel
theorem dX12_does_14 : decode cX12_does 14 = .ok (.iload_n 2, 1) := by decide +kernel
theorem dX12_does_15 : decode cX12_does 15 = .ok (.invokevirtual 193, 3) := by decide +kernel
theorem dX12_does_18 : decode cX12_does 18 = .ok (.aload_n 0, 1) := by decide +kernel
theorem dX12_does_19 : decode cX12_does 19 = .ok (.invokevirtual 197, 3) := by decide +kernel
theorem dX12_does_22 : decode cX12_does 22 = .ok (.iconst 0, 1) := by decide +kernel
theorem dX12_does_23 : decode cX12_does 23 = .ok (.istore_n 3, 1) := by decide +kernel
theorem dX12_does_24 : decode cX12_does 24 = .ok (.iload_n 3, 1) := by decide +kernel
theorem dX12_does_25 : decode cX12_does 25 = .ok (.bipush 20, 2) := by decide +kernel
theorem dX12_does_27 : decode cX12_does 27 = .ok (.if_icmp .ge 21, 3) := by decide +kernel
theorem dX12_does_30 : decode cX12_does 30 = .ok (.aload_n 0, 1) := by decide +kernel
theorem dX12_does_31 : decode cX12_does 31 = .ok (.getfield 16, 3) := by decide +kernel
theorem dX12_does_34 : decode cX12_does 34 = .ok (.iload_n 3, 1) := by decide +kernel
theorem dX12_does_35 : decode cX12_does 35 = .ok (.aload_n 0, 1) := by decide +kernel
theorem dX12_does_36 : decode cX12_does 36 = .ok (.getfield 53, 3) := by decide +kernel
theorem dX12_does_39 : decode cX12_does 39 = .ok (.iload_n 3, 1) := by decide +kernel
theorem dX12_does_40 : decode cX12_does 40 = .ok (.iaload, 1) := by decide +kernel
theorem dX12_does_41 : decode cX12_does 41 = .ok (.iastore, 1) := by decide +kernel
theorem dX12_does_42 : decode cX12_does 42 = .ok (.iinc 3 1, 3) := by decide +kernel
theorem dX12_does_45 : decode cX12_does 45 = .ok (.goto (-21), 3) := by decide +kernel
theorem dX12_does_48 : decode cX12_does 48 = .ok (.return_, 1) := by decide +kernel
theorem dX12_act_0 : decode cX12_act 0 = .ok (.iload_n 1, 1) := by decide +kernel
theorem dX12_act_1 : decode cX12_act 1 = .ok (.invokestatic 174, 3) := by decide +kernel
theorem dX12_act_4 : decode cX12_act 4 = .ok (.ifCond .eq 11, 3) := by decide +kernel
theorem dX12_act_7 : decode cX12_act 7 = .ok (.aload_n 0, 1) := by decide +kernel
theorem dX12_act_8 : decode cX12_act 8 = .ok (.iload_n 2, 1) := by decide +kernel
theorem dX12_act_9 : decode cX12_act 9 = .ok (.invokevirtual 168, 3) := by decide +kernel
theorem dX12_act_12 : decode cX12_act 12 = .ok (.ifCond .ne 6, 3) := by decide +kernel
theorem dX12_act_15 : decode cX12_act 15 = .ok (.ldc 171, 2) := by decide +kernel
theorem dX12_act_17 : decode cX12_act 17 = .ok (.ireturn, 1) := by decide +kernel
theorem dX12_act_18 : decode cX12_act 18 = .ok (.aload_n 0, 1) := by decide +kernel
theorem dX12_act_19 : decode cX12_act 19 = .ok (.getfield 13, 3) := by decide +kernel
theorem dX12_act_22 : decode cX12_act 22 = .ok (.iload_n 1, 1) := by decide +kernel
theorem dX12_act_23 : decode cX12_act 23 = .ok (.iaload, 1) := by decide +kernel
theorem dX12_act_24 : decode cX12_act 24 = .ok (.aload_n 0, 1) := by decide +kernel
theorem dX12_act_25 : decode cX12_act 25 = .ok (.getfield 16, 3) := by decide +kernel
theorem dX12_act_28 : decode cX12_act 28 = .ok (.iconst 1, 1) := by decide +kernel
theorem dX12_act_29 : decode cX12_act 29 = .ok (.iaload, 1) := by decide +kernel
theorem dX12_act_30 : decode cX12_act 30 = .ok (.if_icmp .le 6, 3) := by decide +kernel
theorem dX12_act_33 : decode cX12_act 33 = .ok (.ldc 200, 2) := by decide +kernel
theorem dX12_act_35 : decode cX12_act 35 = .ok (.ireturn, 1) := by decide +kernel
theorem dX12_act_36 : decode cX12_act 36 = .ok (.aload_n 0, 1) := by decide +kernel
theorem dX12_act_37 : decode cX12_act 37 = .ok (.getfield 16, 3) := by decide +kernel
theorem dX12_act_40 : decode cX12_act 40 = .ok (.iconst 2, 1) := by decide +kernel
theorem dX12_act_41 : decode cX12_act 41 = .ok (.iaload, 1) := by decide +kernel
theorem dX12_act_42 : decode cX12_act 42 = .ok (.ldc 201, 2) := by decide +kernel
theorem dX12_act_44 : decode cX12_act 44 = .ok (.if_icmp .le 6, 3) := by decide +kernel
theorem dX12_act_47 : decode cX12_act 47 = .ok (.ldc 94, 2) := by decide +kernel
theorem dX12_act_49 : decode cX12_act 49 = .ok (.ireturn, 1) := by decide +kernel
theorem dX12_act_50 : decode cX12_act 50 = .ok (.aload_n 0, 1) := by decide +kernel
theorem dX12_act_51 : decode cX12_act 51 = .ok (.iload_n 1, 1) := by decide +kernel
theorem dX12_act_52 : decode cX12_act 52 = .ok (.iload_n 2, 1) := by decide +kernel
theorem dX12_act_53 : decode cX12_act 53 = .ok (.invokevirtual 202, 3) := by decide +kernel
theorem dX12_act_56 : decode cX12_act 56 = .ok (.aload_n 0, 1) := by decide +kernel
theorem dX12_act_57 : decode cX12_act 57 = .ok (.getfield 16, 3) := by decide +kernel
theorem dX12_act_60 : decode cX12_act 60 = .ok (.iconst 0, 1) := by decide +kernel
theorem dX12_act_61 : decode cX12_act 61 = .ok (.iaload, 1) := by decide +kernel
theorem dX12_act_62 : decode cX12_act 62 = .ok (.ireturn, 1) := by decide +kernel
theorem dX12_sit_0 : decode cX12_sit 0 = .ok (.iload_n 1, 1) := by decide +kernel
theorem dX12_sit_1 : decode cX12_sit 1 = .ok (.i2l, 1) := by decide +kernel
theorem dX12_sit_2 : decode cX12_sit 2 = .ok (.lconst 1, 1) := by decide +kernel
theorem dX12_sit_3 : decode cX12_sit 3 = .ok (.ldc2_w 205, 3) := by decide +kernel
theorem dX12_sit_6 : decode cX12_sit 6 = .ok (.invokestatic 86, 3) := by decide +kernel
theorem dX12_sit_9 : decode cX12_sit 9 = .ok (.ifCond .ne 6, 3) := by decide +kernel
theorem dX12_sit_12 : decode cX12_sit 12 = .ok (.ldc 90, 2) := by decide +kernel
theorem dX12_sit_14 : decode cX12_sit 14 = .ok (.ireturn, 1) := by decide +kernel
theorem dX12_sit_15 : decode cX12_sit 15 = .ok (.aload_n 0, 1) := by decide +kernel
theorem dX12_sit_16 : decode cX12_sit 16 = .ok (.getfield 152, 3) := by decide +kernel
theorem dX12_sit_19 : decode cX12_sit 19 = .ok (.ifCond .ne 6, 3) := by decide +kernel
theorem dX12_sit_22 : decode cX12_sit 22 = .ok (.ldc 200, 2) := by decide +kernel
theorem dX12_sit_24 : decode cX12_sit 24 = .ok (.ireturn, 1) := by decide +kernel
theorem dX12_sit_25 : decode cX12_sit 25 = .ok (.aload_n 0, 1) := by decide +kernel
theorem dX12_sit_26 : decode cX12_sit 26 = .ok (.getfield 16, 3) := by decide +kernel
theorem dX12_sit_29 : decode cX12_sit 29 = .ok (.iconst 2, 1) := by decide +kernel
theorem dX12_sit_30 : decode cX12_sit 30 = .ok (.iaload, 1) := by decide +kernel
theorem dX12_sit_31 : decode cX12_sit 31 = .ok (.ldc 201, 2) := by decide +kernel
theorem dX12_sit_33 : decode cX12_sit 33 = .ok (.if_icmp .le 6, 3) := by decide +kernel
theorem dX12_sit_36 : decode cX12_sit 36 = .ok (.ldc 94, 2) := by decide +kernel
theorem dX12_sit_38 : decode cX12_sit 38 = .ok (.ireturn, 1) := by decide +kernel
theorem dX12_sit_39 : decode cX12_sit 39 = .ok (.iconst 0, 1) := by decide +kernel
theorem dX12_sit_40 : decode cX12_sit 40 = .ok (.istore_n 2, 1) := by decide +kernel
theorem dX12_sit_41 : decode cX12_sit 41 = .ok (.iload_n 2, 1) := by decide +kernel
theorem dX12_sit_42 : decode cX12_sit 42 = .ok (.iload_n 1, 1) := by decide +kernel
theorem dX12_sit_43 : decode cX12_sit 43 = .ok (.if_icmp .ge 15, 3) := by decide +kernel
theorem dX12_sit_46 : decode cX12_sit 46 = .ok (.aload_n 0, 1) := by decide +kernel
theorem dX12_sit_47 : decode cX12_sit 47 = .ok (.iconst (-1), 1) := by decide +kernel
theorem dX12_sit_48 : decode cX12_sit 48 = .ok (.iconst 0, 1) := by decide +kernel
theorem dX12_sit_49 : decode cX12_sit 49 = .ok (.invokevirtual 202, 3) := by decide +kernel
theorem dX12_sit_52 : decode cX12_sit 52 = .ok (.iinc 2 1, 3) := by decide +kernel
theorem dX12_sit_55 : decode cX12_sit 55 = .ok (.goto (-14), 3) := by decide +kernel
theorem dX12_sit_58 : decode cX12_sit 58 = .ok (.aload_n 0, 1) := by decide +kernel
theorem dX12_sit_59 : decode cX12_sit 59 = .ok (.getfield 16, 3) := by decide +kernel
theorem dX12_sit_62 : decode cX12_sit 62 = .ok (.iconst 0, 1) := by decide +kernel
theorem dX12_sit_63 : decode cX12_sit 63 = .ok (.iaload, 1) := by decide +kernel
theorem dX12_sit_64 : decode cX12_sit 64 = .ok (.ireturn, 1) := by decide +kernel
theorem dX12_draws_0 : decode cX12_draws 0 = .ok (.aload_n 0, 1) := by decide +kernel
theorem dX12_draws_1 : decode cX12_draws 1 = .ok (.getfield 16, 3) := by decide +kernel
theorem dX12_draws_4 : decode cX12_draws 4 = .ok (.iconst 3, 1) := by decide +kernel
theorem dX12_draws_5 : decode cX12_draws 5 = .ok (.aload_n 0, 1) := by decide +kernel
theorem dX12_draws_6 : decode cX12_draws 6 = .ok (.getfield 16, 3) := by decide +kernel
theorem dX12_draws_9 : decode cX12_draws 9 = .ok (.iconst 3, 1) := by decide +kernel
theorem dX12_draws_10 : decode cX12_draws 10 = .ok (.iaload, 1) := by decide +kernel
theorem dX12_draws_11 : decode cX12_draws 11 = .ok (.i2l, 1) := by decide +kernel
theorem dX12_draws_12 : decode cX12_draws 12 = .ok (.ldc2_w 207, 3) := by decide +kernel
theorem dX12_draws_15 : decode cX12_draws 15 = .ok (.lmul, 1) := by decide +kernel
theorem dX12_draws_16 : decode cX12_draws 16 = .ok (.ldc2_w 209, 3) := by decide +kernel
theorem dX12_draws_19 : decode cX12_draws 19 = .ok (.ladd, 1) := by decide +kernel
theorem dX12_draws_20 : decode cX12_draws 20 = .ok (.ldc2_w 211, 3) := by decide +kernel
theorem dX12_draws_23 : decode cX12_draws 23 = .ok (.lrem, 1) := by decide +kernel
theorem dX12_draws_24 : decode cX12_draws 24 = .ok (.l2i, 1) := by decide +kernel
theorem dX12_draws_25 : decode cX12_draws 25 = .ok (.iastore, 1) := by decide +kernel
theorem dX12_draws_26 : decode cX12_draws 26 = .ok (.aload_n 0, 1) := by decide +kernel
theorem dX12_draws_27 : decode cX12_draws 27 = .ok (.getfield 16, 3) := by decide +kernel
theorem dX12_draws_30 : decode cX12_draws 30 = .ok (.iconst 3, 1) := by decide +kernel
theorem dX12_draws_31 : decode cX12_draws 31 = .ok (.iaload, 1) := by decide +kernel
theorem dX12_draws_32 : decode cX12_draws 32 = .ok (.ldc 213, 2) := by decide +kernel
theorem dX12_draws_34 : decode cX12_draws 34 = .ok (.idiv, 1) := by decide +kernel
theorem dX12_draws_35 : decode cX12_draws 35 = .ok (.iload_n 1, 1) := by decide +kernel
theorem dX12_draws_36 : decode cX12_draws 36 = .ok (.irem, 1) := by decide +kernel
theorem dX12_draws_37 : decode cX12_draws 37 = .ok (.ireturn, 1) := by decide +kernel
theorem dX12_drift_0 : decode cX12_drift 0 = .ok (.iload_n 1, 1) := by decide +kernel
theorem dX12_drift_1 : decode cX12_drift 1 = .ok (.i2l, 1) := by decide +kernel
theorem dX12_drift_2 : decode cX12_drift 2 = .ok (.lconst 1, 1) := by decide +kernel
theorem dX12_drift_3 : decode cX12_drift 3 = .ok (.ldc2_w 205, 3) := by decide +kernel
theorem dX12_drift_6 : decode cX12_drift 6 = .ok (.invokestatic 86, 3) := by decide +kernel
theorem dX12_drift_9 : decode cX12_drift 9 = .ok (.ifCond .ne 6, 3) := by decide +kernel
theorem dX12_drift_12 : decode cX12_drift 12 = .ok (.ldc 90, 2) := by decide +kernel
theorem dX12_drift_14 : decode cX12_drift 14 = .ok (.ireturn, 1) := by decide +kernel
theorem dX12_drift_15 : decode cX12_drift 15 = .ok (.aload_n 0, 1) := by decide +kernel
theorem dX12_drift_16 : decode cX12_drift 16 = .ok (.getfield 152, 3) := by decide +kernel
theorem dX12_drift_19 : decode cX12_drift 19 = .ok (.ifCond .ne 6, 3) := by decide +kernel
theorem dX12_drift_22 : decode cX12_drift 22 = .ok (.ldc 200, 2) := by decide +kernel
theorem dX12_drift_24 : decode cX12_drift 24 = .ok (.ireturn, 1) := by decide +kernel
theorem dX12_drift_25 : decode cX12_drift 25 = .ok (.aload_n 0, 1) := by decide +kernel
theorem dX12_drift_26 : decode cX12_drift 26 = .ok (.getfield 16, 3) := by decide +kernel
theorem dX12_drift_29 : decode cX12_drift 29 = .ok (.iconst 2, 1) := by decide +kernel
theorem dX12_drift_30 : decode cX12_drift 30 = .ok (.iaload, 1) := by decide +kernel
theorem dX12_drift_31 : decode cX12_drift 31 = .ok (.ldc 201, 2) := by decide +kernel
theorem dX12_drift_33 : decode cX12_drift 33 = .ok (.if_icmp .le 6, 3) := by decide +kernel
theorem dX12_drift_36 : decode cX12_drift 36 = .ok (.ldc 94, 2) := by decide +kernel
theorem dX12_drift_38 : decode cX12_drift 38 = .ok (.ireturn, 1) := by decide +kernel
theorem dX12_drift_39 : decode cX12_drift 39 = .ok (.iconst 0, 1) := by decide +kernel
theorem dX12_drift_40 : decode cX12_drift 40 = .ok (.istore_n 2, 1) := by decide +kernel
theorem dX12_drift_41 : decode cX12_drift 41 = .ok (.iload_n 2, 1) := by decide +kernel
theorem dX12_drift_42 : decode cX12_drift 42 = .ok (.iload_n 1, 1) := by decide +kernel
theorem dX12_drift_43 : decode cX12_drift 43 = .ok (.if_icmp .ge 68, 3) := by decide +kernel
theorem dX12_drift_46 : decode cX12_drift 46 = .ok (.aload_n 0, 1) := by decide +kernel
theorem dX12_drift_47 : decode cX12_drift 47 = .ok (.bipush 8, 2) := by decide +kernel
theorem dX12_drift_49 : decode cX12_drift 49 = .ok (.invokevirtual 214, 3) := by decide +kernel
theorem dX12_drift_52 : decode cX12_drift 52 = .ok (.istore_n 3, 1) := by decide +kernel
theorem dX12_drift_53 : decode cX12_drift 53 = .ok (.iload_n 3, 1) := by decide +kernel
theorem dX12_drift_54 : decode cX12_drift 54 = .ok (.bipush 6, 2) := by decide +kernel
theorem dX12_drift_56 : decode cX12_drift 56 = .ok (.if_icmp .ge 14, 3) := by decide +kernel
theorem dX12_drift_59 : decode cX12_drift 59 = .ok (.aload_n 0, 1) := by decide +kernel
theorem dX12_drift_60 : decode cX12_drift 60 = .ok (.aload_n 0, 1) := by decide +kernel
theorem dX12_drift_61 : decode cX12_drift 61 = .ok (.getfield 152, 3) := by decide +kernel
theorem dX12_drift_64 : decode cX12_drift 64 = .ok (.invokevirtual 214, 3) := by decide +kernel
theorem dX12_drift_67 : decode cX12_drift 67 = .ok (.goto 4, 3) := by decide +kernel
theorem dX12_drift_70 : decode cX12_drift 70 = .ok (.iconst 0, 1) := by decide +kernel
theorem dX12_drift_71 : decode cX12_drift 71 = .ok (.istore 4, 2) := by decide +kernel
theorem dX12_drift_73 : decode cX12_drift 73 = .ok (.aload_n 0, 1) := by decide +kernel
theorem dX12_drift_74 : decode cX12_drift 74 = .ok (.iload_n 3, 1) := by decide +kernel
theorem dX12_drift_75 : decode cX12_drift 75 = .ok (.bipush 6, 2) := by decide +kernel
theorem dX12_drift_77 : decode cX12_drift 77 = .ok (.if_icmp .ge 22, 3) := by decide +kernel
theorem dX12_drift_80 : decode cX12_drift 80 = .ok (.aload_n 0, 1) := by decide +kernel
theorem dX12_drift_81 : decode cX12_drift 81 = .ok (.getfield 13, 3) := by decide +kernel
theorem dX12_drift_84 : decode cX12_drift 84 = .ok (.iload_n 3, 1) := by decide +kernel
theorem dX12_drift_85 : decode cX12_drift 85 = .ok (.iaload, 1) := by decide +kernel
theorem dX12_drift_86 : decode cX12_drift 86 = .ok (.aload_n 0, 1) := by decide +kernel
theorem dX12_drift_87 : decode cX12_drift 87 = .ok (.getfield 16, 3) := by decide +kernel
theorem dX12_drift_90 : decode cX12_drift 90 = .ok (.iconst 1, 1) := by decide +kernel
theorem dX12_drift_91 : decode cX12_drift 91 = .ok (.iaload, 1) := by decide +kernel
theorem dX12_drift_92 : decode cX12_drift 92 = .ok (.if_icmp .gt 7, 3) := by decide +kernel
theorem dX12_drift_95 : decode cX12_drift 95 = .ok (.iload_n 3, 1) := by decide +kernel
theorem dX12_drift_96 : decode cX12_drift 96 = .ok (.goto 4, 3) := by decide +kernel
theorem dX12_drift_99 : decode cX12_drift 99 = .ok (.iconst (-1), 1) := by decide +kernel
theorem dX12_drift_100 : decode cX12_drift 100 = .ok (.iload 4, 2) := by decide +kernel
theorem dX12_drift_102 : decode cX12_drift 102 = .ok (.invokevirtual 202, 3) := by decide +kernel
theorem dX12_drift_105 : decode cX12_drift 105 = .ok (.iinc 2 1, 3) := by decide +kernel
theorem dX12_drift_108 : decode cX12_drift 108 = .ok (.goto (-67), 3) := by decide +kernel
theorem dX12_drift_111 : decode cX12_drift 111 = .ok (.aload_n 0, 1) := by decide +kernel
theorem dX12_drift_112 : decode cX12_drift 112 = .ok (.getfield 16, 3) := by decide +kernel
theorem dX12_drift_115 : decode cX12_drift 115 = .ok (.iconst 0, 1) := by decide +kernel
theorem dX12_drift_116 : decode cX12_drift 116 = .ok (.iaload, 1) := by decide +kernel
theorem dX12_drift_117 : decode cX12_drift 117 = .ok (.ireturn, 1) := by decide +kernel
theorem dX12_stack_0 : decode cX12_stack 0 = .ok (.iload_n 1, 1) := by decide +kernel
theorem dX12_stack_1 : decode cX12_stack 1 = .ok (.i2l, 1) := by decide +kernel
theorem dX12_stack_2 : decode cX12_stack 2 = .ok (.lconst 0, 1) := by decide +kernel
theorem dX12_stack_3 : decode cX12_stack 3 = .ok (.ldc2_w 218, 3) := by decide +kernel
theorem dX12_stack_6 : decode cX12_stack 6 = .ok (.invokestatic 86, 3) := by decide +kernel
theorem dX12_stack_9 : decode cX12_stack 9 = .ok (.ifCond .ne 6, 3) := by decide +kernel
theorem dX12_stack_12 : decode cX12_stack 12 = .ok (.ldc 90, 2) := by decide +kernel
theorem dX12_stack_14 : decode cX12_stack 14 = .ok (.ireturn, 1) := by decide +kernel
theorem dX12_stack_15 : decode cX12_stack 15 = .ok (.aload_n 0, 1) := by decide +kernel
theorem dX12_stack_16 : decode cX12_stack 16 = .ok (.getfield 16, 3) := by decide +kernel
theorem dX12_stack_19 : decode cX12_stack 19 = .ok (.iconst 1, 1) := by decide +kernel
theorem dX12_stack_20 : decode cX12_stack 20 = .ok (.sipush 9999, 3) := by decide +kernel
theorem dX12_stack_23 : decode cX12_stack 23 = .ok (.aload_n 0, 1) := by decide +kernel
theorem dX12_stack_24 : decode cX12_stack 24 = .ok (.getfield 16, 3) := by decide +kernel
theorem dX12_stack_27 : decode cX12_stack 27 = .ok (.iconst 1, 1) := by decide +kernel
theorem dX12_stack_28 : decode cX12_stack 28 = .ok (.iaload, 1) := by decide +kernel
theorem dX12_stack_29 : decode cX12_stack 29 = .ok (.iload_n 1, 1) := by decide +kernel
theorem dX12_stack_30 : decode cX12_stack 30 = .ok (.iadd, 1) := by decide +kernel
theorem dX12_stack_31 : decode cX12_stack 31 = .ok (.invokestatic 181, 3) := by decide +kernel
theorem dX12_stack_34 : decode cX12_stack 34 = .ok (.iastore, 1) := by decide +kernel
theorem dX12_stack_35 : decode cX12_stack 35 = .ok (.aload_n 0, 1) := by decide +kernel
theorem dX12_stack_36 : decode cX12_stack 36 = .ok (.getfield 16, 3) := by decide +kernel
theorem dX12_stack_39 : decode cX12_stack 39 = .ok (.iconst 1, 1) := by decide +kernel
theorem dX12_stack_40 : decode cX12_stack 40 = .ok (.iaload, 1) := by decide +kernel
theorem dX12_stack_41 : decode cX12_stack 41 = .ok (.ireturn, 1) := by decide +kernel
theorem dX12_law_0 : decode cX12_law 0 = .ok (.iload_n 1, 1) := by decide +kernel
theorem dX12_law_1 : decode cX12_law 1 = .ok (.invokestatic 174, 3) := by decide +kernel
theorem dX12_law_4 : decode cX12_law 4 = .ok (.ifCond .eq 15, 3) := by decide +kernel
theorem dX12_law_7 : decode cX12_law 7 = .ok (.iload_n 2, 1) := by decide +kernel
theorem dX12_law_8 : decode cX12_law 8 = .ok (.i2l, 1) := by decide +kernel
theorem dX12_law_9 : decode cX12_law 9 = .ok (.lconst 0, 1) := by decide +kernel
theorem dX12_law_10 : decode cX12_law 10 = .ok (.ldc2_w 220, 3) := by decide +kernel
theorem dX12_law_13 : decode cX12_law 13 = .ok (.invokestatic 86, 3) := by decide +kernel
theorem dX12_law_16 : decode cX12_law 16 = .ok (.ifCond .ne 6, 3) := by decide +kernel
theorem dX12_law_19 : decode cX12_law 19 = .ok (.ldc 171, 2) := by decide +kernel
theorem dX12_law_21 : decode cX12_law 21 = .ok (.ireturn, 1) := by decide +kernel
theorem dX12_law_22 : decode cX12_law 22 = .ok (.aload_n 0, 1) := by decide +kernel
theorem dX12_law_23 : decode cX12_law 23 = .ok (.getfield 16, 3) := by decide +kernel
theorem dX12_law_26 : decode cX12_law 26 = .ok (.bipush 14, 2) := by decide +kernel
theorem dX12_law_28 : decode cX12_law 28 = .ok (.iload_n 1, 1) := by decide +kernel
theorem dX12_law_29 : decode cX12_law 29 = .ok (.iadd, 1) := by decide +kernel
theorem dX12_law_30 : decode cX12_law 30 = .ok (.iaload, 1) := by decide +kernel
theorem dX12_law_31 : decode cX12_law 31 = .ok (.istore_n 3, 1) := by decide +kernel
theorem dX12_law_32 : decode cX12_law 32 = .ok (.aload_n 0, 1) := by decide +kernel
theorem dX12_law_33 : decode cX12_law 33 = .ok (.getfield 16, 3) := by decide +kernel
theorem dX12_law_36 : decode cX12_law 36 = .ok (.bipush 14, 2) := by decide +kernel
theorem dX12_law_38 : decode cX12_law 38 = .ok (.iload_n 1, 1) := by decide +kernel
theorem dX12_law_39 : decode cX12_law 39 = .ok (.iadd, 1) := by decide +kernel
theorem dX12_law_40 : decode cX12_law 40 = .ok (.iload_n 2, 1) := by decide +kernel
theorem dX12_law_41 : decode cX12_law 41 = .ok (.iastore, 1) := by decide +kernel
theorem dX12_law_42 : decode cX12_law 42 = .ok (.iload_n 3, 1) := by decide +kernel
theorem dX12_law_43 : decode cX12_law 43 = .ok (.ireturn, 1) := by decide +kernel
theorem dX12_undo_0 : decode cX12_undo 0 = .ok (.iload_n 1, 1) := by decide +kernel
theorem dX12_undo_1 : decode cX12_undo 1 = .ok (.i2l, 1) := by decide +kernel
theorem dX12_undo_2 : decode cX12_undo 2 = .ok (.lconst 1, 1) := by decide +kernel
theorem dX12_undo_3 : decode cX12_undo 3 = .ok (.ldc2_w 222, 3) := by decide +kernel
theorem dX12_undo_6 : decode cX12_undo 6 = .ok (.invokestatic 86, 3) := by decide +kernel
theorem dX12_undo_9 : decode cX12_undo 9 = .ok (.ifCond .ne 6, 3) := by decide +kernel
theorem dX12_undo_12 : decode cX12_undo 12 = .ok (.ldc 90, 2) := by decide +kernel
theorem dX12_undo_14 : decode cX12_undo 14 = .ok (.ireturn, 1) := by decide +kernel
theorem dX12_undo_15 : decode cX12_undo 15 = .ok (.iload_n 1, 1) := by decide +kernel
theorem dX12_undo_16 : decode cX12_undo 16 = .ok (.aload_n 0, 1) := by decide +kernel
theorem dX12_undo_17 : decode cX12_undo 17 = .ok (.getfield 161, 3) := by decide +kernel
theorem dX12_undo_20 : decode cX12_undo 20 = .ok (.if_icmp .le 6, 3) := by decide +kernel
theorem dX12_undo_23 : decode cX12_undo 23 = .ok (.ldc 200, 2) := by decide +kernel
theorem dX12_undo_25 : decode cX12_undo 25 = .ok (.ireturn, 1) := by decide +kernel
theorem dX12_undo_26 : decode cX12_undo 26 = .ok (.aload_n 0, 1) := by decide +kernel
theorem dX12_undo_27 : decode cX12_undo 27 = .ok (.dup, 1) := by decide +kernel
theorem dX12_undo_28 : decode cX12_undo 28 = .ok (.getfield 161, 3) := by decide +kernel
theorem dX12_undo_31 : decode cX12_undo 31 = .ok (.iload_n 1, 1) := by decide +kernel
theorem dX12_undo_32 : decode cX12_undo 32 = .ok (.isub, 1) := by decide +kernel
theorem dX12_undo_33 : decode cX12_undo 33 = .ok (.putfield 161, 3) := by decide +kernel
theorem dX12_undo_36 : decode cX12_undo 36 = .ok (.iconst 0, 1) := by decide +kernel
theorem dX12_undo_37 : decode cX12_undo 37 = .ok (.istore_n 2, 1) := by decide +kernel
theorem dX12_undo_38 : decode cX12_undo 38 = .ok (.iload_n 2, 1) := by decide +kernel
theorem dX12_undo_39 : decode cX12_undo 39 = .ok (.bipush 20, 2) := by decide +kernel
theorem dX12_undo_41 : decode cX12_undo 41 = .ok (.if_icmp .ge 43, 3) := by decide +kernel
theorem dX12_undo_44 : decode cX12_undo 44 = .ok (.aload_n 0, 1) := by decide +kernel
theorem dX12_undo_45 : decode cX12_undo 45 = .ok (.getfield 16, 3) := by decide +kernel
theorem dX12_undo_48 : decode cX12_undo 48 = .ok (.iload_n 2, 1) := by decide +kernel
theorem dX12_undo_49 : decode cX12_undo 49 = .ok (.iload_n 2, 1) := by decide +kernel
theorem dX12_undo_50 : decode cX12_undo 50 = .ok (.iconst 3, 1) := by decide +kernel
theorem dX12_undo_51 : decode cX12_undo 51 = .ok (.if_icmp .ne 12, 3) := by decide +kernel
theorem dX12_undo_54 : decode cX12_undo 54 = .ok (.aload_n 0, 1) := by decide +kernel
theorem dX12_undo_55 : decode cX12_undo 55 = .ok (.getfield 16, 3) := by decide +kernel
theorem dX12_undo_58 : decode cX12_undo 58 = .ok (.iload_n 2, 1) := by decide +kernel
theorem dX12_undo_59 : decode cX12_undo 59 = .ok (.iaload, 1) := by decide +kernel
theorem dX12_undo_60 : decode cX12_undo 60 = .ok (.goto 17, 3) := by decide +kernel
theorem dX12_undo_63 : decode cX12_undo 63 = .ok (.aload_n 0, 1) := by decide +kernel
theorem dX12_undo_64 : decode cX12_undo 64 = .ok (.getfield 19, 3) := by decide +kernel
theorem dX12_undo_67 : decode cX12_undo 67 = .ok (.bipush 20, 2) := by decide +kernel
theorem dX12_undo_69 : decode cX12_undo 69 = .ok (.aload_n 0, 1) := by decide +kernel
theorem dX12_undo_70 : decode cX12_undo 70 = .ok (.getfield 161, 3) := by decide +kernel
theorem dX12_undo_73 : decode cX12_undo 73 = .ok (.imul, 1) := by decide +kernel
theorem dX12_undo_74 : decode cX12_undo 74 = .ok (.iload_n 2, 1) := by decide +kernel
theorem dX12_undo_75 : decode cX12_undo 75 = .ok (.iadd, 1) := by decide +kernel
theorem dX12_undo_76 : decode cX12_undo 76 = .ok (.iaload, 1) := by decide +kernel
theorem dX12_undo_77 : decode cX12_undo 77 = .ok (.iastore, 1) := by decide +kernel
theorem dX12_undo_78 : decode cX12_undo 78 = .ok (.iinc 2 1, 3) := by decide +kernel
theorem dX12_undo_81 : decode cX12_undo 81 = .ok (.goto (-43), 3) := by decide +kernel
theorem dX12_undo_84 : decode cX12_undo 84 = .ok (.aload_n 0, 1) := by decide +kernel
theorem dX12_undo_85 : decode cX12_undo 85 = .ok (.getfield 16, 3) := by decide +kernel
theorem dX12_undo_88 : decode cX12_undo 88 = .ok (.iconst 2, 1) := by decide +kernel
theorem dX12_undo_89 : decode cX12_undo 89 = .ok (.iaload, 1) := by decide +kernel
theorem dX12_undo_90 : decode cX12_undo 90 = .ok (.ireturn, 1) := by decide +kernel
theorem dX12_frozenOne_0 : decode cX12_frozenOne 0 = .ok (.iconst 0, 1) := by decide +kernel
theorem dX12_frozenOne_1 : decode cX12_frozenOne 1 = .ok (.istore_n 1, 1) := by decide +kernel
theorem dX12_frozenOne_2 : decode cX12_frozenOne 2 = .ok (.iload_n 1, 1) := by decide +kernel
theorem dX12_frozenOne_3 : decode cX12_frozenOne 3 = .ok (.aload_n 0, 1) := by decide +kernel
theorem dX12_frozenOne_4 : decode cX12_frozenOne 4 = .ok (.getfield 152, 3) := by decide +kernel
theorem dX12_frozenOne_7 : decode cX12_frozenOne 7 = .ok (.if_icmp .ge 22, 3) := by decide +kernel
theorem dX12_frozenOne_10 : decode cX12_frozenOne 10 = .ok (.aload_n 0, 1) := by decide +kernel
theorem dX12_frozenOne_11 : decode cX12_frozenOne 11 = .ok (.getfield 53, 3) := by decide +kernel
theorem dX12_frozenOne_14 : decode cX12_frozenOne 14 = .ok (.iconst 4, 1) := by decide +kernel
theorem dX12_frozenOne_15 : decode cX12_frozenOne 15 = .ok (.iload_n 1, 1) := by decide +kernel
theorem dX12_frozenOne_16 : decode cX12_frozenOne 16 = .ok (.iadd, 1) := by decide +kernel
theorem dX12_frozenOne_17 : decode cX12_frozenOne 17 = .ok (.iaload, 1) := by decide +kernel
theorem dX12_frozenOne_18 : decode cX12_frozenOne 18 = .ok (.ifCond .ne 5, 3) := by decide +kernel
theorem dX12_frozenOne_21 : decode cX12_frozenOne 21 = .ok (.iload_n 1, 1) := by decide +kernel
theorem dX12_frozenOne_22 : decode cX12_frozenOne 22 = .ok (.ireturn, 1) := by decide +kernel
theorem dX12_frozenOne_23 : decode cX12_frozenOne 23 = .ok (.iinc 1 1, 3) := by decide +kernel
theorem dX12_frozenOne_26 : decode cX12_frozenOne 26 = .ok (.goto (-24), 3) := by decide +kernel
theorem dX12_frozenOne_29 : decode cX12_frozenOne 29 = .ok (.iconst (-1), 1) := by decide +kernel
theorem dX12_frozenOne_30 : decode cX12_frozenOne 30 = .ok (.ireturn, 1) := by decide +kernel
theorem dX12_freezes_0 : decode cX12_freezes 0 = .ok (.iload_n 1, 1) := by decide +kernel
theorem dX12_freezes_1 : decode cX12_freezes 1 = .ok (.i2l, 1) := by decide +kernel
theorem dX12_freezes_2 : decode cX12_freezes 2 = .ok (.lconst 0, 1) := by decide +kernel
theorem dX12_freezes_3 : decode cX12_freezes 3 = .ok (.lconst 1, 1) := by decide +kernel
theorem dX12_freezes_4 : decode cX12_freezes 4 = .ok (.invokestatic 86, 3) := by decide +kernel
theorem dX12_freezes_7 : decode cX12_freezes 7 = .ok (.ifCond .ne 6, 3) := by decide +kernel
theorem dX12_freezes_10 : decode cX12_freezes 10 = .ok (.ldc 90, 2) := by decide +kernel
theorem dX12_freezes_12 : decode cX12_freezes 12 = .ok (.ireturn, 1) := by decide +kernel
theorem dX12_freezes_13 : decode cX12_freezes 13 = .ok (.aload_n 0, 1) := by decide +kernel
theorem dX12_freezes_14 : decode cX12_freezes 14 = .ok (.invokevirtual 190, 3) := by decide +kernel
theorem dX12_freezes_17 : decode cX12_freezes 17 = .ok (.iconst 0, 1) := by decide +kernel
theorem dX12_freezes_18 : decode cX12_freezes 18 = .ok (.istore_n 2, 1) := by decide +kernel
theorem dX12_freezes_19 : decode cX12_freezes 19 = .ok (.iload_n 2, 1) := by decide +kernel
theorem dX12_freezes_20 : decode cX12_freezes 20 = .ok (.bipush 100, 2) := by decide +kernel
theorem dX12_freezes_22 : decode cX12_freezes 22 = .ok (.if_icmp .ge 40, 3) := by decide +kernel
theorem dX12_freezes_25 : decode cX12_freezes 25 = .ok (.aload_n 0, 1) := by decide +kernel
theorem dX12_freezes_26 : decode cX12_freezes 26 = .ok (.getfield 152, 3) := by decide +kernel
theorem dX12_freezes_29 : decode cX12_freezes 29 = .ok (.ifCond .le 33, 3) := by decide +kernel
theorem dX12_freezes_32 : decode cX12_freezes 32 = .ok (.aload_n 0, 1) := by decide +kernel
theorem dX12_freezes_33 : decode cX12_freezes 33 = .ok (.invokevirtual 224, 3) := by decide +kernel
theorem dX12_freezes_36 : decode cX12_freezes 36 = .ok (.istore_n 3, 1) := by decide +kernel
theorem dX12_freezes_37 : decode cX12_freezes 37 = .ok (.iload_n 3, 1) := by decide +kernel
theorem dX12_freezes_38 : decode cX12_freezes 38 = .ok (.iconst (-1), 1) := by decide +kernel
theorem dX12_freezes_39 : decode cX12_freezes 39 = .ok (.if_icmp .eq 13, 3) := by decide +kernel
theorem dX12_freezes_42 : decode cX12_freezes 42 = .ok (.iload_n 1, 1) := by decide +kernel
theorem dX12_freezes_43 : decode cX12_freezes 43 = .ok (.ifCond .ne 7, 3) := by decide +kernel
theorem dX12_freezes_46 : decode cX12_freezes 46 = .ok (.iload_n 2, 1) := by decide +kernel
theorem dX12_freezes_47 : decode cX12_freezes 47 = .ok (.goto 4, 3) := by decide +kernel
theorem dX12_freezes_50 : decode cX12_freezes 50 = .ok (.iload_n 3, 1) := by decide +kernel
theorem dX12_freezes_51 : decode cX12_freezes 51 = .ok (.ireturn, 1) := by decide +kernel
theorem dX12_freezes_52 : decode cX12_freezes 52 = .ok (.aload_n 0, 1) := by decide +kernel
theorem dX12_freezes_53 : decode cX12_freezes 53 = .ok (.invokevirtual 197, 3) := by decide +kernel
theorem dX12_freezes_56 : decode cX12_freezes 56 = .ok (.iinc 2 1, 3) := by decide +kernel
theorem dX12_freezes_59 : decode cX12_freezes 59 = .ok (.goto (-40), 3) := by decide +kernel
theorem dX12_freezes_62 : decode cX12_freezes 62 = .ok (.iconst (-1), 1) := by decide +kernel
theorem dX12_freezes_63 : decode cX12_freezes 63 = .ok (.ireturn, 1) := by decide +kernel
theorem dX12_lies_0 : decode cX12_lies 0 = .ok (.iconst 0, 1) := by decide +kernel
theorem dX12_lies_1 : decode cX12_lies 1 = .ok (.istore_n 2, 1) := by decide +kernel
theorem dX12_lies_2 : decode cX12_lies 2 = .ok (.iload_n 2, 1) := by decide +kernel
theorem dX12_lies_3 : decode cX12_lies 3 = .ok (.bipush 20, 2) := by decide +kernel
theorem dX12_lies_5 : decode cX12_lies 5 = .ok (.if_icmp .ge 26, 3) := by decide +kernel
theorem dX12_lies_8 : decode cX12_lies 8 = .ok (.aload_n 0, 1) := by decide +kernel
theorem dX12_lies_9 : decode cX12_lies 9 = .ok (.getfield 56, 3) := by decide +kernel
theorem dX12_lies_12 : decode cX12_lies 12 = .ok (.bipush 20, 2) := by decide +kernel
theorem dX12_lies_14 : decode cX12_lies 14 = .ok (.iload_n 1, 1) := by decide +kernel
theorem dX12_lies_15 : decode cX12_lies 15 = .ok (.imul, 1) := by decide +kernel
theorem dX12_lies_16 : decode cX12_lies 16 = .ok (.iload_n 2, 1) := by decide +kernel
theorem dX12_lies_17 : decode cX12_lies 17 = .ok (.iadd, 1) := by decide +kernel
theorem dX12_lies_18 : decode cX12_lies 18 = .ok (.aload_n 0, 1) := by decide +kernel
theorem dX12_lies_19 : decode cX12_lies 19 = .ok (.getfield 53, 3) := by decide +kernel
theorem dX12_lies_22 : decode cX12_lies 22 = .ok (.iload_n 2, 1) := by decide +kernel
theorem dX12_lies_23 : decode cX12_lies 23 = .ok (.iaload, 1) := by decide +kernel
theorem dX12_lies_24 : decode cX12_lies 24 = .ok (.iastore, 1) := by decide +kernel
theorem dX12_lies_25 : decode cX12_lies 25 = .ok (.iinc 2 1, 3) := by decide +kernel
theorem dX12_lies_28 : decode cX12_lies 28 = .ok (.goto (-26), 3) := by decide +kernel
theorem dX12_lies_31 : decode cX12_lies 31 = .ok (.return_, 1) := by decide +kernel
theorem dX12_stands_0 : decode cX12_stands 0 = .ok (.iconst 0, 1) := by decide +kernel
theorem dX12_stands_1 : decode cX12_stands 1 = .ok (.istore_n 2, 1) := by decide +kernel
theorem dX12_stands_2 : decode cX12_stands 2 = .ok (.iload_n 2, 1) := by decide +kernel
theorem dX12_stands_3 : decode cX12_stands 3 = .ok (.bipush 20, 2) := by decide +kernel
theorem dX12_stands_5 : decode cX12_stands 5 = .ok (.if_icmp .ge 26, 3) := by decide +kernel
theorem dX12_stands_8 : decode cX12_stands 8 = .ok (.aload_n 0, 1) := by decide +kernel
theorem dX12_stands_9 : decode cX12_stands 9 = .ok (.getfield 53, 3) := by decide +kernel
theorem dX12_stands_12 : decode cX12_stands 12 = .ok (.iload_n 2, 1) := by decide +kernel
theorem dX12_stands_13 : decode cX12_stands 13 = .ok (.aload_n 0, 1) := by decide +kernel
theorem dX12_stands_14 : decode cX12_stands 14 = .ok (.getfield 56, 3) := by decide +kernel
theorem dX12_stands_17 : decode cX12_stands 17 = .ok (.bipush 20, 2) := by decide +kernel
theorem dX12_stands_19 : decode cX12_stands 19 = .ok (.iload_n 1, 1) := by decide +kernel
theorem dX12_stands_20 : decode cX12_stands 20 = .ok (.imul, 1) := by decide +kernel
theorem dX12_stands_21 : decode cX12_stands 21 = .ok (.iload_n 2, 1) := by decide +kernel
theorem dX12_stands_22 : decode cX12_stands 22 = .ok (.iadd, 1) := by decide +kernel
theorem dX12_stands_23 : decode cX12_stands 23 = .ok (.iaload, 1) := by decide +kernel
theorem dX12_stands_24 : decode cX12_stands 24 = .ok (.iastore, 1) := by decide +kernel
theorem dX12_stands_25 : decode cX12_stands 25 = .ok (.iinc 2 1, 3) := by decide +kernel
theorem dX12_stands_28 : decode cX12_stands 28 = .ok (.goto (-26), 3) := by decide +kernel
theorem dX12_stands_31 : decode cX12_stands 31 = .ok (.return_, 1) := by decide +kernel
theorem dX12_rows_0 : decode cX12_rows 0 = .ok (.aload_n 0, 1) := by decide +kernel
theorem dX12_rows_1 : decode cX12_rows 1 = .ok (.invokevirtual 190, 3) := by decide +kernel
theorem dX12_rows_4 : decode cX12_rows 4 = .ok (.aload_n 0, 1) := by decide +kernel
theorem dX12_rows_5 : decode cX12_rows 5 = .ok (.iconst 0, 1) := by decide +kernel
theorem dX12_rows_6 : decode cX12_rows 6 = .ok (.invokevirtual 228, 3) := by decide +kernel
theorem dX12_rows_9 : decode cX12_rows 9 = .ok (.aload_n 0, 1) := by decide +kernel
theorem dX12_rows_10 : decode cX12_rows 10 = .ok (.iconst (-1), 1) := by decide +kernel
theorem dX12_rows_11 : decode cX12_rows 11 = .ok (.putfield 232, 3) := by decide +kernel
theorem dX12_rows_14 : decode cX12_rows 14 = .ok (.aload_n 0, 1) := by decide +kernel
theorem dX12_rows_15 : decode cX12_rows 15 = .ok (.iconst (-1), 1) := by decide +kernel
theorem dX12_rows_16 : decode cX12_rows 16 = .ok (.putfield 235, 3) := by decide +kernel
theorem dX12_rows_19 : decode cX12_rows 19 = .ok (.iconst 0, 1) := by decide +kernel
theorem dX12_rows_20 : decode cX12_rows 20 = .ok (.istore_n 3, 1) := by decide +kernel
theorem dX12_rows_21 : decode cX12_rows 21 = .ok (.aload_n 0, 1) := by decide +kernel
theorem dX12_rows_22 : decode cX12_rows 22 = .ok (.getfield 59, 3) := by decide +kernel
theorem dX12_rows_25 : decode cX12_rows 25 = .ok (.iconst 0, 1) := by decide +kernel
theorem dX12_rows_26 : decode cX12_rows 26 = .ok (.iconst (-1), 1) := by decide +kernel
theorem dX12_rows_27 : decode cX12_rows 27 = .ok (.iastore, 1) := by decide +kernel
theorem dX12_rows_28 : decode cX12_rows 28 = .ok (.iload_n 3, 1) := by decide +kernel
theorem dX12_rows_29 : decode cX12_rows 29 = .ok (.ifCond .lt 189, 3) := by decide +kernel
theorem dX12_rows_32 : decode cX12_rows 32 = .ok (.aload_n 0, 1) := by decide +kernel
theorem dX12_rows_33 : decode cX12_rows 33 = .ok (.getfield 59, 3) := by decide +kernel
theorem dX12_rows_36 : decode cX12_rows 36 = .ok (.iload_n 3, 1) := by decide +kernel
theorem dX12_rows_37 : decode cX12_rows 37 = .ok (.dup2, 1) := by decide +kernel
theorem dX12_rows_38 : decode cX12_rows 38 = .ok (.iaload, 1) := by decide +kernel
theorem dX12_rows_39 : decode cX12_rows 39 = .ok (.iconst 1, 1) := by decide +kernel
theorem dX12_rows_40 : decode cX12_rows 40 = .ok (.iadd, 1) := by decide +kernel
theorem dX12_rows_41 : decode cX12_rows 41 = .ok (.iastore, 1) := by decide +kernel
theorem dX12_rows_42 : decode cX12_rows 42 = .ok (.aload_n 0, 1) := by decide +kernel
theorem dX12_rows_43 : decode cX12_rows 43 = .ok (.getfield 59, 3) := by decide +kernel
theorem dX12_rows_46 : decode cX12_rows 46 = .ok (.iload_n 3, 1) := by decide +kernel
theorem dX12_rows_47 : decode cX12_rows 47 = .ok (.iaload, 1) := by decide +kernel
theorem dX12_rows_48 : decode cX12_rows 48 = .ok (.bipush 6, 2) := by decide +kernel
theorem dX12_rows_50 : decode cX12_rows 50 = .ok (.aload_n 0, 1) := by decide +kernel
theorem dX12_rows_51 : decode cX12_rows 51 = .ok (.getfield 152, 3) := by decide +kernel
theorem dX12_rows_54 : decode cX12_rows 54 = .ok (.imul, 1) := by decide +kernel
theorem dX12_rows_55 : decode cX12_rows 55 = .ok (.if_icmp .le 9, 3) := by decide +kernel
theorem dX12_rows_58 : decode cX12_rows 58 = .ok (.iinc 3 (-1), 3) := by decide +kernel
theorem dX12_rows_61 : decode cX12_rows 61 = .ok (.goto (-33), 3) := by decide +kernel
theorem dX12_rows_64 : decode cX12_rows 64 = .ok (.aload_n 0, 1) := by decide +kernel
theorem dX12_rows_65 : decode cX12_rows 65 = .ok (.iload_n 3, 1) := by decide +kernel
theorem dX12_rows_66 : decode cX12_rows 66 = .ok (.invokevirtual 238, 3) := by decide +kernel
theorem dX12_rows_69 : decode cX12_rows 69 = .ok (.aload_n 0, 1) := by decide +kernel
theorem dX12_rows_70 : decode cX12_rows 70 = .ok (.getfield 59, 3) := by decide +kernel
theorem dX12_rows_73 : decode cX12_rows 73 = .ok (.iload_n 3, 1) := by decide +kernel
theorem dX12_rows_74 : decode cX12_rows 74 = .ok (.iaload, 1) := by decide +kernel
theorem dX12_rows_75 : decode cX12_rows 75 = .ok (.iconst 1, 1) := by decide +kernel
theorem dX12_rows_76 : decode cX12_rows 76 = .ok (.isub, 1) := by decide +kernel
theorem dX12_rows_77 : decode cX12_rows 77 = .ok (.istore 4, 2) := by decide +kernel
theorem dX12_rows_79 : decode cX12_rows 79 = .ok (.iload 4, 2) := by decide +kernel
theorem dX12_rows_81 : decode cX12_rows 81 = .ok (.ifCond .lt 24, 3) := by decide +kernel
theorem dX12_rows_84 : decode cX12_rows 84 = .ok (.aload_n 0, 1) := by decide +kernel
theorem dX12_rows_85 : decode cX12_rows 85 = .ok (.getfield 13, 3) := by decide +kernel
theorem dX12_rows_88 : decode cX12_rows 88 = .ok (.iload 4, 2) := by decide +kernel
theorem dX12_rows_90 : decode cX12_rows 90 = .ok (.aload_n 0, 1) := by decide +kernel
theorem dX12_rows_91 : decode cX12_rows 91 = .ok (.getfield 152, 3) := by decide +kernel
theorem dX12_rows_94 : decode cX12_rows 94 = .ok (.idiv, 1) := by decide +kernel
theorem dX12_rows_95 : decode cX12_rows 95 = .ok (.iaload, 1) := by decide +kernel
theorem dX12_rows_96 : decode cX12_rows 96 = .ok (.aload_n 0, 1) := by decide +kernel
theorem dX12_rows_97 : decode cX12_rows 97 = .ok (.getfield 53, 3) := by decide +kernel
theorem dX12_rows_100 : decode cX12_rows 100 = .ok (.iconst 1, 1) := by decide +kernel
theorem dX12_rows_101 : decode cX12_rows 101 = .ok (.iaload, 1) := by decide +kernel
theorem dX12_rows_102 : decode cX12_rows 102 = .ok (.if_icmp .gt 7, 3) := by decide +kernel
theorem dX12_rows_105 : decode cX12_rows 105 = .ok (.iconst 1, 1) := by decide +kernel
theorem dX12_rows_106 : decode cX12_rows 106 = .ok (.goto 4, 3) := by decide +kernel
theorem dX12_rows_109 : decode cX12_rows 109 = .ok (.iconst 0, 1) := by decide +kernel
theorem dX12_rows_110 : decode cX12_rows 110 = .ok (.istore 5, 2) := by decide +kernel
theorem dX12_rows_112 : decode cX12_rows 112 = .ok (.iload 5, 2) := by decide +kernel
theorem dX12_rows_114 : decode cX12_rows 114 = .ok (.ifCond .eq 26, 3) := by decide +kernel
theorem dX12_rows_117 : decode cX12_rows 117 = .ok (.iload 4, 2) := by decide +kernel
theorem dX12_rows_119 : decode cX12_rows 119 = .ok (.ifCond .lt 21, 3) := by decide +kernel
theorem dX12_rows_122 : decode cX12_rows 122 = .ok (.aload_n 0, 1) := by decide +kernel
theorem dX12_rows_123 : decode cX12_rows 123 = .ok (.iload 4, 2) := by decide +kernel
theorem dX12_rows_125 : decode cX12_rows 125 = .ok (.aload_n 0, 1) := by decide +kernel
theorem dX12_rows_126 : decode cX12_rows 126 = .ok (.getfield 152, 3) := by decide +kernel
theorem dX12_rows_129 : decode cX12_rows 129 = .ok (.idiv, 1) := by decide +kernel
theorem dX12_rows_130 : decode cX12_rows 130 = .ok (.iload 4, 2) := by decide +kernel
theorem dX12_rows_132 : decode cX12_rows 132 = .ok (.aload_n 0, 1) := by decide +kernel
theorem dX12_rows_133 : decode cX12_rows 133 = .ok (.getfield 152, 3) := by decide +kernel
theorem dX12_rows_136 : decode cX12_rows 136 = .ok (.irem, 1) := by decide +kernel
theorem dX12_rows_137 : decode cX12_rows 137 = .ok (.invokevirtual 193, 3) := by decide +kernel
theorem dX12_rows_140 : decode cX12_rows 140 = .ok (.iload 5, 2) := by decide +kernel
theorem dX12_rows_142 : decode cX12_rows 142 = .ok (.ifCond .eq 7, 3) := by decide +kernel
theorem dX12_rows_145 : decode cX12_rows 145 = .ok (.aload_n 0, 1) := by decide +kernel
theorem dX12_rows_146 : decode cX12_rows 146 = .ok (.invokevirtual 197, 3) := by decide +kernel
theorem dX12_rows_149 : decode cX12_rows 149 = .ok (.iload 5, 2) := by decide +kernel
theorem dX12_rows_151 : decode cX12_rows 151 = .ok (.ifCond .eq 20, 3) := by decide +kernel
theorem dX12_rows_154 : decode cX12_rows 154 = .ok (.iload_n 2, 1) := by decide +kernel
theorem dX12_rows_155 : decode cX12_rows 155 = .ok (.iconst (-1), 1) := by decide +kernel
theorem dX12_rows_156 : decode cX12_rows 156 = .ok (.if_icmp .ne 11, 3) := by decide +kernel
theorem dX12_rows_159 : decode cX12_rows 159 = .ok (.aload_n 0, 1) := by decide +kernel
theorem dX12_rows_160 : decode cX12_rows 160 = .ok (.invokevirtual 224, 3) := by decide +kernel
theorem dX12_rows_163 : decode cX12_rows 163 = .ok (.iconst (-1), 1) := by decide +kernel
theorem dX12_rows_164 : decode cX12_rows 164 = .ok (.if_icmp .ne 7, 3) := by decide +kernel
theorem dX12_rows_167 : decode cX12_rows 167 = .ok (.iconst 1, 1) := by decide +kernel
theorem dX12_rows_168 : decode cX12_rows 168 = .ok (.goto 4, 3) := by decide +kernel
theorem dX12_rows_171 : decode cX12_rows 171 = .ok (.iconst 0, 1) := by decide +kernel
theorem dX12_rows_172 : decode cX12_rows 172 = .ok (.istore 5, 2) := by decide +kernel
theorem dX12_rows_174 : decode cX12_rows 174 = .ok (.iload 5, 2) := by decide +kernel
theorem dX12_rows_176 : decode cX12_rows 176 = .ok (.ifCond .eq 19, 3) := by decide +kernel
theorem dX12_rows_179 : decode cX12_rows 179 = .ok (.iload_n 3, 1) := by decide +kernel
theorem dX12_rows_180 : decode cX12_rows 180 = .ok (.iconst 1, 1) := by decide +kernel
theorem dX12_rows_181 : decode cX12_rows 181 = .ok (.iadd, 1) := by decide +kernel
theorem dX12_rows_182 : decode cX12_rows 182 = .ok (.iload_n 1, 1) := by decide +kernel
theorem dX12_rows_183 : decode cX12_rows 183 = .ok (.if_icmp .ne 12, 3) := by decide +kernel
theorem dX12_rows_186 : decode cX12_rows 186 = .ok (.aload_n 0, 1) := by decide +kernel
theorem dX12_rows_187 : decode cX12_rows 187 = .ok (.iload_n 1, 1) := by decide +kernel
theorem dX12_rows_188 : decode cX12_rows 188 = .ok (.iload_n 2, 1) := by decide +kernel
theorem dX12_rows_189 : decode cX12_rows 189 = .ok (.invokevirtual 241, 3) := by decide +kernel
theorem dX12_rows_192 : decode cX12_rows 192 = .ok (.goto 23, 3) := by decide +kernel
theorem dX12_rows_195 : decode cX12_rows 195 = .ok (.iload 5, 2) := by decide +kernel
theorem dX12_rows_197 : decode cX12_rows 197 = .ok (.ifCond .eq 18, 3) := by decide +kernel
theorem dX12_rows_200 : decode cX12_rows 200 = .ok (.iinc 3 1, 3) := by decide +kernel
theorem dX12_rows_203 : decode cX12_rows 203 = .ok (.aload_n 0, 1) := by decide +kernel
theorem dX12_rows_204 : decode cX12_rows 204 = .ok (.iload_n 3, 1) := by decide +kernel
theorem dX12_rows_205 : decode cX12_rows 205 = .ok (.invokevirtual 228, 3) := by decide +kernel
theorem dX12_rows_208 : decode cX12_rows 208 = .ok (.aload_n 0, 1) := by decide +kernel
theorem dX12_rows_209 : decode cX12_rows 209 = .ok (.getfield 59, 3) := by decide +kernel
theorem dX12_rows_212 : decode cX12_rows 212 = .ok (.iload_n 3, 1) := by decide +kernel
theorem dX12_rows_213 : decode cX12_rows 213 = .ok (.iconst (-1), 1) := by decide +kernel
theorem dX12_rows_214 : decode cX12_rows 214 = .ok (.iastore, 1) := by decide +kernel
theorem dX12_rows_215 : decode cX12_rows 215 = .ok (.goto (-187), 3) := by decide +kernel
theorem dX12_rows_218 : decode cX12_rows 218 = .ok (.return_, 1) := by decide +kernel
theorem dX12_keepsRow_0 : decode cX12_keepsRow 0 = .ok (.aload_n 0, 1) := by decide +kernel
theorem dX12_keepsRow_1 : decode cX12_keepsRow 1 = .ok (.getfield 16, 3) := by decide +kernel
theorem dX12_keepsRow_4 : decode cX12_keepsRow 4 = .ok (.iconst 1, 1) := by decide +kernel
theorem dX12_keepsRow_5 : decode cX12_keepsRow 5 = .ok (.iaload, 1) := by decide +kernel
theorem dX12_keepsRow_6 : decode cX12_keepsRow 6 = .ok (.aload_n 0, 1) := by decide +kernel
theorem dX12_keepsRow_7 : decode cX12_keepsRow 7 = .ok (.getfield 53, 3) := by decide +kernel
theorem dX12_keepsRow_10 : decode cX12_keepsRow 10 = .ok (.iconst 1, 1) := by decide +kernel
theorem dX12_keepsRow_11 : decode cX12_keepsRow 11 = .ok (.iaload, 1) := by decide +kernel
theorem dX12_keepsRow_12 : decode cX12_keepsRow 12 = .ok (.isub, 1) := by decide +kernel
theorem dX12_keepsRow_13 : decode cX12_keepsRow 13 = .ok (.istore_n 3, 1) := by decide +kernel
theorem dX12_keepsRow_14 : decode cX12_keepsRow 14 = .ok (.iconst 0, 1) := by decide +kernel
theorem dX12_keepsRow_15 : decode cX12_keepsRow 15 = .ok (.istore 4, 2) := by decide +kernel
theorem dX12_keepsRow_17 : decode cX12_keepsRow 17 = .ok (.iconst 0, 1) := by decide +kernel
theorem dX12_keepsRow_18 : decode cX12_keepsRow 18 = .ok (.istore 5, 2) := by decide +kernel
theorem dX12_keepsRow_20 : decode cX12_keepsRow 20 = .ok (.iload 5, 2) := by decide +kernel
theorem dX12_keepsRow_22 : decode cX12_keepsRow 22 = .ok (.iload_n 1, 1) := by decide +kernel
theorem dX12_keepsRow_23 : decode cX12_keepsRow 23 = .ok (.if_icmp .ge 29, 3) := by decide +kernel
theorem dX12_keepsRow_26 : decode cX12_keepsRow 26 = .ok (.iload 4, 2) := by decide +kernel
theorem dX12_keepsRow_28 : decode cX12_keepsRow 28 = .ok (.aload_n 0, 1) := by decide +kernel
theorem dX12_keepsRow_29 : decode cX12_keepsRow 29 = .ok (.getfield 59, 3) := by decide +kernel
theorem dX12_keepsRow_32 : decode cX12_keepsRow 32 = .ok (.iload 5, 2) := by decide +kernel
theorem dX12_keepsRow_34 : decode cX12_keepsRow 34 = .ok (.iaload, 1) := by decide +kernel
theorem dX12_keepsRow_35 : decode cX12_keepsRow 35 = .ok (.ifCond .le 7, 3) := by decide +kernel
theorem dX12_keepsRow_38 : decode cX12_keepsRow 38 = .ok (.iconst 1, 1) := by decide +kernel
theorem dX12_keepsRow_39 : decode cX12_keepsRow 39 = .ok (.goto 4, 3) := by decide +kernel
theorem dX12_keepsRow_42 : decode cX12_keepsRow 42 = .ok (.iconst 0, 1) := by decide +kernel
theorem dX12_keepsRow_43 : decode cX12_keepsRow 43 = .ok (.iadd, 1) := by decide +kernel
theorem dX12_keepsRow_44 : decode cX12_keepsRow 44 = .ok (.istore 4, 2) := by decide +kernel
theorem dX12_keepsRow_46 : decode cX12_keepsRow 46 = .ok (.iinc 5 1, 3) := by decide +kernel
theorem dX12_keepsRow_49 : decode cX12_keepsRow 49 = .ok (.goto (-29), 3) := by decide +kernel
theorem dX12_keepsRow_52 : decode cX12_keepsRow 52 = .ok (.aload_n 0, 1) := by decide +kernel
theorem dX12_keepsRow_53 : decode cX12_keepsRow 53 = .ok (.getfield 232, 3) := by decide +kernel
theorem dX12_keepsRow_56 : decode cX12_keepsRow 56 = .ok (.iconst (-1), 1) := by decide +kernel
theorem dX12_keepsRow_57 : decode cX12_keepsRow 57 = .ok (.if_icmp .eq 28, 3) := by decide +kernel
theorem dX12_keepsRow_60 : decode cX12_keepsRow 60 = .ok (.iload_n 3, 1) := by decide +kernel
theorem dX12_keepsRow_61 : decode cX12_keepsRow 61 = .ok (.aload_n 0, 1) := by decide +kernel
theorem dX12_keepsRow_62 : decode cX12_keepsRow 62 = .ok (.getfield 232, 3) := by decide +kernel
theorem dX12_keepsRow_65 : decode cX12_keepsRow 65 = .ok (.if_icmp .lt 20, 3) := by decide +kernel
theorem dX12_keepsRow_68 : decode cX12_keepsRow 68 = .ok (.iload_n 3, 1) := by decide +kernel
theorem dX12_keepsRow_69 : decode cX12_keepsRow 69 = .ok (.aload_n 0, 1) := by decide +kernel
theorem dX12_keepsRow_70 : decode cX12_keepsRow 70 = .ok (.getfield 232, 3) := by decide +kernel
theorem dX12_keepsRow_73 : decode cX12_keepsRow 73 = .ok (.if_icmp .ne 16, 3) := by decide +kernel
theorem dX12_keepsRow_76 : decode cX12_keepsRow 76 = .ok (.iload 4, 2) := by decide +kernel
theorem dX12_keepsRow_78 : decode cX12_keepsRow 78 = .ok (.aload_n 0, 1) := by decide +kernel
theorem dX12_keepsRow_79 : decode cX12_keepsRow 79 = .ok (.getfield 235, 3) := by decide +kernel
theorem dX12_keepsRow_82 : decode cX12_keepsRow 82 = .ok (.if_icmp .ge 7, 3) := by decide +kernel
theorem dX12_keepsRow_85 : decode cX12_keepsRow 85 = .ok (.iconst 1, 1) := by decide +kernel
theorem dX12_keepsRow_86 : decode cX12_keepsRow 86 = .ok (.goto 4, 3) := by decide +kernel
theorem dX12_keepsRow_89 : decode cX12_keepsRow 89 = .ok (.iconst 0, 1) := by decide +kernel
theorem dX12_keepsRow_90 : decode cX12_keepsRow 90 = .ok (.istore 5, 2) := by decide +kernel
theorem dX12_keepsRow_92 : decode cX12_keepsRow 92 = .ok (.iload 5, 2) := by decide +kernel
theorem dX12_keepsRow_94 : decode cX12_keepsRow 94 = .ok (.ifCond .eq 58, 3) := by decide +kernel
theorem dX12_keepsRow_97 : decode cX12_keepsRow 97 = .ok (.iload_n 2, 1) := by decide +kernel
theorem dX12_keepsRow_98 : decode cX12_keepsRow 98 = .ok (.iconst (-1), 1) := by decide +kernel
theorem dX12_keepsRow_99 : decode cX12_keepsRow 99 = .ok (.if_icmp .eq 13, 3) := by decide +kernel
theorem dX12_keepsRow_102 : decode cX12_keepsRow 102 = .ok (.aload_n 0, 1) := by decide +kernel
theorem dX12_keepsRow_103 : decode cX12_keepsRow 103 = .ok (.getfield 53, 3) := by decide +kernel
theorem dX12_keepsRow_106 : decode cX12_keepsRow 106 = .ok (.iconst 0, 1) := by decide +kernel
theorem dX12_keepsRow_107 : decode cX12_keepsRow 107 = .ok (.iaload, 1) := by decide +kernel
theorem dX12_keepsRow_108 : decode cX12_keepsRow 108 = .ok (.iload_n 2, 1) := by decide +kernel
theorem dX12_keepsRow_109 : decode cX12_keepsRow 109 = .ok (.if_icmp .ne 43, 3) := by decide +kernel
theorem dX12_keepsRow_112 : decode cX12_keepsRow 112 = .ok (.aload_n 0, 1) := by decide +kernel
theorem dX12_keepsRow_113 : decode cX12_keepsRow 113 = .ok (.iload_n 3, 1) := by decide +kernel
theorem dX12_keepsRow_114 : decode cX12_keepsRow 114 = .ok (.putfield 232, 3) := by decide +kernel
theorem dX12_keepsRow_117 : decode cX12_keepsRow 117 = .ok (.aload_n 0, 1) := by decide +kernel
theorem dX12_keepsRow_118 : decode cX12_keepsRow 118 = .ok (.iload 4, 2) := by decide +kernel
theorem dX12_keepsRow_120 : decode cX12_keepsRow 120 = .ok (.putfield 235, 3) := by decide +kernel
theorem dX12_keepsRow_123 : decode cX12_keepsRow 123 = .ok (.iconst 0, 1) := by decide +kernel
theorem dX12_keepsRow_124 : decode cX12_keepsRow 124 = .ok (.istore 6, 2) := by decide +kernel
theorem dX12_keepsRow_126 : decode cX12_keepsRow 126 = .ok (.iload 6, 2) := by decide +kernel
theorem dX12_keepsRow_128 : decode cX12_keepsRow 128 = .ok (.iload_n 1, 1) := by decide +kernel
theorem dX12_keepsRow_129 : decode cX12_keepsRow 129 = .ok (.if_icmp .ge 23, 3) := by decide +kernel
theorem dX12_keepsRow_132 : decode cX12_keepsRow 132 = .ok (.aload_n 0, 1) := by decide +kernel
theorem dX12_keepsRow_133 : decode cX12_keepsRow 133 = .ok (.getfield 62, 3) := by decide +kernel
theorem dX12_keepsRow_136 : decode cX12_keepsRow 136 = .ok (.iload 6, 2) := by decide +kernel
theorem dX12_keepsRow_138 : decode cX12_keepsRow 138 = .ok (.aload_n 0, 1) := by decide +kernel
theorem dX12_keepsRow_139 : decode cX12_keepsRow 139 = .ok (.getfield 59, 3) := by decide +kernel
theorem dX12_keepsRow_142 : decode cX12_keepsRow 142 = .ok (.iload 6, 2) := by decide +kernel
theorem dX12_keepsRow_144 : decode cX12_keepsRow 144 = .ok (.iaload, 1) := by decide +kernel
theorem dX12_keepsRow_145 : decode cX12_keepsRow 145 = .ok (.iastore, 1) := by decide +kernel
theorem dX12_keepsRow_146 : decode cX12_keepsRow 146 = .ok (.iinc 6 1, 3) := by decide +kernel
theorem dX12_keepsRow_149 : decode cX12_keepsRow 149 = .ok (.goto (-23), 3) := by decide +kernel
theorem dX12_keepsRow_152 : decode cX12_keepsRow 152 = .ok (.return_, 1) := by decide +kernel
theorem dX12_tells_0 : decode cX12_tells 0 = .ok (.aload_n 0, 1) := by decide +kernel
theorem dX12_tells_1 : decode cX12_tells 1 = .ok (.getfield 232, 3) := by decide +kernel
theorem dX12_tells_4 : decode cX12_tells 4 = .ok (.iconst (-1), 1) := by decide +kernel
theorem dX12_tells_5 : decode cX12_tells 5 = .ok (.if_icmp .eq 8, 3) := by decide +kernel
theorem dX12_tells_8 : decode cX12_tells 8 = .ok (.iload_n 2, 1) := by decide +kernel
theorem dX12_tells_9 : decode cX12_tells 9 = .ok (.iconst (-1), 1) := by decide +kernel
theorem dX12_tells_10 : decode cX12_tells 10 = .ok (.if_icmp .ne 8, 3) := by decide +kernel
theorem dX12_tells_13 : decode cX12_tells 13 = .ok (.aload_n 0, 1) := by decide +kernel
theorem dX12_tells_14 : decode cX12_tells 14 = .ok (.getfield 232, 3) := by decide +kernel
theorem dX12_tells_17 : decode cX12_tells 17 = .ok (.ireturn, 1) := by decide +kernel
theorem dX12_tells_18 : decode cX12_tells 18 = .ok (.iload_n 2, 1) := by decide +kernel
theorem dX12_tells_19 : decode cX12_tells 19 = .ok (.i2l, 1) := by decide +kernel
theorem dX12_tells_20 : decode cX12_tells 20 = .ok (.lconst 0, 1) := by decide +kernel
theorem dX12_tells_21 : decode cX12_tells 21 = .ok (.iload_n 1, 1) := by decide +kernel
theorem dX12_tells_22 : decode cX12_tells 22 = .ok (.iconst 1, 1) := by decide +kernel
theorem dX12_tells_23 : decode cX12_tells 23 = .ok (.isub, 1) := by decide +kernel
theorem dX12_tells_24 : decode cX12_tells 24 = .ok (.i2l, 1) := by decide +kernel
theorem dX12_tells_25 : decode cX12_tells 25 = .ok (.invokestatic 86, 3) := by decide +kernel
theorem dX12_tells_28 : decode cX12_tells 28 = .ok (.ifCond .ne 5, 3) := by decide +kernel
theorem dX12_tells_31 : decode cX12_tells 31 = .ok (.iconst (-1), 1) := by decide +kernel
theorem dX12_tells_32 : decode cX12_tells 32 = .ok (.ireturn, 1) := by decide +kernel
theorem dX12_tells_33 : decode cX12_tells 33 = .ok (.aload_n 0, 1) := by decide +kernel
theorem dX12_tells_34 : decode cX12_tells 34 = .ok (.getfield 62, 3) := by decide +kernel
theorem dX12_tells_37 : decode cX12_tells 37 = .ok (.iload_n 2, 1) := by decide +kernel
theorem dX12_tells_38 : decode cX12_tells 38 = .ok (.iaload, 1) := by decide +kernel
theorem dX12_tells_39 : decode cX12_tells 39 = .ok (.iconst 1, 1) := by decide +kernel
theorem dX12_tells_40 : decode cX12_tells 40 = .ok (.isub, 1) := by decide +kernel
theorem dX12_tells_41 : decode cX12_tells 41 = .ok (.istore_n 3, 1) := by decide +kernel
theorem dX12_tells_42 : decode cX12_tells 42 = .ok (.iload_n 3, 1) := by decide +kernel
theorem dX12_tells_43 : decode cX12_tells 43 = .ok (.ifCond .ge 8, 3) := by decide +kernel
theorem dX12_tells_46 : decode cX12_tells 46 = .ok (.bipush 99, 2) := by decide +kernel
theorem dX12_tells_48 : decode cX12_tells 48 = .ok (.goto 19, 3) := by decide +kernel
theorem dX12_tells_51 : decode cX12_tells 51 = .ok (.bipush 10, 2) := by decide +kernel
theorem dX12_tells_53 : decode cX12_tells 53 = .ok (.iload_n 3, 1) := by decide +kernel
theorem dX12_tells_54 : decode cX12_tells 54 = .ok (.aload_n 0, 1) := by decide +kernel
theorem dX12_tells_55 : decode cX12_tells 55 = .ok (.getfield 152, 3) := by decide +kernel
theorem dX12_tells_58 : decode cX12_tells 58 = .ok (.idiv, 1) := by decide +kernel
theorem dX12_tells_59 : decode cX12_tells 59 = .ok (.imul, 1) := by decide +kernel
theorem dX12_tells_60 : decode cX12_tells 60 = .ok (.iload_n 3, 1) := by decide +kernel
theorem dX12_tells_61 : decode cX12_tells 61 = .ok (.aload_n 0, 1) := by decide +kernel
theorem dX12_tells_62 : decode cX12_tells 62 = .ok (.getfield 152, 3) := by decide +kernel
theorem dX12_tells_65 : decode cX12_tells 65 = .ok (.irem, 1) := by decide +kernel
theorem dX12_tells_66 : decode cX12_tells 66 = .ok (.iadd, 1) := by decide +kernel
theorem dX12_tells_67 : decode cX12_tells 67 = .ok (.ireturn, 1) := by decide +kernel
theorem dX12_favour_0 : decode cX12_favour 0 = .ok (.aload_n 0, 1) := by decide +kernel
theorem dX12_favour_1 : decode cX12_favour 1 = .ok (.iload_n 1, 1) := by decide +kernel
theorem dX12_favour_2 : decode cX12_favour 2 = .ok (.invokevirtual 168, 3) := by decide +kernel
theorem dX12_favour_5 : decode cX12_favour 5 = .ok (.ifCond .ne 6, 3) := by decide +kernel
theorem dX12_favour_8 : decode cX12_favour 8 = .ok (.ldc 171, 2) := by decide +kernel
theorem dX12_favour_10 : decode cX12_favour 10 = .ok (.ireturn, 1) := by decide +kernel
theorem dX12_favour_11 : decode cX12_favour 11 = .ok (.iload_n 2, 1) := by decide +kernel
theorem dX12_favour_12 : decode cX12_favour 12 = .ok (.i2l, 1) := by decide +kernel
theorem dX12_favour_13 : decode cX12_favour 13 = .ok (.lconst 1, 1) := by decide +kernel
theorem dX12_favour_14 : decode cX12_favour 14 = .ok (.ldc2_w 244, 3) := by decide +kernel
theorem dX12_favour_17 : decode cX12_favour 17 = .ok (.invokestatic 86, 3) := by decide +kernel
theorem dX12_favour_20 : decode cX12_favour 20 = .ok (.ifCond .ne 6, 3) := by decide +kernel
theorem dX12_favour_23 : decode cX12_favour 23 = .ok (.ldc 90, 2) := by decide +kernel
theorem dX12_favour_25 : decode cX12_favour 25 = .ok (.ireturn, 1) := by decide +kernel
theorem dX12_favour_26 : decode cX12_favour 26 = .ok (.aload_n 0, 1) := by decide +kernel
theorem dX12_favour_27 : decode cX12_favour 27 = .ok (.iload_n 2, 1) := by decide +kernel
theorem dX12_favour_28 : decode cX12_favour 28 = .ok (.iload_n 1, 1) := by decide +kernel
theorem dX12_favour_29 : decode cX12_favour 29 = .ok (.invokevirtual 246, 3) := by decide +kernel
theorem dX12_favour_32 : decode cX12_favour 32 = .ok (.aload_n 0, 1) := by decide +kernel
theorem dX12_favour_33 : decode cX12_favour 33 = .ok (.iload_n 2, 1) := by decide +kernel
theorem dX12_favour_34 : decode cX12_favour 34 = .ok (.iload_n 3, 1) := by decide +kernel
theorem dX12_favour_35 : decode cX12_favour 35 = .ok (.invokevirtual 249, 3) := by decide +kernel
theorem dX12_favour_38 : decode cX12_favour 38 = .ok (.ireturn, 1) := by decide +kernel
theorem dX12_allWarm_0 : decode cX12_allWarm 0 = .ok (.iload_n 1, 1) := by decide +kernel
theorem dX12_allWarm_1 : decode cX12_allWarm 1 = .ok (.i2l, 1) := by decide +kernel
theorem dX12_allWarm_2 : decode cX12_allWarm 2 = .ok (.lconst 1, 1) := by decide +kernel
theorem dX12_allWarm_3 : decode cX12_allWarm 3 = .ok (.ldc2_w 244, 3) := by decide +kernel
theorem dX12_allWarm_6 : decode cX12_allWarm 6 = .ok (.invokestatic 86, 3) := by decide +kernel
theorem dX12_allWarm_9 : decode cX12_allWarm 9 = .ok (.ifCond .ne 6, 3) := by decide +kernel
theorem dX12_allWarm_12 : decode cX12_allWarm 12 = .ok (.ldc 90, 2) := by decide +kernel
theorem dX12_allWarm_14 : decode cX12_allWarm 14 = .ok (.ireturn, 1) := by decide +kernel
theorem dX12_allWarm_15 : decode cX12_allWarm 15 = .ok (.aload_n 0, 1) := by decide +kernel
theorem dX12_allWarm_16 : decode cX12_allWarm 16 = .ok (.getfield 152, 3) := by decide +kernel
theorem dX12_allWarm_19 : decode cX12_allWarm 19 = .ok (.ifCond .ne 6, 3) := by decide +kernel
theorem dX12_allWarm_22 : decode cX12_allWarm 22 = .ok (.ldc 200, 2) := by decide +kernel
theorem dX12_allWarm_24 : decode cX12_allWarm 24 = .ok (.ireturn, 1) := by decide +kernel
theorem dX12_allWarm_25 : decode cX12_allWarm 25 = .ok (.aload_n 0, 1) := by decide +kernel
theorem dX12_allWarm_26 : decode cX12_allWarm 26 = .ok (.iload_n 1, 1) := by decide +kernel
theorem dX12_allWarm_27 : decode cX12_allWarm 27 = .ok (.iconst (-1), 1) := by decide +kernel
theorem dX12_allWarm_28 : decode cX12_allWarm 28 = .ok (.invokevirtual 246, 3) := by decide +kernel
theorem dX12_allWarm_31 : decode cX12_allWarm 31 = .ok (.aload_n 0, 1) := by decide +kernel
theorem dX12_allWarm_32 : decode cX12_allWarm 32 = .ok (.iload_n 1, 1) := by decide +kernel
theorem dX12_allWarm_33 : decode cX12_allWarm 33 = .ok (.iload_n 2, 1) := by decide +kernel
theorem dX12_allWarm_34 : decode cX12_allWarm 34 = .ok (.invokevirtual 249, 3) := by decide +kernel
theorem dX12_allWarm_37 : decode cX12_allWarm 37 = .ok (.ireturn, 1) := by decide +kernel
theorem dX12_duel_0 : decode cX12_duel 0 = .ok (.aload_n 0, 1) := by decide +kernel
theorem dX12_duel_1 : decode cX12_duel 1 = .ok (.iload_n 1, 1) := by decide +kernel
theorem dX12_duel_2 : decode cX12_duel 2 = .ok (.invokevirtual 168, 3) := by decide +kernel
theorem dX12_duel_5 : decode cX12_duel 5 = .ok (.ifCond .eq 16, 3) := by decide +kernel
theorem dX12_duel_8 : decode cX12_duel 8 = .ok (.aload_n 0, 1) := by decide +kernel
theorem dX12_duel_9 : decode cX12_duel 9 = .ok (.iload_n 2, 1) := by decide +kernel
theorem dX12_duel_10 : decode cX12_duel 10 = .ok (.invokevirtual 168, 3) := by decide +kernel
theorem dX12_duel_13 : decode cX12_duel 13 = .ok (.ifCond .eq 8, 3) := by decide +kernel
theorem dX12_duel_16 : decode cX12_duel 16 = .ok (.iload_n 1, 1) := by decide +kernel
theorem dX12_duel_17 : decode cX12_duel 17 = .ok (.iload_n 2, 1) := by decide +kernel
theorem dX12_duel_18 : decode cX12_duel 18 = .ok (.if_icmp .ne 6, 3) := by decide +kernel
theorem dX12_duel_21 : decode cX12_duel 21 = .ok (.ldc 171, 2) := by decide +kernel
theorem dX12_duel_23 : decode cX12_duel 23 = .ok (.ireturn, 1) := by decide +kernel
theorem dX12_duel_24 : decode cX12_duel 24 = .ok (.iload_n 3, 1) := by decide +kernel
theorem dX12_duel_25 : decode cX12_duel 25 = .ok (.i2l, 1) := by decide +kernel
theorem dX12_duel_26 : decode cX12_duel 26 = .ok (.lconst 1, 1) := by decide +kernel
theorem dX12_duel_27 : decode cX12_duel 27 = .ok (.ldc2_w 252, 3) := by decide +kernel
theorem dX12_duel_30 : decode cX12_duel 30 = .ok (.invokestatic 86, 3) := by decide +kernel
theorem dX12_duel_33 : decode cX12_duel 33 = .ok (.ifCond .eq 14, 3) := by decide +kernel
theorem dX12_duel_36 : decode cX12_duel 36 = .ok (.iload 4, 2) := by decide +kernel
theorem dX12_duel_38 : decode cX12_duel 38 = .ok (.i2l, 1) := by decide +kernel
theorem dX12_duel_39 : decode cX12_duel 39 = .ok (.lconst 0, 1) := by decide +kernel
theorem dX12_duel_40 : decode cX12_duel 40 = .ok (.lconst 1, 1) := by decide +kernel
theorem dX12_duel_41 : decode cX12_duel 41 = .ok (.invokestatic 86, 3) := by decide +kernel
theorem dX12_duel_44 : decode cX12_duel 44 = .ok (.ifCond .ne 6, 3) := by decide +kernel
theorem dX12_duel_47 : decode cX12_duel 47 = .ok (.ldc 90, 2) := by decide +kernel
theorem dX12_duel_49 : decode cX12_duel 49 = .ok (.ireturn, 1) := by decide +kernel
theorem dX12_duel_50 : decode cX12_duel 50 = .ok (.aload_n 0, 1) := by decide +kernel
theorem dX12_duel_51 : decode cX12_duel 51 = .ok (.invokevirtual 190, 3) := by decide +kernel
theorem dX12_duel_54 : decode cX12_duel 54 = .ok (.aload_n 0, 1) := by decide +kernel
theorem dX12_duel_55 : decode cX12_duel 55 = .ok (.iconst 0, 1) := by decide +kernel
theorem dX12_duel_56 : decode cX12_duel 56 = .ok (.invokevirtual 228, 3) := by decide +kernel
theorem dX12_duel_59 : decode cX12_duel 59 = .ok (.iconst 0, 1) := by decide +kernel
theorem dX12_duel_60 : decode cX12_duel 60 = .ok (.istore 5, 2) := by decide +kernel
theorem dX12_duel_62 : decode cX12_duel 62 = .ok (.iconst 0, 1) := by decide +kernel
theorem dX12_duel_63 : decode cX12_duel 63 = .ok (.istore 6, 2) := by decide +kernel
theorem dX12_duel_65 : decode cX12_duel 65 = .ok (.aload_n 0, 1) := by decide +kernel
theorem dX12_duel_66 : decode cX12_duel 66 = .ok (.getfield 59, 3) := by decide +kernel
theorem dX12_duel_69 : decode cX12_duel 69 = .ok (.iconst 0, 1) := by decide +kernel
theorem dX12_duel_70 : decode cX12_duel 70 = .ok (.iconst (-1), 1) := by decide +kernel
theorem dX12_duel_71 : decode cX12_duel 71 = .ok (.iastore, 1) := by decide +kernel
theorem dX12_duel_72 : decode cX12_duel 72 = .ok (.aload_n 0, 1) := by decide +kernel
theorem dX12_duel_73 : decode cX12_duel 73 = .ok (.getfield 65, 3) := by decide +kernel
theorem dX12_duel_76 : decode cX12_duel 76 = .ok (.iconst 0, 1) := by decide +kernel
theorem dX12_duel_77 : decode cX12_duel 77 = .ok (.iconst (-1), 1) := by decide +kernel
theorem dX12_duel_78 : decode cX12_duel 78 = .ok (.iastore, 1) := by decide +kernel
theorem dX12_duel_79 : decode cX12_duel 79 = .ok (.iload 5, 2) := by decide +kernel
theorem dX12_duel_81 : decode cX12_duel 81 = .ok (.ifCond .lt 292, 3) := by decide +kernel
theorem dX12_duel_84 : decode cX12_duel 84 = .ok (.aload_n 0, 1) := by decide +kernel
theorem dX12_duel_85 : decode cX12_duel 85 = .ok (.getfield 59, 3) := by decide +kernel
theorem dX12_duel_88 : decode cX12_duel 88 = .ok (.iload 5, 2) := by decide +kernel
theorem dX12_duel_90 : decode cX12_duel 90 = .ok (.dup2, 1) := by decide +kernel
theorem dX12_duel_91 : decode cX12_duel 91 = .ok (.iaload, 1) := by decide +kernel
theorem dX12_duel_92 : decode cX12_duel 92 = .ok (.iconst 1, 1) := by decide +kernel
theorem dX12_duel_93 : decode cX12_duel 93 = .ok (.iadd, 1) := by decide +kernel
theorem dX12_duel_94 : decode cX12_duel 94 = .ok (.iastore, 1) := by decide +kernel
theorem dX12_duel_95 : decode cX12_duel 95 = .ok (.aload_n 0, 1) := by decide +kernel
theorem dX12_duel_96 : decode cX12_duel 96 = .ok (.getfield 59, 3) := by decide +kernel
theorem dX12_duel_99 : decode cX12_duel 99 = .ok (.iload 5, 2) := by decide +kernel
theorem dX12_duel_101 : decode cX12_duel 101 = .ok (.iaload, 1) := by decide +kernel
theorem dX12_duel_102 : decode cX12_duel 102 = .ok (.bipush 6, 2) := by decide +kernel
theorem dX12_duel_104 : decode cX12_duel 104 = .ok (.if_icmp .le 7, 3) := by decide +kernel
theorem dX12_duel_107 : decode cX12_duel 107 = .ok (.iconst 1, 1) := by decide +kernel
theorem dX12_duel_108 : decode cX12_duel 108 = .ok (.goto 4, 3) := by decide +kernel
theorem dX12_duel_111 : decode cX12_duel 111 = .ok (.iconst 0, 1) := by decide +kernel
theorem dX12_duel_112 : decode cX12_duel 112 = .ok (.istore 7, 2) := by decide +kernel
theorem dX12_duel_114 : decode cX12_duel 114 = .ok (.iload 7, 2) := by decide +kernel
theorem dX12_duel_116 : decode cX12_duel 116 = .ok (.ifCond .ne 48, 3) := by decide +kernel
theorem dX12_duel_119 : decode cX12_duel 119 = .ok (.aload_n 0, 1) := by decide +kernel
theorem dX12_duel_120 : decode cX12_duel 120 = .ok (.iload 5, 2) := by decide +kernel
theorem dX12_duel_122 : decode cX12_duel 122 = .ok (.invokevirtual 238, 3) := by decide +kernel
theorem dX12_duel_125 : decode cX12_duel 125 = .ok (.aload_n 0, 1) := by decide +kernel
theorem dX12_duel_126 : decode cX12_duel 126 = .ok (.getfield 59, 3) := by decide +kernel
theorem dX12_duel_129 : decode cX12_duel 129 = .ok (.iload 5, 2) := by decide +kernel
theorem dX12_duel_131 : decode cX12_duel 131 = .ok (.iaload, 1) := by decide +kernel
theorem dX12_duel_132 : decode cX12_duel 132 = .ok (.bipush 6, 2) := by decide +kernel
theorem dX12_duel_134 : decode cX12_duel 134 = .ok (.if_icmp .ge 26, 3) := by decide +kernel
theorem dX12_duel_137 : decode cX12_duel 137 = .ok (.aload_n 0, 1) := by decide +kernel
theorem dX12_duel_138 : decode cX12_duel 138 = .ok (.aload_n 0, 1) := by decide +kernel
theorem dX12_duel_139 : decode cX12_duel 139 = .ok (.getfield 59, 3) := by decide +kernel
theorem dX12_duel_142 : decode cX12_duel 142 = .ok (.iload 5, 2) := by decide +kernel
theorem dX12_duel_144 : decode cX12_duel 144 = .ok (.iaload, 1) := by decide +kernel
theorem dX12_duel_145 : decode cX12_duel 145 = .ok (.iload 5, 2) := by decide +kernel
theorem dX12_duel_147 : decode cX12_duel 147 = .ok (.iconst 2, 1) := by decide +kernel
theorem dX12_duel_148 : decode cX12_duel 148 = .ok (.irem, 1) := by decide +kernel
theorem dX12_duel_149 : decode cX12_duel 149 = .ok (.ifCond .ne 7, 3) := by decide +kernel
theorem dX12_duel_152 : decode cX12_duel 152 = .ok (.iload_n 1, 1) := by decide +kernel
theorem dX12_duel_153 : decode cX12_duel 153 = .ok (.goto 4, 3) := by decide +kernel
theorem dX12_duel_156 : decode cX12_duel 156 = .ok (.iload_n 2, 1) := by decide +kernel
theorem dX12_duel_157 : decode cX12_duel 157 = .ok (.invokevirtual 193, 3) := by decide +kernel
theorem dX12_duel_160 : decode cX12_duel 160 = .ok (.aload_n 0, 1) := by decide +kernel
theorem dX12_duel_161 : decode cX12_duel 161 = .ok (.invokevirtual 197, 3) := by decide +kernel
theorem dX12_duel_164 : decode cX12_duel 164 = .ok (.iload 7, 2) := by decide +kernel
theorem dX12_duel_166 : decode cX12_duel 166 = .ok (.ifCond .ne 39, 3) := by decide +kernel
theorem dX12_duel_169 : decode cX12_duel 169 = .ok (.iload 5, 2) := by decide +kernel
theorem dX12_duel_171 : decode cX12_duel 171 = .ok (.iconst 1, 1) := by decide +kernel
theorem dX12_duel_172 : decode cX12_duel 172 = .ok (.iadd, 1) := by decide +kernel
theorem dX12_duel_173 : decode cX12_duel 173 = .ok (.iload_n 3, 1) := by decide +kernel
theorem dX12_duel_174 : decode cX12_duel 174 = .ok (.if_icmp .ge 31, 3) := by decide +kernel
theorem dX12_duel_177 : decode cX12_duel 177 = .ok (.iinc 5 1, 3) := by decide +kernel
theorem dX12_duel_180 : decode cX12_duel 180 = .ok (.aload_n 0, 1) := by decide +kernel
theorem dX12_duel_181 : decode cX12_duel 181 = .ok (.iload 5, 2) := by decide +kernel
theorem dX12_duel_183 : decode cX12_duel 183 = .ok (.invokevirtual 228, 3) := by decide +kernel
theorem dX12_duel_186 : decode cX12_duel 186 = .ok (.aload_n 0, 1) := by decide +kernel
theorem dX12_duel_187 : decode cX12_duel 187 = .ok (.getfield 59, 3) := by decide +kernel
theorem dX12_duel_190 : decode cX12_duel 190 = .ok (.iload 5, 2) := by decide +kernel
theorem dX12_duel_192 : decode cX12_duel 192 = .ok (.iconst (-1), 1) := by decide +kernel
theorem dX12_duel_193 : decode cX12_duel 193 = .ok (.iastore, 1) := by decide +kernel
theorem dX12_duel_194 : decode cX12_duel 194 = .ok (.aload_n 0, 1) := by decide +kernel
theorem dX12_duel_195 : decode cX12_duel 195 = .ok (.getfield 65, 3) := by decide +kernel
theorem dX12_duel_198 : decode cX12_duel 198 = .ok (.iload 5, 2) := by decide +kernel
theorem dX12_duel_200 : decode cX12_duel 200 = .ok (.iconst (-1), 1) := by decide +kernel
theorem dX12_duel_201 : decode cX12_duel 201 = .ok (.iastore, 1) := by decide +kernel
theorem dX12_duel_202 : decode cX12_duel 202 = .ok (.goto 168, 3) := by decide +kernel
theorem dX12_duel_205 : decode cX12_duel 205 = .ok (.iload 7, 2) := by decide +kernel
theorem dX12_duel_207 : decode cX12_duel 207 = .ok (.ifCond .eq 13, 3) := by decide +kernel
theorem dX12_duel_210 : decode cX12_duel 210 = .ok (.aload_n 0, 1) := by decide +kernel
theorem dX12_duel_211 : decode cX12_duel 211 = .ok (.getfield 65, 3) := by decide +kernel
theorem dX12_duel_214 : decode cX12_duel 214 = .ok (.iload 5, 2) := by decide +kernel
theorem dX12_duel_216 : decode cX12_duel 216 = .ok (.iaload, 1) := by decide +kernel
theorem dX12_duel_217 : decode cX12_duel 217 = .ok (.goto 32, 3) := by decide +kernel
theorem dX12_duel_220 : decode cX12_duel 220 = .ok (.aload_n 0, 1) := by decide +kernel
theorem dX12_duel_221 : decode cX12_duel 221 = .ok (.getfield 53, 3) := by decide +kernel
theorem dX12_duel_224 : decode cX12_duel 224 = .ok (.iconst 0, 1) := by decide +kernel
theorem dX12_duel_225 : decode cX12_duel 225 = .ok (.iaload, 1) := by decide +kernel
theorem dX12_duel_226 : decode cX12_duel 226 = .ok (.iload_n 1, 1) := by decide +kernel
theorem dX12_duel_227 : decode cX12_duel 227 = .ok (.if_icmp .ne 7, 3) := by decide +kernel
theorem dX12_duel_230 : decode cX12_duel 230 = .ok (.iconst 2, 1) := by decide +kernel
theorem dX12_duel_231 : decode cX12_duel 231 = .ok (.goto 18, 3) := by decide +kernel
theorem dX12_duel_234 : decode cX12_duel 234 = .ok (.aload_n 0, 1) := by decide +kernel
theorem dX12_duel_235 : decode cX12_duel 235 = .ok (.getfield 53, 3) := by decide +kernel
theorem dX12_duel_238 : decode cX12_duel 238 = .ok (.iconst 0, 1) := by decide +kernel
theorem dX12_duel_239 : decode cX12_duel 239 = .ok (.iaload, 1) := by decide +kernel
theorem dX12_duel_240 : decode cX12_duel 240 = .ok (.iload_n 2, 1) := by decide +kernel
theorem dX12_duel_241 : decode cX12_duel 241 = .ok (.if_icmp .ne 7, 3) := by decide +kernel
theorem dX12_duel_244 : decode cX12_duel 244 = .ok (.iconst 0, 1) := by decide +kernel
theorem dX12_duel_245 : decode cX12_duel 245 = .ok (.goto 4, 3) := by decide +kernel
theorem dX12_duel_248 : decode cX12_duel 248 = .ok (.iconst 1, 1) := by decide +kernel
theorem dX12_duel_249 : decode cX12_duel 249 = .ok (.istore 8, 2) := by decide +kernel
theorem dX12_duel_251 : decode cX12_duel 251 = .ok (.iload 5, 2) := by decide +kernel
theorem dX12_duel_253 : decode cX12_duel 253 = .ok (.iload 7, 2) := by decide +kernel
theorem dX12_duel_255 : decode cX12_duel 255 = .ok (.ifCond .eq 7, 3) := by decide +kernel
theorem dX12_duel_258 : decode cX12_duel 258 = .ok (.iconst 1, 1) := by decide +kernel
theorem dX12_duel_259 : decode cX12_duel 259 = .ok (.goto 4, 3) := by decide +kernel
theorem dX12_duel_262 : decode cX12_duel 262 = .ok (.iconst 0, 1) := by decide +kernel
theorem dX12_duel_263 : decode cX12_duel 263 = .ok (.isub, 1) := by decide +kernel
theorem dX12_duel_264 : decode cX12_duel 264 = .ok (.istore 5, 2) := by decide +kernel
theorem dX12_duel_266 : decode cX12_duel 266 = .ok (.iload 5, 2) := by decide +kernel
theorem dX12_duel_268 : decode cX12_duel 268 = .ok (.ifCond .lt 102, 3) := by decide +kernel
theorem dX12_duel_271 : decode cX12_duel 271 = .ok (.aload_n 0, 1) := by decide +kernel
theorem dX12_duel_272 : decode cX12_duel 272 = .ok (.getfield 65, 3) := by decide +kernel
theorem dX12_duel_275 : decode cX12_duel 275 = .ok (.iload 5, 2) := by decide +kernel
theorem dX12_duel_277 : decode cX12_duel 277 = .ok (.iaload, 1) := by decide +kernel
theorem dX12_duel_278 : decode cX12_duel 278 = .ok (.iconst (-1), 1) := by decide +kernel
theorem dX12_duel_279 : decode cX12_duel 279 = .ok (.if_icmp .eq 37, 3) := by decide +kernel
theorem dX12_duel_282 : decode cX12_duel 282 = .ok (.iload 5, 2) := by decide +kernel
theorem dX12_duel_284 : decode cX12_duel 284 = .ok (.iconst 2, 1) := by decide +kernel
theorem dX12_duel_285 : decode cX12_duel 285 = .ok (.irem, 1) := by decide +kernel
theorem dX12_duel_286 : decode cX12_duel 286 = .ok (.ifCond .ne 18, 3) := by decide +kernel
theorem dX12_duel_289 : decode cX12_duel 289 = .ok (.iload 8, 2) := by decide +kernel
theorem dX12_duel_291 : decode cX12_duel 291 = .ok (.aload_n 0, 1) := by decide +kernel
theorem dX12_duel_292 : decode cX12_duel 292 = .ok (.getfield 65, 3) := by decide +kernel
theorem dX12_duel_295 : decode cX12_duel 295 = .ok (.iload 5, 2) := by decide +kernel
theorem dX12_duel_297 : decode cX12_duel 297 = .ok (.iaload, 1) := by decide +kernel
theorem dX12_duel_298 : decode cX12_duel 298 = .ok (.if_icmp .le 22, 3) := by decide +kernel
theorem dX12_duel_301 : decode cX12_duel 301 = .ok (.goto 15, 3) := by decide +kernel
theorem dX12_duel_304 : decode cX12_duel 304 = .ok (.iload 8, 2) := by decide +kernel
theorem dX12_duel_306 : decode cX12_duel 306 = .ok (.aload_n 0, 1) := by decide +kernel
theorem dX12_duel_307 : decode cX12_duel 307 = .ok (.getfield 65, 3) := by decide +kernel
theorem dX12_duel_310 : decode cX12_duel 310 = .ok (.iload 5, 2) := by decide +kernel
theorem dX12_duel_312 : decode cX12_duel 312 = .ok (.iaload, 1) := by decide +kernel
theorem dX12_duel_313 : decode cX12_duel 313 = .ok (.if_icmp .ge 7, 3) := by decide +kernel
theorem dX12_duel_316 : decode cX12_duel 316 = .ok (.iconst 1, 1) := by decide +kernel
theorem dX12_duel_317 : decode cX12_duel 317 = .ok (.goto 4, 3) := by decide +kernel
theorem dX12_duel_320 : decode cX12_duel 320 = .ok (.iconst 0, 1) := by decide +kernel
theorem dX12_duel_321 : decode cX12_duel 321 = .ok (.istore 9, 2) := by decide +kernel
theorem dX12_duel_323 : decode cX12_duel 323 = .ok (.iload 9, 2) := by decide +kernel
theorem dX12_duel_325 : decode cX12_duel 325 = .ok (.ifCond .eq 17, 3) := by decide +kernel
theorem dX12_duel_328 : decode cX12_duel 328 = .ok (.iload 5, 2) := by decide +kernel
theorem dX12_duel_330 : decode cX12_duel 330 = .ok (.ifCond .ne 12, 3) := by decide +kernel
theorem dX12_duel_333 : decode cX12_duel 333 = .ok (.aload_n 0, 1) := by decide +kernel
theorem dX12_duel_334 : decode cX12_duel 334 = .ok (.getfield 59, 3) := by decide +kernel
theorem dX12_duel_337 : decode cX12_duel 337 = .ok (.iconst 0, 1) := by decide +kernel
theorem dX12_duel_338 : decode cX12_duel 338 = .ok (.iaload, 1) := by decide +kernel
theorem dX12_duel_339 : decode cX12_duel 339 = .ok (.goto 5, 3) := by decide +kernel
theorem dX12_duel_342 : decode cX12_duel 342 = .ok (.iload 6, 2) := by decide +kernel
theorem dX12_duel_344 : decode cX12_duel 344 = .ok (.istore 6, 2) := by decide +kernel
theorem dX12_duel_346 : decode cX12_duel 346 = .ok (.aload_n 0, 1) := by decide +kernel
theorem dX12_duel_347 : decode cX12_duel 347 = .ok (.getfield 65, 3) := by decide +kernel
theorem dX12_duel_350 : decode cX12_duel 350 = .ok (.iload 5, 2) := by decide +kernel
theorem dX12_duel_352 : decode cX12_duel 352 = .ok (.iload 9, 2) := by decide +kernel
theorem dX12_duel_354 : decode cX12_duel 354 = .ok (.ifCond .eq 8, 3) := by decide +kernel
theorem dX12_duel_357 : decode cX12_duel 357 = .ok (.iload 8, 2) := by decide +kernel
theorem dX12_duel_359 : decode cX12_duel 359 = .ok (.goto 10, 3) := by decide +kernel
theorem dX12_duel_362 : decode cX12_duel 362 = .ok (.aload_n 0, 1) := by decide +kernel
theorem dX12_duel_363 : decode cX12_duel 363 = .ok (.getfield 65, 3) := by decide +kernel
theorem dX12_duel_366 : decode cX12_duel 366 = .ok (.iload 5, 2) := by decide +kernel
theorem dX12_duel_368 : decode cX12_duel 368 = .ok (.iaload, 1) := by decide +kernel
theorem dX12_duel_369 : decode cX12_duel 369 = .ok (.iastore, 1) := by decide +kernel
theorem dX12_duel_370 : decode cX12_duel 370 = .ok (.goto (-291), 3) := by decide +kernel
theorem dX12_duel_373 : decode cX12_duel 373 = .ok (.iload 4, 2) := by decide +kernel
theorem dX12_duel_375 : decode cX12_duel 375 = .ok (.ifCond .ne 12, 3) := by decide +kernel
theorem dX12_duel_378 : decode cX12_duel 378 = .ok (.aload_n 0, 1) := by decide +kernel
theorem dX12_duel_379 : decode cX12_duel 379 = .ok (.getfield 65, 3) := by decide +kernel
theorem dX12_duel_382 : decode cX12_duel 382 = .ok (.iconst 0, 1) := by decide +kernel
theorem dX12_duel_383 : decode cX12_duel 383 = .ok (.iaload, 1) := by decide +kernel
theorem dX12_duel_384 : decode cX12_duel 384 = .ok (.goto 5, 3) := by decide +kernel
theorem dX12_duel_387 : decode cX12_duel 387 = .ok (.iload 6, 2) := by decide +kernel
theorem dX12_duel_389 : decode cX12_duel 389 = .ok (.ireturn, 1) := by decide +kernel
theorem dX12_ranksAt_0 : decode cX12_ranksAt 0 = .ok (.aload_n 0, 1) := by decide +kernel
theorem dX12_ranksAt_1 : decode cX12_ranksAt 1 = .ok (.getfield 68, 3) := by decide +kernel
theorem dX12_ranksAt_4 : decode cX12_ranksAt 4 = .ok (.bipush 6, 2) := by decide +kernel
theorem dX12_ranksAt_6 : decode cX12_ranksAt 6 = .ok (.iload_n 1, 1) := by decide +kernel
theorem dX12_ranksAt_7 : decode cX12_ranksAt 7 = .ok (.imul, 1) := by decide +kernel
theorem dX12_ranksAt_8 : decode cX12_ranksAt 8 = .ok (.aload_n 0, 1) := by decide +kernel
theorem dX12_ranksAt_9 : decode cX12_ranksAt 9 = .ok (.getfield 53, 3) := by decide +kernel
theorem dX12_ranksAt_12 : decode cX12_ranksAt 12 = .ok (.iconst 0, 1) := by decide +kernel
theorem dX12_ranksAt_13 : decode cX12_ranksAt 13 = .ok (.iaload, 1) := by decide +kernel
theorem dX12_ranksAt_14 : decode cX12_ranksAt 14 = .ok (.iastore, 1) := by decide +kernel
theorem dX12_ranksAt_15 : decode cX12_ranksAt 15 = .ok (.iconst 0, 1) := by decide +kernel
theorem dX12_ranksAt_16 : decode cX12_ranksAt 16 = .ok (.istore_n 2, 1) := by decide +kernel
theorem dX12_ranksAt_17 : decode cX12_ranksAt 17 = .ok (.iload_n 2, 1) := by decide +kernel
theorem dX12_ranksAt_18 : decode cX12_ranksAt 18 = .ok (.aload_n 0, 1) := by decide +kernel
theorem dX12_ranksAt_19 : decode cX12_ranksAt 19 = .ok (.getfield 152, 3) := by decide +kernel
theorem dX12_ranksAt_22 : decode cX12_ranksAt 22 = .ok (.if_icmp .ge 104, 3) := by decide +kernel
theorem dX12_ranksAt_25 : decode cX12_ranksAt 25 = .ok (.aload_n 0, 1) := by decide +kernel
theorem dX12_ranksAt_26 : decode cX12_ranksAt 26 = .ok (.getfield 53, 3) := by decide +kernel
theorem dX12_ranksAt_29 : decode cX12_ranksAt 29 = .ok (.bipush 9, 2) := by decide +kernel
theorem dX12_ranksAt_31 : decode cX12_ranksAt 31 = .ok (.iload_n 2, 1) := by decide +kernel
theorem dX12_ranksAt_32 : decode cX12_ranksAt 32 = .ok (.iadd, 1) := by decide +kernel
theorem dX12_ranksAt_33 : decode cX12_ranksAt 33 = .ok (.iaload, 1) := by decide +kernel
theorem dX12_ranksAt_34 : decode cX12_ranksAt 34 = .ok (.iconst (-1), 1) := by decide +kernel
theorem dX12_ranksAt_35 : decode cX12_ranksAt 35 = .ok (.if_icmp .ne 7, 3) := by decide +kernel
theorem dX12_ranksAt_38 : decode cX12_ranksAt 38 = .ok (.iconst 0, 1) := by decide +kernel
theorem dX12_ranksAt_39 : decode cX12_ranksAt 39 = .ok (.goto 4, 3) := by decide +kernel
theorem dX12_ranksAt_42 : decode cX12_ranksAt 42 = .ok (.iconst 1, 1) := by decide +kernel
theorem dX12_ranksAt_43 : decode cX12_ranksAt 43 = .ok (.istore_n 3, 1) := by decide +kernel
theorem dX12_ranksAt_44 : decode cX12_ranksAt 44 = .ok (.iconst 0, 1) := by decide +kernel
theorem dX12_ranksAt_45 : decode cX12_ranksAt 45 = .ok (.istore 4, 2) := by decide +kernel
theorem dX12_ranksAt_47 : decode cX12_ranksAt 47 = .ok (.iload 4, 2) := by decide +kernel
theorem dX12_ranksAt_49 : decode cX12_ranksAt 49 = .ok (.aload_n 0, 1) := by decide +kernel
theorem dX12_ranksAt_50 : decode cX12_ranksAt 50 = .ok (.getfield 152, 3) := by decide +kernel
theorem dX12_ranksAt_53 : decode cX12_ranksAt 53 = .ok (.if_icmp .ge 53, 3) := by decide +kernel
theorem dX12_ranksAt_56 : decode cX12_ranksAt 56 = .ok (.iload_n 3, 1) := by decide +kernel
theorem dX12_ranksAt_57 : decode cX12_ranksAt 57 = .ok (.aload_n 0, 1) := by decide +kernel
theorem dX12_ranksAt_58 : decode cX12_ranksAt 58 = .ok (.getfield 53, 3) := by decide +kernel
theorem dX12_ranksAt_61 : decode cX12_ranksAt 61 = .ok (.bipush 9, 2) := by decide +kernel
theorem dX12_ranksAt_63 : decode cX12_ranksAt 63 = .ok (.iload 4, 2) := by decide +kernel
theorem dX12_ranksAt_65 : decode cX12_ranksAt 65 = .ok (.iadd, 1) := by decide +kernel
theorem dX12_ranksAt_66 : decode cX12_ranksAt 66 = .ok (.iaload, 1) := by decide +kernel
theorem dX12_ranksAt_67 : decode cX12_ranksAt 67 = .ok (.iconst (-1), 1) := by decide +kernel
theorem dX12_ranksAt_68 : decode cX12_ranksAt 68 = .ok (.if_icmp .eq 29, 3) := by decide +kernel
theorem dX12_ranksAt_71 : decode cX12_ranksAt 71 = .ok (.aload_n 0, 1) := by decide +kernel
theorem dX12_ranksAt_72 : decode cX12_ranksAt 72 = .ok (.getfield 53, 3) := by decide +kernel
theorem dX12_ranksAt_75 : decode cX12_ranksAt 75 = .ok (.bipush 9, 2) := by decide +kernel
theorem dX12_ranksAt_77 : decode cX12_ranksAt 77 = .ok (.iload 4, 2) := by decide +kernel
theorem dX12_ranksAt_79 : decode cX12_ranksAt 79 = .ok (.iadd, 1) := by decide +kernel
theorem dX12_ranksAt_80 : decode cX12_ranksAt 80 = .ok (.iaload, 1) := by decide +kernel
theorem dX12_ranksAt_81 : decode cX12_ranksAt 81 = .ok (.aload_n 0, 1) := by decide +kernel
theorem dX12_ranksAt_82 : decode cX12_ranksAt 82 = .ok (.getfield 53, 3) := by decide +kernel
theorem dX12_ranksAt_85 : decode cX12_ranksAt 85 = .ok (.bipush 9, 2) := by decide +kernel
theorem dX12_ranksAt_87 : decode cX12_ranksAt 87 = .ok (.iload_n 2, 1) := by decide +kernel
theorem dX12_ranksAt_88 : decode cX12_ranksAt 88 = .ok (.iadd, 1) := by decide +kernel
theorem dX12_ranksAt_89 : decode cX12_ranksAt 89 = .ok (.iaload, 1) := by decide +kernel
theorem dX12_ranksAt_90 : decode cX12_ranksAt 90 = .ok (.if_icmp .ge 7, 3) := by decide +kernel
theorem dX12_ranksAt_93 : decode cX12_ranksAt 93 = .ok (.iconst 1, 1) := by decide +kernel
theorem dX12_ranksAt_94 : decode cX12_ranksAt 94 = .ok (.goto 4, 3) := by decide +kernel
theorem dX12_ranksAt_97 : decode cX12_ranksAt 97 = .ok (.iconst 0, 1) := by decide +kernel
theorem dX12_ranksAt_98 : decode cX12_ranksAt 98 = .ok (.iadd, 1) := by decide +kernel
theorem dX12_ranksAt_99 : decode cX12_ranksAt 99 = .ok (.istore_n 3, 1) := by decide +kernel
theorem dX12_ranksAt_100 : decode cX12_ranksAt 100 = .ok (.iinc 4 1, 3) := by decide +kernel
theorem dX12_ranksAt_103 : decode cX12_ranksAt 103 = .ok (.goto (-56), 3) := by decide +kernel
theorem dX12_ranksAt_106 : decode cX12_ranksAt 106 = .ok (.aload_n 0, 1) := by decide +kernel
theorem dX12_ranksAt_107 : decode cX12_ranksAt 107 = .ok (.getfield 68, 3) := by decide +kernel
theorem dX12_ranksAt_110 : decode cX12_ranksAt 110 = .ok (.bipush 6, 2) := by decide +kernel
theorem dX12_ranksAt_112 : decode cX12_ranksAt 112 = .ok (.iload_n 1, 1) := by decide +kernel
theorem dX12_ranksAt_113 : decode cX12_ranksAt 113 = .ok (.imul, 1) := by decide +kernel
theorem dX12_ranksAt_114 : decode cX12_ranksAt 114 = .ok (.iconst 1, 1) := by decide +kernel
theorem dX12_ranksAt_115 : decode cX12_ranksAt 115 = .ok (.iadd, 1) := by decide +kernel
theorem dX12_ranksAt_116 : decode cX12_ranksAt 116 = .ok (.iload_n 2, 1) := by decide +kernel
theorem dX12_ranksAt_117 : decode cX12_ranksAt 117 = .ok (.iadd, 1) := by decide +kernel
theorem dX12_ranksAt_118 : decode cX12_ranksAt 118 = .ok (.iload_n 3, 1) := by decide +kernel
theorem dX12_ranksAt_119 : decode cX12_ranksAt 119 = .ok (.iastore, 1) := by decide +kernel
theorem dX12_ranksAt_120 : decode cX12_ranksAt 120 = .ok (.iinc 2 1, 3) := by decide +kernel
theorem dX12_ranksAt_123 : decode cX12_ranksAt 123 = .ok (.goto (-106), 3) := by decide +kernel
theorem dX12_ranksAt_126 : decode cX12_ranksAt 126 = .ok (.return_, 1) := by decide +kernel
theorem dX12_areAlike_0 : decode cX12_areAlike 0 = .ok (.iconst 1, 1) := by decide +kernel
theorem dX12_areAlike_1 : decode cX12_areAlike 1 = .ok (.istore_n 3, 1) := by decide +kernel
theorem dX12_areAlike_2 : decode cX12_areAlike 2 = .ok (.iconst 0, 1) := by decide +kernel
theorem dX12_areAlike_3 : decode cX12_areAlike 3 = .ok (.istore 4, 2) := by decide +kernel
theorem dX12_areAlike_5 : decode cX12_areAlike 5 = .ok (.iload 4, 2) := by decide +kernel
theorem dX12_areAlike_7 : decode cX12_areAlike 7 = .ok (.aload_n 0, 1) := by decide +kernel
theorem dX12_areAlike_8 : decode cX12_areAlike 8 = .ok (.getfield 152, 3) := by decide +kernel
theorem dX12_areAlike_11 : decode cX12_areAlike 11 = .ok (.if_icmp .gt 46, 3) := by decide +kernel
theorem dX12_areAlike_14 : decode cX12_areAlike 14 = .ok (.iload_n 3, 1) := by decide +kernel
theorem dX12_areAlike_15 : decode cX12_areAlike 15 = .ok (.ifCond .eq 34, 3) := by decide +kernel
theorem dX12_areAlike_18 : decode cX12_areAlike 18 = .ok (.aload_n 0, 1) := by decide +kernel
theorem dX12_areAlike_19 : decode cX12_areAlike 19 = .ok (.getfield 68, 3) := by decide +kernel
theorem dX12_areAlike_22 : decode cX12_areAlike 22 = .ok (.bipush 6, 2) := by decide +kernel
theorem dX12_areAlike_24 : decode cX12_areAlike 24 = .ok (.iload_n 1, 1) := by decide +kernel
theorem dX12_areAlike_25 : decode cX12_areAlike 25 = .ok (.imul, 1) := by decide +kernel
theorem dX12_areAlike_26 : decode cX12_areAlike 26 = .ok (.iload 4, 2) := by decide +kernel
theorem dX12_areAlike_28 : decode cX12_areAlike 28 = .ok (.iadd, 1) := by decide +kernel
theorem dX12_areAlike_29 : decode cX12_areAlike 29 = .ok (.iaload, 1) := by decide +kernel
theorem dX12_areAlike_30 : decode cX12_areAlike 30 = .ok (.aload_n 0, 1) := by decide +kernel
theorem dX12_areAlike_31 : decode cX12_areAlike 31 = .ok (.getfield 68, 3) := by decide +kernel
theorem dX12_areAlike_34 : decode cX12_areAlike 34 = .ok (.bipush 6, 2) := by decide +kernel
theorem dX12_areAlike_36 : decode cX12_areAlike 36 = .ok (.iload_n 2, 1) := by decide +kernel
theorem dX12_areAlike_37 : decode cX12_areAlike 37 = .ok (.imul, 1) := by decide +kernel
theorem dX12_areAlike_38 : decode cX12_areAlike 38 = .ok (.iload 4, 2) := by decide +kernel
theorem dX12_areAlike_40 : decode cX12_areAlike 40 = .ok (.iadd, 1) := by decide +kernel
theorem dX12_areAlike_41 : decode cX12_areAlike 41 = .ok (.iaload, 1) := by decide +kernel
theorem dX12_areAlike_42 : decode cX12_areAlike 42 = .ok (.if_icmp .ne 7, 3) := by decide +kernel
theorem dX12_areAlike_45 : decode cX12_areAlike 45 = .ok (.iconst 1, 1) := by decide +kernel
theorem dX12_areAlike_46 : decode cX12_areAlike 46 = .ok (.goto 4, 3) := by decide +kernel
theorem dX12_areAlike_49 : decode cX12_areAlike 49 = .ok (.iconst 0, 1) := by decide +kernel
theorem dX12_areAlike_50 : decode cX12_areAlike 50 = .ok (.istore_n 3, 1) := by decide +kernel
theorem dX12_areAlike_51 : decode cX12_areAlike 51 = .ok (.iinc 4 1, 3) := by decide +kernel
theorem dX12_areAlike_54 : decode cX12_areAlike 54 = .ok (.goto (-49), 3) := by decide +kernel
theorem dX12_areAlike_57 : decode cX12_areAlike 57 = .ok (.iload_n 3, 1) := by decide +kernel
theorem dX12_areAlike_58 : decode cX12_areAlike 58 = .ok (.ireturn, 1) := by decide +kernel
theorem dX12_turns_0 : decode cX12_turns 0 = .ok (.aload_n 0, 1) := by decide +kernel
theorem dX12_turns_1 : decode cX12_turns 1 = .ok (.invokevirtual 190, 3) := by decide +kernel
theorem dX12_turns_4 : decode cX12_turns 4 = .ok (.aload_n 0, 1) := by decide +kernel
theorem dX12_turns_5 : decode cX12_turns 5 = .ok (.iconst 0, 1) := by decide +kernel
theorem dX12_turns_6 : decode cX12_turns 6 = .ok (.invokevirtual 254, 3) := by decide +kernel
theorem dX12_turns_9 : decode cX12_turns 9 = .ok (.aload_n 0, 1) := by decide +kernel
theorem dX12_turns_10 : decode cX12_turns 10 = .ok (.iconst (-1), 1) := by decide +kernel
theorem dX12_turns_11 : decode cX12_turns 11 = .ok (.putfield 257, 3) := by decide +kernel
theorem dX12_turns_14 : decode cX12_turns 14 = .ok (.aload_n 0, 1) := by decide +kernel
theorem dX12_turns_15 : decode cX12_turns 15 = .ok (.iconst 1, 1) := by decide +kernel
theorem dX12_turns_16 : decode cX12_turns 16 = .ok (.putfield 260, 3) := by decide +kernel
theorem dX12_turns_19 : decode cX12_turns 19 = .ok (.aload_n 0, 1) := by decide +kernel
theorem dX12_turns_20 : decode cX12_turns 20 = .ok (.getfield 260, 3) := by decide +kernel
theorem dX12_turns_23 : decode cX12_turns 23 = .ok (.bipush 100, 2) := by decide +kernel
theorem dX12_turns_25 : decode cX12_turns 25 = .ok (.if_icmp .gt 184, 3) := by decide +kernel
theorem dX12_turns_28 : decode cX12_turns 28 = .ok (.iconst 0, 1) := by decide +kernel
theorem dX12_turns_29 : decode cX12_turns 29 = .ok (.istore_n 1, 1) := by decide +kernel
theorem dX12_turns_30 : decode cX12_turns 30 = .ok (.iload_n 1, 1) := by decide +kernel
theorem dX12_turns_31 : decode cX12_turns 31 = .ok (.iconst 5, 1) := by decide +kernel
theorem dX12_turns_32 : decode cX12_turns 32 = .ok (.if_icmp .ge 25, 3) := by decide +kernel
theorem dX12_turns_35 : decode cX12_turns 35 = .ok (.aload_n 0, 1) := by decide +kernel
theorem dX12_turns_36 : decode cX12_turns 36 = .ok (.getfield 71, 3) := by decide +kernel
theorem dX12_turns_39 : decode cX12_turns 39 = .ok (.iconst 5, 1) := by decide +kernel
theorem dX12_turns_40 : decode cX12_turns 40 = .ok (.aload_n 0, 1) := by decide +kernel
theorem dX12_turns_41 : decode cX12_turns 41 = .ok (.getfield 260, 3) := by decide +kernel
theorem dX12_turns_44 : decode cX12_turns 44 = .ok (.iconst 1, 1) := by decide +kernel
theorem dX12_turns_45 : decode cX12_turns 45 = .ok (.isub, 1) := by decide +kernel
theorem dX12_turns_46 : decode cX12_turns 46 = .ok (.imul, 1) := by decide +kernel
theorem dX12_turns_47 : decode cX12_turns 47 = .ok (.iload_n 1, 1) := by decide +kernel
theorem dX12_turns_48 : decode cX12_turns 48 = .ok (.iadd, 1) := by decide +kernel
theorem dX12_turns_49 : decode cX12_turns 49 = .ok (.iconst 0, 1) := by decide +kernel
theorem dX12_turns_50 : decode cX12_turns 50 = .ok (.iastore, 1) := by decide +kernel
theorem dX12_turns_51 : decode cX12_turns 51 = .ok (.iinc 1 1, 3) := by decide +kernel
theorem dX12_turns_54 : decode cX12_turns 54 = .ok (.goto (-24), 3) := by decide +kernel
theorem dX12_turns_57 : decode cX12_turns 57 = .ok (.iconst 0, 1) := by decide +kernel
theorem dX12_turns_58 : decode cX12_turns 58 = .ok (.istore_n 1, 1) := by decide +kernel
theorem dX12_turns_59 : decode cX12_turns 59 = .ok (.iload_n 1, 1) := by decide +kernel
theorem dX12_turns_60 : decode cX12_turns 60 = .ok (.aload_n 0, 1) := by decide +kernel
theorem dX12_turns_61 : decode cX12_turns 61 = .ok (.getfield 158, 3) := by decide +kernel
theorem dX12_turns_64 : decode cX12_turns 64 = .ok (.if_icmp .ge 85, 3) := by decide +kernel
theorem dX12_turns_67 : decode cX12_turns 67 = .ok (.iconst 0, 1) := by decide +kernel
theorem dX12_turns_68 : decode cX12_turns 68 = .ok (.istore_n 2, 1) := by decide +kernel
theorem dX12_turns_69 : decode cX12_turns 69 = .ok (.iload_n 2, 1) := by decide +kernel
theorem dX12_turns_70 : decode cX12_turns 70 = .ok (.aload_n 0, 1) := by decide +kernel
theorem dX12_turns_71 : decode cX12_turns 71 = .ok (.getfield 152, 3) := by decide +kernel
theorem dX12_turns_74 : decode cX12_turns 74 = .ok (.if_icmp .ge 19, 3) := by decide +kernel
theorem dX12_turns_77 : decode cX12_turns 77 = .ok (.aload_n 0, 1) := by decide +kernel
theorem dX12_turns_78 : decode cX12_turns 78 = .ok (.getfield 53, 3) := by decide +kernel
theorem dX12_turns_81 : decode cX12_turns 81 = .ok (.iconst 4, 1) := by decide +kernel
theorem dX12_turns_82 : decode cX12_turns 82 = .ok (.iload_n 2, 1) := by decide +kernel
theorem dX12_turns_83 : decode cX12_turns 83 = .ok (.iadd, 1) := by decide +kernel
theorem dX12_turns_84 : decode cX12_turns 84 = .ok (.bipush 50, 2) := by decide +kernel
theorem dX12_turns_86 : decode cX12_turns 86 = .ok (.iastore, 1) := by decide +kernel
theorem dX12_turns_87 : decode cX12_turns 87 = .ok (.iinc 2 1, 3) := by decide +kernel
theorem dX12_turns_90 : decode cX12_turns 90 = .ok (.goto (-21), 3) := by decide +kernel
theorem dX12_turns_93 : decode cX12_turns 93 = .ok (.aload_n 0, 1) := by decide +kernel
theorem dX12_turns_94 : decode cX12_turns 94 = .ok (.aload_n 0, 1) := by decide +kernel
theorem dX12_turns_95 : decode cX12_turns 95 = .ok (.getfield 32, 3) := by decide +kernel
theorem dX12_turns_98 : decode cX12_turns 98 = .ok (.iconst 2, 1) := by decide +kernel
theorem dX12_turns_99 : decode cX12_turns 99 = .ok (.iload_n 1, 1) := by decide +kernel
theorem dX12_turns_100 : decode cX12_turns 100 = .ok (.imul, 1) := by decide +kernel
theorem dX12_turns_101 : decode cX12_turns 101 = .ok (.iaload, 1) := by decide +kernel
theorem dX12_turns_102 : decode cX12_turns 102 = .ok (.aload_n 0, 1) := by decide +kernel
theorem dX12_turns_103 : decode cX12_turns 103 = .ok (.getfield 32, 3) := by decide +kernel
theorem dX12_turns_106 : decode cX12_turns 106 = .ok (.iconst 2, 1) := by decide +kernel
theorem dX12_turns_107 : decode cX12_turns 107 = .ok (.iload_n 1, 1) := by decide +kernel
theorem dX12_turns_108 : decode cX12_turns 108 = .ok (.imul, 1) := by decide +kernel
theorem dX12_turns_109 : decode cX12_turns 109 = .ok (.iconst 1, 1) := by decide +kernel
theorem dX12_turns_110 : decode cX12_turns 110 = .ok (.iadd, 1) := by decide +kernel
theorem dX12_turns_111 : decode cX12_turns 111 = .ok (.iaload, 1) := by decide +kernel
theorem dX12_turns_112 : decode cX12_turns 112 = .ok (.invokevirtual 193, 3) := by decide +kernel
theorem dX12_turns_115 : decode cX12_turns 115 = .ok (.aload_n 0, 1) := by decide +kernel
theorem dX12_turns_116 : decode cX12_turns 116 = .ok (.invokevirtual 197, 3) := by decide +kernel
theorem dX12_turns_119 : decode cX12_turns 119 = .ok (.aload_n 0, 1) := by decide +kernel
theorem dX12_turns_120 : decode cX12_turns 120 = .ok (.getfield 71, 3) := by decide +kernel
theorem dX12_turns_123 : decode cX12_turns 123 = .ok (.iconst 5, 1) := by decide +kernel
theorem dX12_turns_124 : decode cX12_turns 124 = .ok (.aload_n 0, 1) := by decide +kernel
theorem dX12_turns_125 : decode cX12_turns 125 = .ok (.getfield 260, 3) := by decide +kernel
theorem dX12_turns_128 : decode cX12_turns 128 = .ok (.iconst 1, 1) := by decide +kernel
theorem dX12_turns_129 : decode cX12_turns 129 = .ok (.isub, 1) := by decide +kernel
theorem dX12_turns_130 : decode cX12_turns 130 = .ok (.imul, 1) := by decide +kernel
theorem dX12_turns_131 : decode cX12_turns 131 = .ok (.aload_n 0, 1) := by decide +kernel
theorem dX12_turns_132 : decode cX12_turns 132 = .ok (.getfield 53, 3) := by decide +kernel
theorem dX12_turns_135 : decode cX12_turns 135 = .ok (.iconst 0, 1) := by decide +kernel
theorem dX12_turns_136 : decode cX12_turns 136 = .ok (.iaload, 1) := by decide +kernel
theorem dX12_turns_137 : decode cX12_turns 137 = .ok (.iadd, 1) := by decide +kernel
theorem dX12_turns_138 : decode cX12_turns 138 = .ok (.dup2, 1) := by decide +kernel
theorem dX12_turns_139 : decode cX12_turns 139 = .ok (.iaload, 1) := by decide +kernel
theorem dX12_turns_140 : decode cX12_turns 140 = .ok (.iconst 1, 1) := by decide +kernel
theorem dX12_turns_141 : decode cX12_turns 141 = .ok (.iadd, 1) := by decide +kernel
theorem dX12_turns_142 : decode cX12_turns 142 = .ok (.iastore, 1) := by decide +kernel
theorem dX12_turns_143 : decode cX12_turns 143 = .ok (.iinc 1 1, 3) := by decide +kernel
theorem dX12_turns_146 : decode cX12_turns 146 = .ok (.goto (-87), 3) := by decide +kernel
theorem dX12_turns_149 : decode cX12_turns 149 = .ok (.aload_n 0, 1) := by decide +kernel
theorem dX12_turns_150 : decode cX12_turns 150 = .ok (.aload_n 0, 1) := by decide +kernel
theorem dX12_turns_151 : decode cX12_turns 151 = .ok (.getfield 260, 3) := by decide +kernel
theorem dX12_turns_154 : decode cX12_turns 154 = .ok (.invokevirtual 254, 3) := by decide +kernel
theorem dX12_turns_157 : decode cX12_turns 157 = .ok (.iconst 0, 1) := by decide +kernel
theorem dX12_turns_158 : decode cX12_turns 158 = .ok (.istore_n 1, 1) := by decide +kernel
theorem dX12_turns_159 : decode cX12_turns 159 = .ok (.iload_n 1, 1) := by decide +kernel
theorem dX12_turns_160 : decode cX12_turns 160 = .ok (.aload_n 0, 1) := by decide +kernel
theorem dX12_turns_161 : decode cX12_turns 161 = .ok (.getfield 260, 3) := by decide +kernel
theorem dX12_turns_164 : decode cX12_turns 164 = .ok (.if_icmp .ge 32, 3) := by decide +kernel
theorem dX12_turns_167 : decode cX12_turns 167 = .ok (.aload_n 0, 1) := by decide +kernel
theorem dX12_turns_168 : decode cX12_turns 168 = .ok (.iload_n 1, 1) := by decide +kernel
theorem dX12_turns_169 : decode cX12_turns 169 = .ok (.aload_n 0, 1) := by decide +kernel
theorem dX12_turns_170 : decode cX12_turns 170 = .ok (.getfield 260, 3) := by decide +kernel
theorem dX12_turns_173 : decode cX12_turns 173 = .ok (.invokevirtual 263, 3) := by decide +kernel
theorem dX12_turns_176 : decode cX12_turns 176 = .ok (.ifCond .eq 14, 3) := by decide +kernel
theorem dX12_turns_179 : decode cX12_turns 179 = .ok (.aload_n 0, 1) := by decide +kernel
theorem dX12_turns_180 : decode cX12_turns 180 = .ok (.aload_n 0, 1) := by decide +kernel
theorem dX12_turns_181 : decode cX12_turns 181 = .ok (.getfield 260, 3) := by decide +kernel
theorem dX12_turns_184 : decode cX12_turns 184 = .ok (.iload_n 1, 1) := by decide +kernel
theorem dX12_turns_185 : decode cX12_turns 185 = .ok (.isub, 1) := by decide +kernel
theorem dX12_turns_186 : decode cX12_turns 186 = .ok (.putfield 257, 3) := by decide +kernel
theorem dX12_turns_189 : decode cX12_turns 189 = .ok (.return_, 1) := by decide +kernel
theorem dX12_turns_190 : decode cX12_turns 190 = .ok (.iinc 1 1, 3) := by decide +kernel
theorem dX12_turns_193 : decode cX12_turns 193 = .ok (.goto (-34), 3) := by decide +kernel
theorem dX12_turns_196 : decode cX12_turns 196 = .ok (.aload_n 0, 1) := by decide +kernel
theorem dX12_turns_197 : decode cX12_turns 197 = .ok (.dup, 1) := by decide +kernel
theorem dX12_turns_198 : decode cX12_turns 198 = .ok (.getfield 260, 3) := by decide +kernel
theorem dX12_turns_201 : decode cX12_turns 201 = .ok (.iconst 1, 1) := by decide +kernel
theorem dX12_turns_202 : decode cX12_turns 202 = .ok (.iadd, 1) := by decide +kernel
theorem dX12_turns_203 : decode cX12_turns 203 = .ok (.putfield 260, 3) := by decide +kernel
theorem dX12_turns_206 : decode cX12_turns 206 = .ok (.goto (-187), 3) := by decide +kernel
theorem dX12_turns_209 : decode cX12_turns 209 = .ok (.return_, 1) := by decide +kernel
theorem dX12_hoursOf_0 : decode cX12_hoursOf 0 = .ok (.iconst 0, 1) := by decide +kernel
theorem dX12_hoursOf_1 : decode cX12_hoursOf 1 = .ok (.istore_n 2, 1) := by decide +kernel
theorem dX12_hoursOf_2 : decode cX12_hoursOf 2 = .ok (.aload_n 0, 1) := by decide +kernel
theorem dX12_hoursOf_3 : decode cX12_hoursOf 3 = .ok (.getfield 260, 3) := by decide +kernel
theorem dX12_hoursOf_6 : decode cX12_hoursOf 6 = .ok (.aload_n 0, 1) := by decide +kernel
theorem dX12_hoursOf_7 : decode cX12_hoursOf 7 = .ok (.getfield 257, 3) := by decide +kernel
theorem dX12_hoursOf_10 : decode cX12_hoursOf 10 = .ok (.isub, 1) := by decide +kernel
theorem dX12_hoursOf_11 : decode cX12_hoursOf 11 = .ok (.istore_n 3, 1) := by decide +kernel
theorem dX12_hoursOf_12 : decode cX12_hoursOf 12 = .ok (.iload_n 3, 1) := by decide +kernel
theorem dX12_hoursOf_13 : decode cX12_hoursOf 13 = .ok (.aload_n 0, 1) := by decide +kernel
theorem dX12_hoursOf_14 : decode cX12_hoursOf 14 = .ok (.getfield 260, 3) := by decide +kernel
theorem dX12_hoursOf_17 : decode cX12_hoursOf 17 = .ok (.if_icmp .ge 22, 3) := by decide +kernel
theorem dX12_hoursOf_20 : decode cX12_hoursOf 20 = .ok (.iload_n 2, 1) := by decide +kernel
theorem dX12_hoursOf_21 : decode cX12_hoursOf 21 = .ok (.aload_n 0, 1) := by decide +kernel
theorem dX12_hoursOf_22 : decode cX12_hoursOf 22 = .ok (.getfield 71, 3) := by decide +kernel
theorem dX12_hoursOf_25 : decode cX12_hoursOf 25 = .ok (.iconst 5, 1) := by decide +kernel
theorem dX12_hoursOf_26 : decode cX12_hoursOf 26 = .ok (.iload_n 3, 1) := by decide +kernel
theorem dX12_hoursOf_27 : decode cX12_hoursOf 27 = .ok (.imul, 1) := by decide +kernel
theorem dX12_hoursOf_28 : decode cX12_hoursOf 28 = .ok (.iload_n 1, 1) := by decide +kernel
theorem dX12_hoursOf_29 : decode cX12_hoursOf 29 = .ok (.iadd, 1) := by decide +kernel
theorem dX12_hoursOf_30 : decode cX12_hoursOf 30 = .ok (.iaload, 1) := by decide +kernel
theorem dX12_hoursOf_31 : decode cX12_hoursOf 31 = .ok (.iadd, 1) := by decide +kernel
theorem dX12_hoursOf_32 : decode cX12_hoursOf 32 = .ok (.istore_n 2, 1) := by decide +kernel
theorem dX12_hoursOf_33 : decode cX12_hoursOf 33 = .ok (.iinc 3 1, 3) := by decide +kernel
theorem dX12_hoursOf_36 : decode cX12_hoursOf 36 = .ok (.goto (-24), 3) := by decide +kernel
theorem dX12_hoursOf_39 : decode cX12_hoursOf 39 = .ok (.iload_n 2, 1) := by decide +kernel
theorem dX12_hoursOf_40 : decode cX12_hoursOf 40 = .ok (.ireturn, 1) := by decide +kernel
theorem dX12_forEver_0 : decode cX12_forEver 0 = .ok (.iload_n 1, 1) := by decide +kernel
theorem dX12_forEver_1 : decode cX12_forEver 1 = .ok (.iconst (-1), 1) := by decide +kernel
theorem dX12_forEver_2 : decode cX12_forEver 2 = .ok (.if_icmp .eq 14, 3) := by decide +kernel
theorem dX12_forEver_5 : decode cX12_forEver 5 = .ok (.aload_n 0, 1) := by decide +kernel
theorem dX12_forEver_6 : decode cX12_forEver 6 = .ok (.iload_n 1, 1) := by decide +kernel
theorem dX12_forEver_7 : decode cX12_forEver 7 = .ok (.invokevirtual 168, 3) := by decide +kernel
theorem dX12_forEver_10 : decode cX12_forEver 10 = .ok (.ifCond .ne 6, 3) := by decide +kernel
theorem dX12_forEver_13 : decode cX12_forEver 13 = .ok (.ldc 171, 2) := by decide +kernel
theorem dX12_forEver_15 : decode cX12_forEver 15 = .ok (.ireturn, 1) := by decide +kernel
theorem dX12_forEver_16 : decode cX12_forEver 16 = .ok (.aload_n 0, 1) := by decide +kernel
theorem dX12_forEver_17 : decode cX12_forEver 17 = .ok (.getfield 152, 3) := by decide +kernel
theorem dX12_forEver_20 : decode cX12_forEver 20 = .ok (.ifCond .ne 6, 3) := by decide +kernel
theorem dX12_forEver_23 : decode cX12_forEver 23 = .ok (.ldc 200, 2) := by decide +kernel
theorem dX12_forEver_25 : decode cX12_forEver 25 = .ok (.ireturn, 1) := by decide +kernel
theorem dX12_forEver_26 : decode cX12_forEver 26 = .ok (.aload_n 0, 1) := by decide +kernel
theorem dX12_forEver_27 : decode cX12_forEver 27 = .ok (.getfield 158, 3) := by decide +kernel
theorem dX12_forEver_30 : decode cX12_forEver 30 = .ok (.ifCond .ne 5, 3) := by decide +kernel
theorem dX12_forEver_33 : decode cX12_forEver 33 = .ok (.iconst (-1), 1) := by decide +kernel
theorem dX12_forEver_34 : decode cX12_forEver 34 = .ok (.ireturn, 1) := by decide +kernel
theorem dX12_forEver_35 : decode cX12_forEver 35 = .ok (.aload_n 0, 1) := by decide +kernel
theorem dX12_forEver_36 : decode cX12_forEver 36 = .ok (.invokevirtual 266, 3) := by decide +kernel
theorem dX12_forEver_39 : decode cX12_forEver 39 = .ok (.iload_n 1, 1) := by decide +kernel
theorem dX12_forEver_40 : decode cX12_forEver 40 = .ok (.iconst (-1), 1) := by decide +kernel
theorem dX12_forEver_41 : decode cX12_forEver 41 = .ok (.if_icmp .eq 11, 3) := by decide +kernel
theorem dX12_forEver_44 : decode cX12_forEver 44 = .ok (.aload_n 0, 1) := by decide +kernel
theorem dX12_forEver_45 : decode cX12_forEver 45 = .ok (.getfield 257, 3) := by decide +kernel
theorem dX12_forEver_48 : decode cX12_forEver 48 = .ok (.iconst (-1), 1) := by decide +kernel
theorem dX12_forEver_49 : decode cX12_forEver 49 = .ok (.if_icmp .ne 10, 3) := by decide +kernel
theorem dX12_forEver_52 : decode cX12_forEver 52 = .ok (.aload_n 0, 1) := by decide +kernel
theorem dX12_forEver_53 : decode cX12_forEver 53 = .ok (.getfield 257, 3) := by decide +kernel
theorem dX12_forEver_56 : decode cX12_forEver 56 = .ok (.goto 8, 3) := by decide +kernel
theorem dX12_forEver_59 : decode cX12_forEver 59 = .ok (.aload_n 0, 1) := by decide +kernel
theorem dX12_forEver_60 : decode cX12_forEver 60 = .ok (.iload_n 1, 1) := by decide +kernel
theorem dX12_forEver_61 : decode cX12_forEver 61 = .ok (.invokevirtual 269, 3) := by decide +kernel
theorem dX12_forEver_64 : decode cX12_forEver 64 = .ok (.ireturn, 1) := by decide +kernel
theorem dX12_fair_0 : decode cX12_fair 0 = .ok (.aload_n 0, 1) := by decide +kernel
theorem dX12_fair_1 : decode cX12_fair 1 = .ok (.getfield 152, 3) := by decide +kernel
theorem dX12_fair_4 : decode cX12_fair 4 = .ok (.ifCond .ne 6, 3) := by decide +kernel
theorem dX12_fair_7 : decode cX12_fair 7 = .ok (.ldc 200, 2) := by decide +kernel
theorem dX12_fair_9 : decode cX12_fair 9 = .ok (.ireturn, 1) := by decide +kernel
theorem dX12_fair_10 : decode cX12_fair 10 = .ok (.aload_n 0, 1) := by decide +kernel
theorem dX12_fair_11 : decode cX12_fair 11 = .ok (.getfield 158, 3) := by decide +kernel
theorem dX12_fair_14 : decode cX12_fair 14 = .ok (.ifCond .ne 5, 3) := by decide +kernel
theorem dX12_fair_17 : decode cX12_fair 17 = .ok (.iconst (-1), 1) := by decide +kernel
theorem dX12_fair_18 : decode cX12_fair 18 = .ok (.ireturn, 1) := by decide +kernel
theorem dX12_fair_19 : decode cX12_fair 19 = .ok (.aload_n 0, 1) := by decide +kernel
theorem dX12_fair_20 : decode cX12_fair 20 = .ok (.invokevirtual 266, 3) := by decide +kernel
theorem dX12_fair_23 : decode cX12_fair 23 = .ok (.aload_n 0, 1) := by decide +kernel
theorem dX12_fair_24 : decode cX12_fair 24 = .ok (.getfield 257, 3) := by decide +kernel
theorem dX12_fair_27 : decode cX12_fair 27 = .ok (.iconst (-1), 1) := by decide +kernel
theorem dX12_fair_28 : decode cX12_fair 28 = .ok (.if_icmp .ne 5, 3) := by decide +kernel
theorem dX12_fair_31 : decode cX12_fair 31 = .ok (.iconst (-1), 1) := by decide +kernel
theorem dX12_fair_32 : decode cX12_fair 32 = .ok (.ireturn, 1) := by decide +kernel
theorem dX12_fair_33 : decode cX12_fair 33 = .ok (.iconst 0, 1) := by decide +kernel
theorem dX12_fair_34 : decode cX12_fair 34 = .ok (.istore_n 1, 1) := by decide +kernel
theorem dX12_fair_35 : decode cX12_fair 35 = .ok (.ldc 119, 2) := by decide +kernel
theorem dX12_fair_37 : decode cX12_fair 37 = .ok (.istore_n 2, 1) := by decide +kernel
theorem dX12_fair_38 : decode cX12_fair 38 = .ok (.iconst 0, 1) := by decide +kernel
theorem dX12_fair_39 : decode cX12_fair 39 = .ok (.istore_n 3, 1) := by decide +kernel
theorem dX12_fair_40 : decode cX12_fair 40 = .ok (.iload_n 3, 1) := by decide +kernel
theorem dX12_fair_41 : decode cX12_fair 41 = .ok (.aload_n 0, 1) := by decide +kernel
theorem dX12_fair_42 : decode cX12_fair 42 = .ok (.getfield 152, 3) := by decide +kernel
theorem dX12_fair_45 : decode cX12_fair 45 = .ok (.if_icmp .ge 29, 3) := by decide +kernel
theorem dX12_fair_48 : decode cX12_fair 48 = .ok (.iload_n 1, 1) := by decide +kernel
theorem dX12_fair_49 : decode cX12_fair 49 = .ok (.aload_n 0, 1) := by decide +kernel
theorem dX12_fair_50 : decode cX12_fair 50 = .ok (.iload_n 3, 1) := by decide +kernel
theorem dX12_fair_51 : decode cX12_fair 51 = .ok (.invokevirtual 269, 3) := by decide +kernel
theorem dX12_fair_54 : decode cX12_fair 54 = .ok (.invokestatic 184, 3) := by decide +kernel
theorem dX12_fair_57 : decode cX12_fair 57 = .ok (.istore_n 1, 1) := by decide +kernel
theorem dX12_fair_58 : decode cX12_fair 58 = .ok (.iload_n 2, 1) := by decide +kernel
theorem dX12_fair_59 : decode cX12_fair 59 = .ok (.aload_n 0, 1) := by decide +kernel
theorem dX12_fair_60 : decode cX12_fair 60 = .ok (.iload_n 3, 1) := by decide +kernel
theorem dX12_fair_61 : decode cX12_fair 61 = .ok (.invokevirtual 269, 3) := by decide +kernel
theorem dX12_fair_64 : decode cX12_fair 64 = .ok (.invokestatic 181, 3) := by decide +kernel
theorem dX12_fair_67 : decode cX12_fair 67 = .ok (.istore_n 2, 1) := by decide +kernel
theorem dX12_fair_68 : decode cX12_fair 68 = .ok (.iinc 3 1, 3) := by decide +kernel
theorem dX12_fair_71 : decode cX12_fair 71 = .ok (.goto (-31), 3) := by decide +kernel
theorem dX12_fair_74 : decode cX12_fair 74 = .ok (.iload_n 1, 1) := by decide +kernel
theorem dX12_fair_75 : decode cX12_fair 75 = .ok (.iload_n 2, 1) := by decide +kernel
theorem dX12_fair_76 : decode cX12_fair 76 = .ok (.isub, 1) := by decide +kernel
theorem dX12_fair_77 : decode cX12_fair 77 = .ok (.ireturn, 1) := by decide +kernel
theorem dX12_left_0 : decode cX12_left 0 = .ok (.aload_n 0, 1) := by decide +kernel
theorem dX12_left_1 : decode cX12_left 1 = .ok (.iload_n 1, 1) := by decide +kernel
theorem dX12_left_2 : decode cX12_left 2 = .ok (.invokevirtual 168, 3) := by decide +kernel
theorem dX12_left_5 : decode cX12_left 5 = .ok (.ifCond .ne 6, 3) := by decide +kernel
theorem dX12_left_8 : decode cX12_left 8 = .ok (.ldc 171, 2) := by decide +kernel
theorem dX12_left_10 : decode cX12_left 10 = .ok (.ireturn, 1) := by decide +kernel
theorem dX12_left_11 : decode cX12_left 11 = .ok (.aload_n 0, 1) := by decide +kernel
theorem dX12_left_12 : decode cX12_left 12 = .ok (.invokevirtual 190, 3) := by decide +kernel
theorem dX12_left_15 : decode cX12_left 15 = .ok (.iconst 0, 1) := by decide +kernel
theorem dX12_left_16 : decode cX12_left 16 = .ok (.istore_n 3, 1) := by decide +kernel
theorem dX12_left_17 : decode cX12_left 17 = .ok (.iconst (-1), 1) := by decide +kernel
theorem dX12_left_18 : decode cX12_left 18 = .ok (.istore 4, 2) := by decide +kernel
theorem dX12_left_20 : decode cX12_left 20 = .ok (.iconst 0, 1) := by decide +kernel
theorem dX12_left_21 : decode cX12_left 21 = .ok (.istore 5, 2) := by decide +kernel
theorem dX12_left_23 : decode cX12_left 23 = .ok (.iload 5, 2) := by decide +kernel
theorem dX12_left_25 : decode cX12_left 25 = .ok (.bipush 6, 2) := by decide +kernel
theorem dX12_left_27 : decode cX12_left 27 = .ok (.if_icmp .ge 70, 3) := by decide +kernel
theorem dX12_left_30 : decode cX12_left 30 = .ok (.iconst 0, 1) := by decide +kernel
theorem dX12_left_31 : decode cX12_left 31 = .ok (.istore 6, 2) := by decide +kernel
theorem dX12_left_33 : decode cX12_left 33 = .ok (.iload 6, 2) := by decide +kernel
theorem dX12_left_35 : decode cX12_left 35 = .ok (.aload_n 0, 1) := by decide +kernel
theorem dX12_left_36 : decode cX12_left 36 = .ok (.getfield 152, 3) := by decide +kernel
theorem dX12_left_39 : decode cX12_left 39 = .ok (.if_icmp .ge 52, 3) := by decide +kernel
theorem dX12_left_42 : decode cX12_left 42 = .ok (.aload_n 0, 1) := by decide +kernel
theorem dX12_left_43 : decode cX12_left 43 = .ok (.aload_n 0, 1) := by decide +kernel
theorem dX12_left_44 : decode cX12_left 44 = .ok (.getfield 53, 3) := by decide +kernel
theorem dX12_left_47 : decode cX12_left 47 = .ok (.bipush 14, 2) := by decide +kernel
theorem dX12_left_49 : decode cX12_left 49 = .ok (.iload 5, 2) := by decide +kernel
theorem dX12_left_51 : decode cX12_left 51 = .ok (.iadd, 1) := by decide +kernel
theorem dX12_left_52 : decode cX12_left 52 = .ok (.iaload, 1) := by decide +kernel
theorem dX12_left_53 : decode cX12_left 53 = .ok (.iload 6, 2) := by decide +kernel
theorem dX12_left_55 : decode cX12_left 55 = .ok (.invokevirtual 177, 3) := by decide +kernel
theorem dX12_left_58 : decode cX12_left 58 = .ok (.iload_n 1, 1) := by decide +kernel
theorem dX12_left_59 : decode cX12_left 59 = .ok (.if_icmp .ne 26, 3) := by decide +kernel
theorem dX12_left_62 : decode cX12_left 62 = .ok (.iload_n 3, 1) := by decide +kernel
theorem dX12_left_63 : decode cX12_left 63 = .ok (.iload_n 2, 1) := by decide +kernel
theorem dX12_left_64 : decode cX12_left 64 = .ok (.if_icmp .ne 14, 3) := by decide +kernel
theorem dX12_left_67 : decode cX12_left 67 = .ok (.bipush 10, 2) := by decide +kernel
theorem dX12_left_69 : decode cX12_left 69 = .ok (.iload 5, 2) := by decide +kernel
theorem dX12_left_71 : decode cX12_left 71 = .ok (.imul, 1) := by decide +kernel
theorem dX12_left_72 : decode cX12_left 72 = .ok (.iload 6, 2) := by decide +kernel
theorem dX12_left_74 : decode cX12_left 74 = .ok (.iadd, 1) := by decide +kernel
theorem dX12_left_75 : decode cX12_left 75 = .ok (.goto 5, 3) := by decide +kernel
theorem dX12_left_78 : decode cX12_left 78 = .ok (.iload 4, 2) := by decide +kernel
theorem dX12_left_80 : decode cX12_left 80 = .ok (.istore 4, 2) := by decide +kernel
theorem dX12_left_82 : decode cX12_left 82 = .ok (.iinc 3 1, 3) := by decide +kernel
theorem dX12_left_85 : decode cX12_left 85 = .ok (.iinc 6 1, 3) := by decide +kernel
theorem dX12_left_88 : decode cX12_left 88 = .ok (.goto (-55), 3) := by decide +kernel
theorem dX12_left_91 : decode cX12_left 91 = .ok (.iinc 5 1, 3) := by decide +kernel
theorem dX12_left_94 : decode cX12_left 94 = .ok (.goto (-71), 3) := by decide +kernel
theorem dX12_left_97 : decode cX12_left 97 = .ok (.iload_n 2, 1) := by decide +kernel
theorem dX12_left_98 : decode cX12_left 98 = .ok (.iconst (-1), 1) := by decide +kernel
theorem dX12_left_99 : decode cX12_left 99 = .ok (.if_icmp .ne 7, 3) := by decide +kernel
theorem dX12_left_102 : decode cX12_left 102 = .ok (.iload_n 3, 1) := by decide +kernel
theorem dX12_left_103 : decode cX12_left 103 = .ok (.goto 5, 3) := by decide +kernel
theorem dX12_left_106 : decode cX12_left 106 = .ok (.iload 4, 2) := by decide +kernel
theorem dX12_left_108 : decode cX12_left 108 = .ok (.ireturn, 1) := by decide +kernel
theorem dX12_doers_0 : decode cX12_doers 0 = .ok (.aload_n 0, 1) := by decide +kernel
theorem dX12_doers_1 : decode cX12_doers 1 = .ok (.iload_n 1, 1) := by decide +kernel
theorem dX12_doers_2 : decode cX12_doers 2 = .ok (.invokevirtual 168, 3) := by decide +kernel
theorem dX12_doers_5 : decode cX12_doers 5 = .ok (.ifCond .ne 6, 3) := by decide +kernel
theorem dX12_doers_8 : decode cX12_doers 8 = .ok (.ldc 171, 2) := by decide +kernel
theorem dX12_doers_10 : decode cX12_doers 10 = .ok (.ireturn, 1) := by decide +kernel
theorem dX12_doers_11 : decode cX12_doers 11 = .ok (.aload_n 0, 1) := by decide +kernel
theorem dX12_doers_12 : decode cX12_doers 12 = .ok (.invokevirtual 190, 3) := by decide +kernel
theorem dX12_doers_15 : decode cX12_doers 15 = .ok (.iconst 0, 1) := by decide +kernel
theorem dX12_doers_16 : decode cX12_doers 16 = .ok (.istore_n 2, 1) := by decide +kernel
theorem dX12_doers_17 : decode cX12_doers 17 = .ok (.iconst 0, 1) := by decide +kernel
theorem dX12_doers_18 : decode cX12_doers 18 = .ok (.istore_n 3, 1) := by decide +kernel
theorem dX12_doers_19 : decode cX12_doers 19 = .ok (.iload_n 3, 1) := by decide +kernel
theorem dX12_doers_20 : decode cX12_doers 20 = .ok (.bipush 6, 2) := by decide +kernel
theorem dX12_doers_22 : decode cX12_doers 22 = .ok (.if_icmp .ge 57, 3) := by decide +kernel
theorem dX12_doers_25 : decode cX12_doers 25 = .ok (.iconst 0, 1) := by decide +kernel
theorem dX12_doers_26 : decode cX12_doers 26 = .ok (.istore 4, 2) := by decide +kernel
theorem dX12_doers_28 : decode cX12_doers 28 = .ok (.iload 4, 2) := by decide +kernel
theorem dX12_doers_30 : decode cX12_doers 30 = .ok (.aload_n 0, 1) := by decide +kernel
theorem dX12_doers_31 : decode cX12_doers 31 = .ok (.getfield 152, 3) := by decide +kernel
theorem dX12_doers_34 : decode cX12_doers 34 = .ok (.if_icmp .ge 39, 3) := by decide +kernel
theorem dX12_doers_37 : decode cX12_doers 37 = .ok (.iload_n 2, 1) := by decide +kernel
theorem dX12_doers_38 : decode cX12_doers 38 = .ok (.aload_n 0, 1) := by decide +kernel
theorem dX12_doers_39 : decode cX12_doers 39 = .ok (.aload_n 0, 1) := by decide +kernel
theorem dX12_doers_40 : decode cX12_doers 40 = .ok (.getfield 53, 3) := by decide +kernel
theorem dX12_doers_43 : decode cX12_doers 43 = .ok (.bipush 14, 2) := by decide +kernel
theorem dX12_doers_45 : decode cX12_doers 45 = .ok (.iload_n 3, 1) := by decide +kernel
theorem dX12_doers_46 : decode cX12_doers 46 = .ok (.iadd, 1) := by decide +kernel
theorem dX12_doers_47 : decode cX12_doers 47 = .ok (.iaload, 1) := by decide +kernel
theorem dX12_doers_48 : decode cX12_doers 48 = .ok (.iload 4, 2) := by decide +kernel
theorem dX12_doers_50 : decode cX12_doers 50 = .ok (.invokevirtual 177, 3) := by decide +kernel
theorem dX12_doers_53 : decode cX12_doers 53 = .ok (.iload_n 1, 1) := by decide +kernel
theorem dX12_doers_54 : decode cX12_doers 54 = .ok (.if_icmp .ne 10, 3) := by decide +kernel
theorem dX12_doers_57 : decode cX12_doers 57 = .ok (.iconst 1, 1) := by decide +kernel
theorem dX12_doers_58 : decode cX12_doers 58 = .ok (.iload 4, 2) := by decide +kernel
theorem dX12_doers_60 : decode cX12_doers 60 = .ok (.ishl, 1) := by decide +kernel
theorem dX12_doers_61 : decode cX12_doers 61 = .ok (.goto 4, 3) := by decide +kernel
theorem dX12_doers_64 : decode cX12_doers 64 = .ok (.iconst 0, 1) := by decide +kernel
theorem dX12_doers_65 : decode cX12_doers 65 = .ok (.ior, 1) := by decide +kernel
theorem dX12_doers_66 : decode cX12_doers 66 = .ok (.istore_n 2, 1) := by decide +kernel
theorem dX12_doers_67 : decode cX12_doers 67 = .ok (.iinc 4 1, 3) := by decide +kernel
theorem dX12_doers_70 : decode cX12_doers 70 = .ok (.goto (-42), 3) := by decide +kernel
theorem dX12_doers_73 : decode cX12_doers 73 = .ok (.iinc 3 1, 3) := by decide +kernel
theorem dX12_doers_76 : decode cX12_doers 76 = .ok (.goto (-57), 3) := by decide +kernel
theorem dX12_doers_79 : decode cX12_doers 79 = .ok (.iload_n 2, 1) := by decide +kernel
theorem dX12_doers_80 : decode cX12_doers 80 = .ok (.ireturn, 1) := by decide +kernel
theorem dX12_chair_0 : decode cX12_chair 0 = .ok (.aload_n 0, 1) := by decide +kernel
theorem dX12_chair_1 : decode cX12_chair 1 = .ok (.iload_n 1, 1) := by decide +kernel
theorem dX12_chair_2 : decode cX12_chair 2 = .ok (.invokevirtual 168, 3) := by decide +kernel
theorem dX12_chair_5 : decode cX12_chair 5 = .ok (.ifCond .ne 6, 3) := by decide +kernel
theorem dX12_chair_8 : decode cX12_chair 8 = .ok (.ldc 171, 2) := by decide +kernel
theorem dX12_chair_10 : decode cX12_chair 10 = .ok (.ireturn, 1) := by decide +kernel
theorem dX12_chair_11 : decode cX12_chair 11 = .ok (.aload_n 0, 1) := by decide +kernel
theorem dX12_chair_12 : decode cX12_chair 12 = .ok (.getfield 16, 3) := by decide +kernel
theorem dX12_chair_15 : decode cX12_chair 15 = .ok (.iconst 4, 1) := by decide +kernel
theorem dX12_chair_16 : decode cX12_chair 16 = .ok (.iload_n 1, 1) := by decide +kernel
theorem dX12_chair_17 : decode cX12_chair 17 = .ok (.iadd, 1) := by decide +kernel
theorem dX12_chair_18 : decode cX12_chair 18 = .ok (.iaload, 1) := by decide +kernel
theorem dX12_chair_19 : decode cX12_chair 19 = .ok (.istore_n 2, 1) := by decide +kernel
theorem dX12_chair_20 : decode cX12_chair 20 = .ok (.iload_n 2, 1) := by decide +kernel
theorem dX12_chair_21 : decode cX12_chair 21 = .ok (.ifCond .ne 7, 3) := by decide +kernel
theorem dX12_chair_24 : decode cX12_chair 24 = .ok (.iconst 0, 1) := by decide +kernel
theorem dX12_chair_25 : decode cX12_chair 25 = .ok (.goto 33, 3) := by decide +kernel
theorem dX12_chair_28 : decode cX12_chair 28 = .ok (.aload_n 0, 1) := by decide +kernel
theorem dX12_chair_29 : decode cX12_chair 29 = .ok (.getfield 7, 3) := by decide +kernel
theorem dX12_chair_32 : decode cX12_chair 32 = .ok (.iload_n 1, 1) := by decide +kernel
theorem dX12_chair_33 : decode cX12_chair 33 = .ok (.iaload, 1) := by decide +kernel
theorem dX12_chair_34 : decode cX12_chair 34 = .ok (.ifCond .ne 7, 3) := by decide +kernel
theorem dX12_chair_37 : decode cX12_chair 37 = .ok (.iconst (-1), 1) := by decide +kernel
theorem dX12_chair_38 : decode cX12_chair 38 = .ok (.goto 20, 3) := by decide +kernel
theorem dX12_chair_41 : decode cX12_chair 41 = .ok (.iload_n 2, 1) := by decide +kernel
theorem dX12_chair_42 : decode cX12_chair 42 = .ok (.aload_n 0, 1) := by decide +kernel
theorem dX12_chair_43 : decode cX12_chair 43 = .ok (.getfield 7, 3) := by decide +kernel
theorem dX12_chair_46 : decode cX12_chair 46 = .ok (.iload_n 1, 1) := by decide +kernel
theorem dX12_chair_47 : decode cX12_chair 47 = .ok (.iaload, 1) := by decide +kernel
theorem dX12_chair_48 : decode cX12_chair 48 = .ok (.iadd, 1) := by decide +kernel
theorem dX12_chair_49 : decode cX12_chair 49 = .ok (.iconst 1, 1) := by decide +kernel
theorem dX12_chair_50 : decode cX12_chair 50 = .ok (.isub, 1) := by decide +kernel
theorem dX12_chair_51 : decode cX12_chair 51 = .ok (.aload_n 0, 1) := by decide +kernel
theorem dX12_chair_52 : decode cX12_chair 52 = .ok (.getfield 7, 3) := by decide +kernel
theorem dX12_chair_55 : decode cX12_chair 55 = .ok (.iload_n 1, 1) := by decide +kernel
theorem dX12_chair_56 : decode cX12_chair 56 = .ok (.iaload, 1) := by decide +kernel
theorem dX12_chair_57 : decode cX12_chair 57 = .ok (.idiv, 1) := by decide +kernel
theorem dX12_chair_58 : decode cX12_chair 58 = .ok (.ireturn, 1) := by decide +kernel
theorem dX12_note_0 : decode cX12_note 0 = .ok (.iload_n 1, 1) := by decide +kernel
theorem dX12_note_1 : decode cX12_note 1 = .ok (.invokestatic 174, 3) := by decide +kernel
theorem dX12_note_4 : decode cX12_note 4 = .ok (.ifCond .eq 28, 3) := by decide +kernel
theorem dX12_note_7 : decode cX12_note 7 = .ok (.aload_n 0, 1) := by decide +kernel
theorem dX12_note_8 : decode cX12_note 8 = .ok (.iload_n 2, 1) := by decide +kernel
theorem dX12_note_9 : decode cX12_note 9 = .ok (.invokevirtual 168, 3) := by decide +kernel
theorem dX12_note_12 : decode cX12_note 12 = .ok (.ifCond .eq 20, 3) := by decide +kernel
theorem dX12_note_15 : decode cX12_note 15 = .ok (.aload_n 0, 1) := by decide +kernel
theorem dX12_note_16 : decode cX12_note 16 = .ok (.iload_n 3, 1) := by decide +kernel
theorem dX12_note_17 : decode cX12_note 17 = .ok (.invokevirtual 168, 3) := by decide +kernel
theorem dX12_note_20 : decode cX12_note 20 = .ok (.ifCond .eq 12, 3) := by decide +kernel
theorem dX12_note_23 : decode cX12_note 23 = .ok (.aload_n 0, 1) := by decide +kernel
theorem dX12_note_24 : decode cX12_note 24 = .ok (.iload 4, 2) := by decide +kernel
theorem dX12_note_26 : decode cX12_note 26 = .ok (.invokevirtual 168, 3) := by decide +kernel
theorem dX12_note_29 : decode cX12_note 29 = .ok (.ifCond .ne 6, 3) := by decide +kernel
theorem dX12_note_32 : decode cX12_note 32 = .ok (.ldc 171, 2) := by decide +kernel
theorem dX12_note_34 : decode cX12_note 34 = .ok (.ireturn, 1) := by decide +kernel
theorem dX12_note_35 : decode cX12_note 35 = .ok (.aload_n 0, 1) := by decide +kernel
theorem dX12_note_36 : decode cX12_note 36 = .ok (.getfield 155, 3) := by decide +kernel
theorem dX12_note_39 : decode cX12_note 39 = .ok (.bipush 12, 2) := by decide +kernel
theorem dX12_note_41 : decode cX12_note 41 = .ok (.if_icmp .ne 6, 3) := by decide +kernel
theorem dX12_note_44 : decode cX12_note 44 = .ok (.ldc 94, 2) := by decide +kernel
theorem dX12_note_46 : decode cX12_note 46 = .ok (.ireturn, 1) := by decide +kernel
theorem dX12_note_47 : decode cX12_note 47 = .ok (.iconst 4, 1) := by decide +kernel
theorem dX12_note_48 : decode cX12_note 48 = .ok (.aload_n 0, 1) := by decide +kernel
theorem dX12_note_49 : decode cX12_note 49 = .ok (.getfield 155, 3) := by decide +kernel
theorem dX12_note_52 : decode cX12_note 52 = .ok (.imul, 1) := by decide +kernel
theorem dX12_note_53 : decode cX12_note 53 = .ok (.istore 5, 2) := by decide +kernel
theorem dX12_note_55 : decode cX12_note 55 = .ok (.aload_n 0, 1) := by decide +kernel
theorem dX12_note_56 : decode cX12_note 56 = .ok (.getfield 29, 3) := by decide +kernel
theorem dX12_note_59 : decode cX12_note 59 = .ok (.iload 5, 2) := by decide +kernel
theorem dX12_note_61 : decode cX12_note 61 = .ok (.iload_n 1, 1) := by decide +kernel
theorem dX12_note_62 : decode cX12_note 62 = .ok (.iastore, 1) := by decide +kernel
theorem dX12_note_63 : decode cX12_note 63 = .ok (.aload_n 0, 1) := by decide +kernel
theorem dX12_note_64 : decode cX12_note 64 = .ok (.getfield 29, 3) := by decide +kernel
theorem dX12_note_67 : decode cX12_note 67 = .ok (.iload 5, 2) := by decide +kernel
theorem dX12_note_69 : decode cX12_note 69 = .ok (.iconst 1, 1) := by decide +kernel
theorem dX12_note_70 : decode cX12_note 70 = .ok (.iadd, 1) := by decide +kernel
theorem dX12_note_71 : decode cX12_note 71 = .ok (.iload_n 2, 1) := by decide +kernel
theorem dX12_note_72 : decode cX12_note 72 = .ok (.iastore, 1) := by decide +kernel
theorem dX12_note_73 : decode cX12_note 73 = .ok (.aload_n 0, 1) := by decide +kernel
theorem dX12_note_74 : decode cX12_note 74 = .ok (.getfield 29, 3) := by decide +kernel
theorem dX12_note_77 : decode cX12_note 77 = .ok (.iload 5, 2) := by decide +kernel
theorem dX12_note_79 : decode cX12_note 79 = .ok (.iconst 2, 1) := by decide +kernel
theorem dX12_note_80 : decode cX12_note 80 = .ok (.iadd, 1) := by decide +kernel
theorem dX12_note_81 : decode cX12_note 81 = .ok (.iload_n 3, 1) := by decide +kernel
theorem dX12_note_82 : decode cX12_note 82 = .ok (.iastore, 1) := by decide +kernel
theorem dX12_note_83 : decode cX12_note 83 = .ok (.aload_n 0, 1) := by decide +kernel
theorem dX12_note_84 : decode cX12_note 84 = .ok (.getfield 29, 3) := by decide +kernel
theorem dX12_note_87 : decode cX12_note 87 = .ok (.iload 5, 2) := by decide +kernel
theorem dX12_note_89 : decode cX12_note 89 = .ok (.iconst 3, 1) := by decide +kernel
theorem dX12_note_90 : decode cX12_note 90 = .ok (.iadd, 1) := by decide +kernel
theorem dX12_note_91 : decode cX12_note 91 = .ok (.iload 4, 2) := by decide +kernel
theorem dX12_note_93 : decode cX12_note 93 = .ok (.iastore, 1) := by decide +kernel
theorem dX12_note_94 : decode cX12_note 94 = .ok (.aload_n 0, 1) := by decide +kernel
theorem dX12_note_95 : decode cX12_note 95 = .ok (.dup, 1) := by decide +kernel
theorem dX12_note_96 : decode cX12_note 96 = .ok (.getfield 155, 3) := by decide +kernel
theorem dX12_note_99 : decode cX12_note 99 = .ok (.iconst 1, 1) := by decide +kernel
theorem dX12_note_100 : decode cX12_note 100 = .ok (.iadd, 1) := by decide +kernel
theorem dX12_note_101 : decode cX12_note 101 = .ok (.putfield 155, 3) := by decide +kernel
theorem dX12_note_104 : decode cX12_note 104 = .ok (.aload_n 0, 1) := by decide +kernel
theorem dX12_note_105 : decode cX12_note 105 = .ok (.getfield 155, 3) := by decide +kernel
theorem dX12_note_108 : decode cX12_note 108 = .ok (.ireturn, 1) := by decide +kernel
theorem dX12_lawsOf_0 : decode cX12_lawsOf 0 = .ok (.aload_n 0, 1) := by decide +kernel
theorem dX12_lawsOf_1 : decode cX12_lawsOf 1 = .ok (.invokevirtual 190, 3) := by decide +kernel
theorem dX12_lawsOf_4 : decode cX12_lawsOf 4 = .ok (.bipush 115, 2) := by decide +kernel
theorem dX12_lawsOf_6 : decode cX12_lawsOf 6 = .ok (.istore_n 2, 1) := by decide +kernel
theorem dX12_lawsOf_7 : decode cX12_lawsOf 7 = .ok (.iconst 0, 1) := by decide +kernel
theorem dX12_lawsOf_8 : decode cX12_lawsOf 8 = .ok (.istore_n 3, 1) := by decide +kernel
theorem dX12_lawsOf_9 : decode cX12_lawsOf 9 = .ok (.iload_n 3, 1) := by decide +kernel
theorem dX12_lawsOf_10 : decode cX12_lawsOf 10 = .ok (.aload_n 0, 1) := by decide +kernel
theorem dX12_lawsOf_11 : decode cX12_lawsOf 11 = .ok (.getfield 155, 3) := by decide +kernel
theorem dX12_lawsOf_14 : decode cX12_lawsOf 14 = .ok (.if_icmp .ge 120, 3) := by decide +kernel
theorem dX12_lawsOf_17 : decode cX12_lawsOf 17 = .ok (.aload_n 0, 1) := by decide +kernel
theorem dX12_lawsOf_18 : decode cX12_lawsOf 18 = .ok (.getfield 53, 3) := by decide +kernel
theorem dX12_lawsOf_21 : decode cX12_lawsOf 21 = .ok (.iconst 0, 1) := by decide +kernel
theorem dX12_lawsOf_22 : decode cX12_lawsOf 22 = .ok (.aload_n 0, 1) := by decide +kernel
theorem dX12_lawsOf_23 : decode cX12_lawsOf 23 = .ok (.getfield 29, 3) := by decide +kernel
theorem dX12_lawsOf_26 : decode cX12_lawsOf 26 = .ok (.iconst 4, 1) := by decide +kernel
theorem dX12_lawsOf_27 : decode cX12_lawsOf 27 = .ok (.iload_n 3, 1) := by decide +kernel
theorem dX12_lawsOf_28 : decode cX12_lawsOf 28 = .ok (.imul, 1) := by decide +kernel
theorem dX12_lawsOf_29 : decode cX12_lawsOf 29 = .ok (.iconst 2, 1) := by decide +kernel
theorem dX12_lawsOf_30 : decode cX12_lawsOf 30 = .ok (.iadd, 1) := by decide +kernel
theorem dX12_lawsOf_31 : decode cX12_lawsOf 31 = .ok (.iaload, 1) := by decide +kernel
theorem dX12_lawsOf_32 : decode cX12_lawsOf 32 = .ok (.iastore, 1) := by decide +kernel
theorem dX12_lawsOf_33 : decode cX12_lawsOf 33 = .ok (.iconst 0, 1) := by decide +kernel
theorem dX12_lawsOf_34 : decode cX12_lawsOf 34 = .ok (.istore 4, 2) := by decide +kernel
theorem dX12_lawsOf_36 : decode cX12_lawsOf 36 = .ok (.iload 4, 2) := by decide +kernel
theorem dX12_lawsOf_38 : decode cX12_lawsOf 38 = .ok (.bipush 7, 2) := by decide +kernel
theorem dX12_lawsOf_40 : decode cX12_lawsOf 40 = .ok (.if_icmp .ge 88, 3) := by decide +kernel
theorem dX12_lawsOf_43 : decode cX12_lawsOf 43 = .ok (.aload_n 0, 1) := by decide +kernel
theorem dX12_lawsOf_44 : decode cX12_lawsOf 44 = .ok (.getfield 29, 3) := by decide +kernel
theorem dX12_lawsOf_47 : decode cX12_lawsOf 47 = .ok (.iconst 4, 1) := by decide +kernel
theorem dX12_lawsOf_48 : decode cX12_lawsOf 48 = .ok (.iload_n 3, 1) := by decide +kernel
theorem dX12_lawsOf_49 : decode cX12_lawsOf 49 = .ok (.imul, 1) := by decide +kernel
theorem dX12_lawsOf_50 : decode cX12_lawsOf 50 = .ok (.iaload, 1) := by decide +kernel
theorem dX12_lawsOf_51 : decode cX12_lawsOf 51 = .ok (.iload_n 1, 1) := by decide +kernel
theorem dX12_lawsOf_52 : decode cX12_lawsOf 52 = .ok (.if_icmp .ne 48, 3) := by decide +kernel
theorem dX12_lawsOf_55 : decode cX12_lawsOf 55 = .ok (.iload 4, 2) := by decide +kernel
theorem dX12_lawsOf_57 : decode cX12_lawsOf 57 = .ok (.iconst 2, 1) := by decide +kernel
theorem dX12_lawsOf_58 : decode cX12_lawsOf 58 = .ok (.if_icmp .eq 42, 3) := by decide +kernel
theorem dX12_lawsOf_61 : decode cX12_lawsOf 61 = .ok (.iload 4, 2) := by decide +kernel
theorem dX12_lawsOf_63 : decode cX12_lawsOf 63 = .ok (.iconst 3, 1) := by decide +kernel
theorem dX12_lawsOf_64 : decode cX12_lawsOf 64 = .ok (.if_icmp .eq 36, 3) := by decide +kernel
theorem dX12_lawsOf_67 : decode cX12_lawsOf 67 = .ok (.aload_n 0, 1) := by decide +kernel
theorem dX12_lawsOf_68 : decode cX12_lawsOf 68 = .ok (.iload 4, 2) := by decide +kernel
theorem dX12_lawsOf_70 : decode cX12_lawsOf 70 = .ok (.aload_n 0, 1) := by decide +kernel
theorem dX12_lawsOf_71 : decode cX12_lawsOf 71 = .ok (.getfield 29, 3) := by decide +kernel
theorem dX12_lawsOf_74 : decode cX12_lawsOf 74 = .ok (.iconst 4, 1) := by decide +kernel
theorem dX12_lawsOf_75 : decode cX12_lawsOf 75 = .ok (.iload_n 3, 1) := by decide +kernel
theorem dX12_lawsOf_76 : decode cX12_lawsOf 76 = .ok (.imul, 1) := by decide +kernel
theorem dX12_lawsOf_77 : decode cX12_lawsOf 77 = .ok (.iconst 1, 1) := by decide +kernel
theorem dX12_lawsOf_78 : decode cX12_lawsOf 78 = .ok (.iadd, 1) := by decide +kernel
theorem dX12_lawsOf_79 : decode cX12_lawsOf 79 = .ok (.iaload, 1) := by decide +kernel
theorem dX12_lawsOf_80 : decode cX12_lawsOf 80 = .ok (.invokevirtual 177, 3) := by decide +kernel
theorem dX12_lawsOf_83 : decode cX12_lawsOf 83 = .ok (.aload_n 0, 1) := by decide +kernel
theorem dX12_lawsOf_84 : decode cX12_lawsOf 84 = .ok (.getfield 29, 3) := by decide +kernel
theorem dX12_lawsOf_87 : decode cX12_lawsOf 87 = .ok (.iconst 4, 1) := by decide +kernel
theorem dX12_lawsOf_88 : decode cX12_lawsOf 88 = .ok (.iload_n 3, 1) := by decide +kernel
theorem dX12_lawsOf_89 : decode cX12_lawsOf 89 = .ok (.imul, 1) := by decide +kernel
theorem dX12_lawsOf_90 : decode cX12_lawsOf 90 = .ok (.iconst 3, 1) := by decide +kernel
theorem dX12_lawsOf_91 : decode cX12_lawsOf 91 = .ok (.iadd, 1) := by decide +kernel
theorem dX12_lawsOf_92 : decode cX12_lawsOf 92 = .ok (.iaload, 1) := by decide +kernel
theorem dX12_lawsOf_93 : decode cX12_lawsOf 93 = .ok (.if_icmp .eq 7, 3) := by decide +kernel
theorem dX12_lawsOf_96 : decode cX12_lawsOf 96 = .ok (.iconst 1, 1) := by decide +kernel
theorem dX12_lawsOf_97 : decode cX12_lawsOf 97 = .ok (.goto 4, 3) := by decide +kernel
theorem dX12_lawsOf_100 : decode cX12_lawsOf 100 = .ok (.iconst 0, 1) := by decide +kernel
theorem dX12_lawsOf_101 : decode cX12_lawsOf 101 = .ok (.istore 5, 2) := by decide +kernel
theorem dX12_lawsOf_103 : decode cX12_lawsOf 103 = .ok (.iload_n 2, 1) := by decide +kernel
theorem dX12_lawsOf_104 : decode cX12_lawsOf 104 = .ok (.iload 5, 2) := by decide +kernel
theorem dX12_lawsOf_106 : decode cX12_lawsOf 106 = .ok (.ifCond .eq 12, 3) := by decide +kernel
theorem dX12_lawsOf_109 : decode cX12_lawsOf 109 = .ok (.iconst 1, 1) := by decide +kernel
theorem dX12_lawsOf_110 : decode cX12_lawsOf 110 = .ok (.iload 4, 2) := by decide +kernel
theorem dX12_lawsOf_112 : decode cX12_lawsOf 112 = .ok (.ishl, 1) := by decide +kernel
theorem dX12_lawsOf_113 : decode cX12_lawsOf 113 = .ok (.iconst (-1), 1) := by decide +kernel
theorem dX12_lawsOf_114 : decode cX12_lawsOf 114 = .ok (.ixor, 1) := by decide +kernel
theorem dX12_lawsOf_115 : decode cX12_lawsOf 115 = .ok (.goto 5, 3) := by decide +kernel
theorem dX12_lawsOf_118 : decode cX12_lawsOf 118 = .ok (.bipush 127, 2) := by decide +kernel
theorem dX12_lawsOf_120 : decode cX12_lawsOf 120 = .ok (.iand, 1) := by decide +kernel
theorem dX12_lawsOf_121 : decode cX12_lawsOf 121 = .ok (.istore_n 2, 1) := by decide +kernel
theorem dX12_lawsOf_122 : decode cX12_lawsOf 122 = .ok (.iinc 4 1, 3) := by decide +kernel
theorem dX12_lawsOf_125 : decode cX12_lawsOf 125 = .ok (.goto (-89), 3) := by decide +kernel
theorem dX12_lawsOf_128 : decode cX12_lawsOf 128 = .ok (.iinc 3 1, 3) := by decide +kernel
theorem dX12_lawsOf_131 : decode cX12_lawsOf 131 = .ok (.goto (-122), 3) := by decide +kernel
theorem dX12_lawsOf_134 : decode cX12_lawsOf 134 = .ok (.iload_n 2, 1) := by decide +kernel
theorem dX12_lawsOf_135 : decode cX12_lawsOf 135 = .ok (.ireturn, 1) := by decide +kernel
theorem dX12_laws_0 : decode cX12_laws 0 = .ok (.iload_n 1, 1) := by decide +kernel
theorem dX12_laws_1 : decode cX12_laws 1 = .ok (.invokestatic 174, 3) := by decide +kernel
theorem dX12_laws_4 : decode cX12_laws 4 = .ok (.ifCond .eq 11, 3) := by decide +kernel
theorem dX12_laws_7 : decode cX12_laws 7 = .ok (.aload_n 0, 1) := by decide +kernel
theorem dX12_laws_8 : decode cX12_laws 8 = .ok (.iload_n 1, 1) := by decide +kernel
theorem dX12_laws_9 : decode cX12_laws 9 = .ok (.invokevirtual 272, 3) := by decide +kernel
theorem dX12_laws_12 : decode cX12_laws 12 = .ok (.goto 5, 3) := by decide +kernel
theorem dX12_laws_15 : decode cX12_laws 15 = .ok (.ldc 171, 2) := by decide +kernel
theorem dX12_laws_17 : decode cX12_laws 17 = .ok (.ireturn, 1) := by decide +kernel
theorem dX12_tryNext_0 : decode cX12_tryNext 0 = .ok (.iload_n 1, 1) := by decide +kernel
theorem dX12_tryNext_1 : decode cX12_tryNext 1 = .ok (.invokestatic 174, 3) := by decide +kernel
theorem dX12_tryNext_4 : decode cX12_tryNext 4 = .ok (.ifCond .ne 6, 3) := by decide +kernel
theorem dX12_tryNext_7 : decode cX12_tryNext 7 = .ok (.ldc 171, 2) := by decide +kernel
theorem dX12_tryNext_9 : decode cX12_tryNext 9 = .ok (.ireturn, 1) := by decide +kernel
theorem dX12_tryNext_10 : decode cX12_tryNext 10 = .ok (.aload_n 0, 1) := by decide +kernel
theorem dX12_tryNext_11 : decode cX12_tryNext 11 = .ok (.getfield 152, 3) := by decide +kernel
theorem dX12_tryNext_14 : decode cX12_tryNext 14 = .ok (.ifCond .ne 6, 3) := by decide +kernel
theorem dX12_tryNext_17 : decode cX12_tryNext 17 = .ok (.ldc 200, 2) := by decide +kernel
theorem dX12_tryNext_19 : decode cX12_tryNext 19 = .ok (.ireturn, 1) := by decide +kernel
theorem dX12_tryNext_20 : decode cX12_tryNext 20 = .ok (.aload_n 0, 1) := by decide +kernel
theorem dX12_tryNext_21 : decode cX12_tryNext 21 = .ok (.iload_n 1, 1) := by decide +kernel
theorem dX12_tryNext_22 : decode cX12_tryNext 22 = .ok (.invokevirtual 272, 3) := by decide +kernel
theorem dX12_tryNext_25 : decode cX12_tryNext 25 = .ok (.istore_n 2, 1) := by decide +kernel
theorem dX12_tryNext_26 : decode cX12_tryNext 26 = .ok (.iconst 0, 1) := by decide +kernel
theorem dX12_tryNext_27 : decode cX12_tryNext 27 = .ok (.istore_n 3, 1) := by decide +kernel
theorem dX12_tryNext_28 : decode cX12_tryNext 28 = .ok (.iconst 0, 1) := by decide +kernel
theorem dX12_tryNext_29 : decode cX12_tryNext 29 = .ok (.istore 4, 2) := by decide +kernel
theorem dX12_tryNext_31 : decode cX12_tryNext 31 = .ok (.iload 4, 2) := by decide +kernel
theorem dX12_tryNext_33 : decode cX12_tryNext 33 = .ok (.bipush 7, 2) := by decide +kernel
theorem dX12_tryNext_35 : decode cX12_tryNext 35 = .ok (.if_icmp .ge 18, 3) := by decide +kernel
theorem dX12_tryNext_38 : decode cX12_tryNext 38 = .ok (.iload_n 3, 1) := by decide +kernel
theorem dX12_tryNext_39 : decode cX12_tryNext 39 = .ok (.iload_n 2, 1) := by decide +kernel
theorem dX12_tryNext_40 : decode cX12_tryNext 40 = .ok (.iload 4, 2) := by decide +kernel
theorem dX12_tryNext_42 : decode cX12_tryNext 42 = .ok (.ishr, 1) := by decide +kernel
theorem dX12_tryNext_43 : decode cX12_tryNext 43 = .ok (.iconst 1, 1) := by decide +kernel
theorem dX12_tryNext_44 : decode cX12_tryNext 44 = .ok (.iand, 1) := by decide +kernel
theorem dX12_tryNext_45 : decode cX12_tryNext 45 = .ok (.iadd, 1) := by decide +kernel
theorem dX12_tryNext_46 : decode cX12_tryNext 46 = .ok (.istore_n 3, 1) := by decide +kernel
theorem dX12_tryNext_47 : decode cX12_tryNext 47 = .ok (.iinc 4 1, 3) := by decide +kernel
theorem dX12_tryNext_50 : decode cX12_tryNext 50 = .ok (.goto (-19), 3) := by decide +kernel
theorem dX12_tryNext_53 : decode cX12_tryNext 53 = .ok (.aload_n 0, 1) := by decide +kernel
theorem dX12_tryNext_54 : decode cX12_tryNext 54 = .ok (.invokevirtual 190, 3) := by decide +kernel
theorem dX12_tryNext_57 : decode cX12_tryNext 57 = .ok (.iload_n 3, 1) := by decide +kernel
theorem dX12_tryNext_58 : decode cX12_tryNext 58 = .ok (.istore 4, 2) := by decide +kernel
theorem dX12_tryNext_60 : decode cX12_tryNext 60 = .ok (.iconst (-1), 1) := by decide +kernel
theorem dX12_tryNext_61 : decode cX12_tryNext 61 = .ok (.istore 5, 2) := by decide +kernel
theorem dX12_tryNext_63 : decode cX12_tryNext 63 = .ok (.iconst 0, 1) := by decide +kernel
theorem dX12_tryNext_64 : decode cX12_tryNext 64 = .ok (.istore 6, 2) := by decide +kernel
theorem dX12_tryNext_66 : decode cX12_tryNext 66 = .ok (.iload 6, 2) := by decide +kernel
theorem dX12_tryNext_68 : decode cX12_tryNext 68 = .ok (.aload_n 0, 1) := by decide +kernel
theorem dX12_tryNext_69 : decode cX12_tryNext 69 = .ok (.getfield 152, 3) := by decide +kernel
theorem dX12_tryNext_72 : decode cX12_tryNext 72 = .ok (.if_icmp .ge 123, 3) := by decide +kernel
theorem dX12_tryNext_75 : decode cX12_tryNext 75 = .ok (.iconst 0, 1) := by decide +kernel
theorem dX12_tryNext_76 : decode cX12_tryNext 76 = .ok (.istore 7, 2) := by decide +kernel
theorem dX12_tryNext_78 : decode cX12_tryNext 78 = .ok (.iconst 0, 1) := by decide +kernel
theorem dX12_tryNext_79 : decode cX12_tryNext 79 = .ok (.istore 8, 2) := by decide +kernel
theorem dX12_tryNext_81 : decode cX12_tryNext 81 = .ok (.iload 8, 2) := by decide +kernel
theorem dX12_tryNext_83 : decode cX12_tryNext 83 = .ok (.iconst 5, 1) := by decide +kernel
theorem dX12_tryNext_84 : decode cX12_tryNext 84 = .ok (.if_icmp .ge 17, 3) := by decide +kernel
theorem dX12_tryNext_87 : decode cX12_tryNext 87 = .ok (.aload_n 0, 1) := by decide +kernel
theorem dX12_tryNext_88 : decode cX12_tryNext 88 = .ok (.getfield 74, 3) := by decide +kernel
theorem dX12_tryNext_91 : decode cX12_tryNext 91 = .ok (.iload 8, 2) := by decide +kernel
theorem dX12_tryNext_93 : decode cX12_tryNext 93 = .ok (.iconst 0, 1) := by decide +kernel
theorem dX12_tryNext_94 : decode cX12_tryNext 94 = .ok (.iastore, 1) := by decide +kernel
theorem dX12_tryNext_95 : decode cX12_tryNext 95 = .ok (.iinc 8 1, 3) := by decide +kernel
theorem dX12_tryNext_98 : decode cX12_tryNext 98 = .ok (.goto (-17), 3) := by decide +kernel
theorem dX12_tryNext_101 : decode cX12_tryNext 101 = .ok (.iconst 0, 1) := by decide +kernel
theorem dX12_tryNext_102 : decode cX12_tryNext 102 = .ok (.istore 8, 2) := by decide +kernel
theorem dX12_tryNext_104 : decode cX12_tryNext 104 = .ok (.iload 8, 2) := by decide +kernel
theorem dX12_tryNext_106 : decode cX12_tryNext 106 = .ok (.bipush 7, 2) := by decide +kernel
theorem dX12_tryNext_108 : decode cX12_tryNext 108 = .ok (.if_icmp .ge 56, 3) := by decide +kernel
theorem dX12_tryNext_111 : decode cX12_tryNext 111 = .ok (.iload_n 2, 1) := by decide +kernel
theorem dX12_tryNext_112 : decode cX12_tryNext 112 = .ok (.iload 8, 2) := by decide +kernel
theorem dX12_tryNext_114 : decode cX12_tryNext 114 = .ok (.ishr, 1) := by decide +kernel
theorem dX12_tryNext_115 : decode cX12_tryNext 115 = .ok (.iconst 1, 1) := by decide +kernel
theorem dX12_tryNext_116 : decode cX12_tryNext 116 = .ok (.iand, 1) := by decide +kernel
theorem dX12_tryNext_117 : decode cX12_tryNext 117 = .ok (.iconst 1, 1) := by decide +kernel
theorem dX12_tryNext_118 : decode cX12_tryNext 118 = .ok (.if_icmp .ne 40, 3) := by decide +kernel
theorem dX12_tryNext_121 : decode cX12_tryNext 121 = .ok (.aload_n 0, 1) := by decide +kernel
theorem dX12_tryNext_122 : decode cX12_tryNext 122 = .ok (.getfield 74, 3) := by decide +kernel
theorem dX12_tryNext_125 : decode cX12_tryNext 125 = .ok (.aload_n 0, 1) := by decide +kernel
theorem dX12_tryNext_126 : decode cX12_tryNext 126 = .ok (.iload 8, 2) := by decide +kernel
theorem dX12_tryNext_128 : decode cX12_tryNext 128 = .ok (.iload 6, 2) := by decide +kernel
theorem dX12_tryNext_130 : decode cX12_tryNext 130 = .ok (.invokevirtual 177, 3) := by decide +kernel
theorem dX12_tryNext_133 : decode cX12_tryNext 133 = .ok (.dup2, 1) := by decide +kernel
theorem dX12_tryNext_134 : decode cX12_tryNext 134 = .ok (.iaload, 1) := by decide +kernel
theorem dX12_tryNext_135 : decode cX12_tryNext 135 = .ok (.iconst 1, 1) := by decide +kernel
theorem dX12_tryNext_136 : decode cX12_tryNext 136 = .ok (.iadd, 1) := by decide +kernel
theorem dX12_tryNext_137 : decode cX12_tryNext 137 = .ok (.iastore, 1) := by decide +kernel
theorem dX12_tryNext_138 : decode cX12_tryNext 138 = .ok (.iload 7, 2) := by decide +kernel
theorem dX12_tryNext_140 : decode cX12_tryNext 140 = .ok (.aload_n 0, 1) := by decide +kernel
theorem dX12_tryNext_141 : decode cX12_tryNext 141 = .ok (.getfield 74, 3) := by decide +kernel
theorem dX12_tryNext_144 : decode cX12_tryNext 144 = .ok (.aload_n 0, 1) := by decide +kernel
theorem dX12_tryNext_145 : decode cX12_tryNext 145 = .ok (.iload 8, 2) := by decide +kernel
theorem dX12_tryNext_147 : decode cX12_tryNext 147 = .ok (.iload 6, 2) := by decide +kernel
theorem dX12_tryNext_149 : decode cX12_tryNext 149 = .ok (.invokevirtual 177, 3) := by decide +kernel
theorem dX12_tryNext_152 : decode cX12_tryNext 152 = .ok (.iaload, 1) := by decide +kernel
theorem dX12_tryNext_153 : decode cX12_tryNext 153 = .ok (.invokestatic 184, 3) := by decide +kernel
theorem dX12_tryNext_156 : decode cX12_tryNext 156 = .ok (.istore 7, 2) := by decide +kernel
theorem dX12_tryNext_158 : decode cX12_tryNext 158 = .ok (.iinc 8 1, 3) := by decide +kernel
theorem dX12_tryNext_161 : decode cX12_tryNext 161 = .ok (.goto (-57), 3) := by decide +kernel
theorem dX12_tryNext_164 : decode cX12_tryNext 164 = .ok (.iload 7, 2) := by decide +kernel
theorem dX12_tryNext_166 : decode cX12_tryNext 166 = .ok (.iload 4, 2) := by decide +kernel
theorem dX12_tryNext_168 : decode cX12_tryNext 168 = .ok (.if_icmp .ge 8, 3) := by decide +kernel
theorem dX12_tryNext_171 : decode cX12_tryNext 171 = .ok (.iload 6, 2) := by decide +kernel
theorem dX12_tryNext_173 : decode cX12_tryNext 173 = .ok (.goto 5, 3) := by decide +kernel
theorem dX12_tryNext_176 : decode cX12_tryNext 176 = .ok (.iload 5, 2) := by decide +kernel
theorem dX12_tryNext_178 : decode cX12_tryNext 178 = .ok (.istore 5, 2) := by decide +kernel
theorem dX12_tryNext_180 : decode cX12_tryNext 180 = .ok (.iload 4, 2) := by decide +kernel
theorem dX12_tryNext_182 : decode cX12_tryNext 182 = .ok (.iload 7, 2) := by decide +kernel
theorem dX12_tryNext_184 : decode cX12_tryNext 184 = .ok (.invokestatic 181, 3) := by decide +kernel
theorem dX12_tryNext_187 : decode cX12_tryNext 187 = .ok (.istore 4, 2) := by decide +kernel
theorem dX12_tryNext_189 : decode cX12_tryNext 189 = .ok (.iinc 6 1, 3) := by decide +kernel
theorem dX12_tryNext_192 : decode cX12_tryNext 192 = .ok (.goto (-126), 3) := by decide +kernel
theorem dX12_tryNext_195 : decode cX12_tryNext 195 = .ok (.iload 5, 2) := by decide +kernel
theorem dX12_tryNext_197 : decode cX12_tryNext 197 = .ok (.ireturn, 1) := by decide +kernel
theorem dX12_write_0 : decode cX12_write 0 = .ok (.iload_n 1, 1) := by decide +kernel
theorem dX12_write_1 : decode cX12_write 1 = .ok (.invokestatic 174, 3) := by decide +kernel
theorem dX12_write_4 : decode cX12_write 4 = .ok (.ifCond .eq 11, 3) := by decide +kernel
theorem dX12_write_7 : decode cX12_write 7 = .ok (.aload_n 0, 1) := by decide +kernel
theorem dX12_write_8 : decode cX12_write 8 = .ok (.iload_n 2, 1) := by decide +kernel
theorem dX12_write_9 : decode cX12_write 9 = .ok (.invokevirtual 168, 3) := by decide +kernel
theorem dX12_write_12 : decode cX12_write 12 = .ok (.ifCond .ne 6, 3) := by decide +kernel
theorem dX12_write_15 : decode cX12_write 15 = .ok (.ldc 171, 2) := by decide +kernel
theorem dX12_write_17 : decode cX12_write 17 = .ok (.ireturn, 1) := by decide +kernel
theorem dX12_write_18 : decode cX12_write 18 = .ok (.aload_n 0, 1) := by decide +kernel
theorem dX12_write_19 : decode cX12_write 19 = .ok (.getfield 158, 3) := by decide +kernel
theorem dX12_write_22 : decode cX12_write 22 = .ok (.bipush 20, 2) := by decide +kernel
theorem dX12_write_24 : decode cX12_write 24 = .ok (.if_icmp .ne 6, 3) := by decide +kernel
theorem dX12_write_27 : decode cX12_write 27 = .ok (.ldc 94, 2) := by decide +kernel
theorem dX12_write_29 : decode cX12_write 29 = .ok (.ireturn, 1) := by decide +kernel
theorem dX12_write_30 : decode cX12_write 30 = .ok (.aload_n 0, 1) := by decide +kernel
theorem dX12_write_31 : decode cX12_write 31 = .ok (.getfield 32, 3) := by decide +kernel
theorem dX12_write_34 : decode cX12_write 34 = .ok (.iconst 2, 1) := by decide +kernel
theorem dX12_write_35 : decode cX12_write 35 = .ok (.aload_n 0, 1) := by decide +kernel
theorem dX12_write_36 : decode cX12_write 36 = .ok (.getfield 158, 3) := by decide +kernel
theorem dX12_write_39 : decode cX12_write 39 = .ok (.imul, 1) := by decide +kernel
theorem dX12_write_40 : decode cX12_write 40 = .ok (.iload_n 1, 1) := by decide +kernel
theorem dX12_write_41 : decode cX12_write 41 = .ok (.iastore, 1) := by decide +kernel
theorem dX12_write_42 : decode cX12_write 42 = .ok (.aload_n 0, 1) := by decide +kernel
theorem dX12_write_43 : decode cX12_write 43 = .ok (.getfield 32, 3) := by decide +kernel
theorem dX12_write_46 : decode cX12_write 46 = .ok (.iconst 2, 1) := by decide +kernel
theorem dX12_write_47 : decode cX12_write 47 = .ok (.aload_n 0, 1) := by decide +kernel
theorem dX12_write_48 : decode cX12_write 48 = .ok (.getfield 158, 3) := by decide +kernel
theorem dX12_write_51 : decode cX12_write 51 = .ok (.imul, 1) := by decide +kernel
theorem dX12_write_52 : decode cX12_write 52 = .ok (.iconst 1, 1) := by decide +kernel
theorem dX12_write_53 : decode cX12_write 53 = .ok (.iadd, 1) := by decide +kernel
theorem dX12_write_54 : decode cX12_write 54 = .ok (.iload_n 2, 1) := by decide +kernel
theorem dX12_write_55 : decode cX12_write 55 = .ok (.iastore, 1) := by decide +kernel
theorem dX12_write_56 : decode cX12_write 56 = .ok (.aload_n 0, 1) := by decide +kernel
theorem dX12_write_57 : decode cX12_write 57 = .ok (.dup, 1) := by decide +kernel
theorem dX12_write_58 : decode cX12_write 58 = .ok (.getfield 158, 3) := by decide +kernel
theorem dX12_write_61 : decode cX12_write 61 = .ok (.iconst 1, 1) := by decide +kernel
theorem dX12_write_62 : decode cX12_write 62 = .ok (.iadd, 1) := by decide +kernel
theorem dX12_write_63 : decode cX12_write 63 = .ok (.putfield 158, 3) := by decide +kernel
theorem dX12_write_66 : decode cX12_write 66 = .ok (.aload_n 0, 1) := by decide +kernel
theorem dX12_write_67 : decode cX12_write 67 = .ok (.getfield 158, 3) := by decide +kernel
theorem dX12_write_70 : decode cX12_write 70 = .ok (.ireturn, 1) := by decide +kernel
theorem dX12_judge_0 : decode cX12_judge 0 = .ok (.iload_n 1, 1) := by decide +kernel
theorem dX12_judge_1 : decode cX12_judge 1 = .ok (.i2l, 1) := by decide +kernel
theorem dX12_judge_2 : decode cX12_judge 2 = .ok (.lconst 0, 1) := by decide +kernel
theorem dX12_judge_3 : decode cX12_judge 3 = .ok (.lconst 1, 1) := by decide +kernel
theorem dX12_judge_4 : decode cX12_judge 4 = .ok (.invokestatic 86, 3) := by decide +kernel
theorem dX12_judge_7 : decode cX12_judge 7 = .ok (.ifCond .ne 6, 3) := by decide +kernel
theorem dX12_judge_10 : decode cX12_judge 10 = .ok (.ldc 90, 2) := by decide +kernel
theorem dX12_judge_12 : decode cX12_judge 12 = .ok (.ireturn, 1) := by decide +kernel
theorem dX12_judge_13 : decode cX12_judge 13 = .ok (.aload_n 0, 1) := by decide +kernel
theorem dX12_judge_14 : decode cX12_judge 14 = .ok (.getfield 152, 3) := by decide +kernel
theorem dX12_judge_17 : decode cX12_judge 17 = .ok (.ifCond .ne 6, 3) := by decide +kernel
theorem dX12_judge_20 : decode cX12_judge 20 = .ok (.ldc 200, 2) := by decide +kernel
theorem dX12_judge_22 : decode cX12_judge 22 = .ok (.ireturn, 1) := by decide +kernel
theorem dX12_judge_23 : decode cX12_judge 23 = .ok (.aload_n 0, 1) := by decide +kernel
theorem dX12_judge_24 : decode cX12_judge 24 = .ok (.invokevirtual 190, 3) := by decide +kernel
theorem dX12_judge_27 : decode cX12_judge 27 = .ok (.iconst 0, 1) := by decide +kernel
theorem dX12_judge_28 : decode cX12_judge 28 = .ok (.istore_n 2, 1) := by decide +kernel
theorem dX12_judge_29 : decode cX12_judge 29 = .ok (.iload_n 2, 1) := by decide +kernel
theorem dX12_judge_30 : decode cX12_judge 30 = .ok (.aload_n 0, 1) := by decide +kernel
theorem dX12_judge_31 : decode cX12_judge 31 = .ok (.getfield 158, 3) := by decide +kernel
theorem dX12_judge_34 : decode cX12_judge 34 = .ok (.if_icmp .ge 67, 3) := by decide +kernel
theorem dX12_judge_37 : decode cX12_judge 37 = .ok (.aload_n 0, 1) := by decide +kernel
theorem dX12_judge_38 : decode cX12_judge 38 = .ok (.getfield 32, 3) := by decide +kernel
theorem dX12_judge_41 : decode cX12_judge 41 = .ok (.iconst 2, 1) := by decide +kernel
theorem dX12_judge_42 : decode cX12_judge 42 = .ok (.iload_n 2, 1) := by decide +kernel
theorem dX12_judge_43 : decode cX12_judge 43 = .ok (.imul, 1) := by decide +kernel
theorem dX12_judge_44 : decode cX12_judge 44 = .ok (.iaload, 1) := by decide +kernel
theorem dX12_judge_45 : decode cX12_judge 45 = .ok (.istore_n 3, 1) := by decide +kernel
theorem dX12_judge_46 : decode cX12_judge 46 = .ok (.aload_n 0, 1) := by decide +kernel
theorem dX12_judge_47 : decode cX12_judge 47 = .ok (.getfield 13, 3) := by decide +kernel
theorem dX12_judge_50 : decode cX12_judge 50 = .ok (.iload_n 3, 1) := by decide +kernel
theorem dX12_judge_51 : decode cX12_judge 51 = .ok (.iaload, 1) := by decide +kernel
theorem dX12_judge_52 : decode cX12_judge 52 = .ok (.aload_n 0, 1) := by decide +kernel
theorem dX12_judge_53 : decode cX12_judge 53 = .ok (.getfield 53, 3) := by decide +kernel
theorem dX12_judge_56 : decode cX12_judge 56 = .ok (.iconst 1, 1) := by decide +kernel
theorem dX12_judge_57 : decode cX12_judge 57 = .ok (.iaload, 1) := by decide +kernel
theorem dX12_judge_58 : decode cX12_judge 58 = .ok (.if_icmp .le 18, 3) := by decide +kernel
theorem dX12_judge_61 : decode cX12_judge 61 = .ok (.iload_n 1, 1) := by decide +kernel
theorem dX12_judge_62 : decode cX12_judge 62 = .ok (.ifCond .ne 7, 3) := by decide +kernel
theorem dX12_judge_65 : decode cX12_judge 65 = .ok (.iload_n 2, 1) := by decide +kernel
theorem dX12_judge_66 : decode cX12_judge 66 = .ok (.goto 9, 3) := by decide +kernel
theorem dX12_judge_69 : decode cX12_judge 69 = .ok (.aload_n 0, 1) := by decide +kernel
theorem dX12_judge_70 : decode cX12_judge 70 = .ok (.getfield 53, 3) := by decide +kernel
theorem dX12_judge_73 : decode cX12_judge 73 = .ok (.iconst 0, 1) := by decide +kernel
theorem dX12_judge_74 : decode cX12_judge 74 = .ok (.iaload, 1) := by decide +kernel
theorem dX12_judge_75 : decode cX12_judge 75 = .ok (.ireturn, 1) := by decide +kernel
theorem dX12_judge_76 : decode cX12_judge 76 = .ok (.aload_n 0, 1) := by decide +kernel
theorem dX12_judge_77 : decode cX12_judge 77 = .ok (.iload_n 3, 1) := by decide +kernel
theorem dX12_judge_78 : decode cX12_judge 78 = .ok (.aload_n 0, 1) := by decide +kernel
theorem dX12_judge_79 : decode cX12_judge 79 = .ok (.getfield 32, 3) := by decide +kernel
theorem dX12_judge_82 : decode cX12_judge 82 = .ok (.iconst 2, 1) := by decide +kernel
theorem dX12_judge_83 : decode cX12_judge 83 = .ok (.iload_n 2, 1) := by decide +kernel
theorem dX12_judge_84 : decode cX12_judge 84 = .ok (.imul, 1) := by decide +kernel
theorem dX12_judge_85 : decode cX12_judge 85 = .ok (.iconst 1, 1) := by decide +kernel
theorem dX12_judge_86 : decode cX12_judge 86 = .ok (.iadd, 1) := by decide +kernel
theorem dX12_judge_87 : decode cX12_judge 87 = .ok (.iaload, 1) := by decide +kernel
theorem dX12_judge_88 : decode cX12_judge 88 = .ok (.invokevirtual 193, 3) := by decide +kernel
theorem dX12_judge_91 : decode cX12_judge 91 = .ok (.aload_n 0, 1) := by decide +kernel
theorem dX12_judge_92 : decode cX12_judge 92 = .ok (.invokevirtual 197, 3) := by decide +kernel
theorem dX12_judge_95 : decode cX12_judge 95 = .ok (.iinc 2 1, 3) := by decide +kernel
theorem dX12_judge_98 : decode cX12_judge 98 = .ok (.goto (-69), 3) := by decide +kernel
theorem dX12_judge_101 : decode cX12_judge 101 = .ok (.iload_n 1, 1) := by decide +kernel
theorem dX12_judge_102 : decode cX12_judge 102 = .ok (.ifCond .ne 7, 3) := by decide +kernel
theorem dX12_judge_105 : decode cX12_judge 105 = .ok (.iconst (-1), 1) := by decide +kernel
theorem dX12_judge_106 : decode cX12_judge 106 = .ok (.goto 9, 3) := by decide +kernel
theorem dX12_judge_109 : decode cX12_judge 109 = .ok (.aload_n 0, 1) := by decide +kernel
theorem dX12_judge_110 : decode cX12_judge 110 = .ok (.getfield 53, 3) := by decide +kernel
theorem dX12_judge_113 : decode cX12_judge 113 = .ok (.iconst 0, 1) := by decide +kernel
theorem dX12_judge_114 : decode cX12_judge 114 = .ok (.iaload, 1) := by decide +kernel
theorem dX12_judge_115 : decode cX12_judge 115 = .ok (.ireturn, 1) := by decide +kernel
theorem dX12_tear_0 : decode cX12_tear 0 = .ok (.aload_n 0, 1) := by decide +kernel
theorem dX12_tear_1 : decode cX12_tear 1 = .ok (.getfield 155, 3) := by decide +kernel
theorem dX12_tear_4 : decode cX12_tear 4 = .ok (.aload_n 0, 1) := by decide +kernel
theorem dX12_tear_5 : decode cX12_tear 5 = .ok (.getfield 158, 3) := by decide +kernel
theorem dX12_tear_8 : decode cX12_tear 8 = .ok (.iadd, 1) := by decide +kernel
theorem dX12_tear_9 : decode cX12_tear 9 = .ok (.istore_n 1, 1) := by decide +kernel
theorem dX12_tear_10 : decode cX12_tear 10 = .ok (.aload_n 0, 1) := by decide +kernel
theorem dX12_tear_11 : decode cX12_tear 11 = .ok (.iconst 0, 1) := by decide +kernel
theorem dX12_tear_12 : decode cX12_tear 12 = .ok (.putfield 155, 3) := by decide +kernel
theorem dX12_tear_15 : decode cX12_tear 15 = .ok (.aload_n 0, 1) := by decide +kernel
theorem dX12_tear_16 : decode cX12_tear 16 = .ok (.iconst 0, 1) := by decide +kernel
theorem dX12_tear_17 : decode cX12_tear 17 = .ok (.putfield 158, 3) := by decide +kernel
theorem dX12_tear_20 : decode cX12_tear 20 = .ok (.iload_n 1, 1) := by decide +kernel
theorem dX12_tear_21 : decode cX12_tear 21 = .ok (.ireturn, 1) := by decide +kernel
theorem dX12_seed_0 : decode cX12_seed 0 = .ok (.iload_n 1, 1) := by decide +kernel
theorem dX12_seed_1 : decode cX12_seed 1 = .ok (.ifCond .ge 6, 3) := by decide +kernel
theorem dX12_seed_4 : decode cX12_seed 4 = .ok (.ldc 90, 2) := by decide +kernel
theorem dX12_seed_6 : decode cX12_seed 6 = .ok (.ireturn, 1) := by decide +kernel
theorem dX12_seed_7 : decode cX12_seed 7 = .ok (.aload_n 0, 1) := by decide +kernel
theorem dX12_seed_8 : decode cX12_seed 8 = .ok (.getfield 16, 3) := by decide +kernel
theorem dX12_seed_11 : decode cX12_seed 11 = .ok (.iconst 3, 1) := by decide +kernel
theorem dX12_seed_12 : decode cX12_seed 12 = .ok (.iaload, 1) := by decide +kernel
theorem dX12_seed_13 : decode cX12_seed 13 = .ok (.istore_n 2, 1) := by decide +kernel
theorem dX12_seed_14 : decode cX12_seed 14 = .ok (.aload_n 0, 1) := by decide +kernel
theorem dX12_seed_15 : decode cX12_seed 15 = .ok (.getfield 16, 3) := by decide +kernel
theorem dX12_seed_18 : decode cX12_seed 18 = .ok (.iconst 3, 1) := by decide +kernel
theorem dX12_seed_19 : decode cX12_seed 19 = .ok (.iload_n 1, 1) := by decide +kernel
theorem dX12_seed_20 : decode cX12_seed 20 = .ok (.iastore, 1) := by decide +kernel
theorem dX12_seed_21 : decode cX12_seed 21 = .ok (.iload_n 2, 1) := by decide +kernel
theorem dX12_seed_22 : decode cX12_seed 22 = .ok (.ireturn, 1) := by decide +kernel
theorem dX12_keep_0 : decode cX12_keep 0 = .ok (.iload_n 1, 1) := by decide +kernel
theorem dX12_keep_1 : decode cX12_keep 1 = .ok (.i2l, 1) := by decide +kernel
theorem dX12_keep_2 : decode cX12_keep 2 = .ok (.lconst 0, 1) := by decide +kernel
theorem dX12_keep_3 : decode cX12_keep 3 = .ok (.lconst 1, 1) := by decide +kernel
theorem dX12_keep_4 : decode cX12_keep 4 = .ok (.invokestatic 86, 3) := by decide +kernel
theorem dX12_keep_7 : decode cX12_keep 7 = .ok (.ifCond .ne 6, 3) := by decide +kernel
theorem dX12_keep_10 : decode cX12_keep 10 = .ok (.ldc 171, 2) := by decide +kernel
theorem dX12_keep_12 : decode cX12_keep 12 = .ok (.ireturn, 1) := by decide +kernel
theorem dX12_keep_13 : decode cX12_keep 13 = .ok (.iconst 0, 1) := by decide +kernel
theorem dX12_keep_14 : decode cX12_keep 14 = .ok (.istore_n 2, 1) := by decide +kernel
theorem dX12_keep_15 : decode cX12_keep 15 = .ok (.iload_n 2, 1) := by decide +kernel
theorem dX12_keep_16 : decode cX12_keep 16 = .ok (.bipush 20, 2) := by decide +kernel
theorem dX12_keep_18 : decode cX12_keep 18 = .ok (.if_icmp .ge 26, 3) := by decide +kernel
theorem dX12_keep_21 : decode cX12_keep 21 = .ok (.aload_n 0, 1) := by decide +kernel
theorem dX12_keep_22 : decode cX12_keep 22 = .ok (.getfield 22, 3) := by decide +kernel
theorem dX12_keep_25 : decode cX12_keep 25 = .ok (.bipush 20, 2) := by decide +kernel
theorem dX12_keep_27 : decode cX12_keep 27 = .ok (.iload_n 1, 1) := by decide +kernel
theorem dX12_keep_28 : decode cX12_keep 28 = .ok (.imul, 1) := by decide +kernel
theorem dX12_keep_29 : decode cX12_keep 29 = .ok (.iload_n 2, 1) := by decide +kernel
theorem dX12_keep_30 : decode cX12_keep 30 = .ok (.iadd, 1) := by decide +kernel
theorem dX12_keep_31 : decode cX12_keep 31 = .ok (.aload_n 0, 1) := by decide +kernel
theorem dX12_keep_32 : decode cX12_keep 32 = .ok (.getfield 16, 3) := by decide +kernel
theorem dX12_keep_35 : decode cX12_keep 35 = .ok (.iload_n 2, 1) := by decide +kernel
theorem dX12_keep_36 : decode cX12_keep 36 = .ok (.iaload, 1) := by decide +kernel
theorem dX12_keep_37 : decode cX12_keep 37 = .ok (.iastore, 1) := by decide +kernel
theorem dX12_keep_38 : decode cX12_keep 38 = .ok (.iinc 2 1, 3) := by decide +kernel
theorem dX12_keep_41 : decode cX12_keep 41 = .ok (.goto (-26), 3) := by decide +kernel
theorem dX12_keep_44 : decode cX12_keep 44 = .ok (.aload_n 0, 1) := by decide +kernel
theorem dX12_keep_45 : decode cX12_keep 45 = .ok (.getfield 25, 3) := by decide +kernel
theorem dX12_keep_48 : decode cX12_keep 48 = .ok (.iload_n 1, 1) := by decide +kernel
theorem dX12_keep_49 : decode cX12_keep 49 = .ok (.iconst 1, 1) := by decide +kernel
theorem dX12_keep_50 : decode cX12_keep 50 = .ok (.bastore, 1) := by decide +kernel
theorem dX12_keep_51 : decode cX12_keep 51 = .ok (.aload_n 0, 1) := by decide +kernel
theorem dX12_keep_52 : decode cX12_keep 52 = .ok (.iconst 0, 1) := by decide +kernel
theorem dX12_keep_53 : decode cX12_keep 53 = .ok (.putfield 161, 3) := by decide +kernel
theorem dX12_keep_56 : decode cX12_keep 56 = .ok (.iconst 1, 1) := by decide +kernel
theorem dX12_keep_57 : decode cX12_keep 57 = .ok (.ireturn, 1) := by decide +kernel
theorem dX12_goBack_0 : decode cX12_goBack 0 = .ok (.iload_n 1, 1) := by decide +kernel
theorem dX12_goBack_1 : decode cX12_goBack 1 = .ok (.i2l, 1) := by decide +kernel
theorem dX12_goBack_2 : decode cX12_goBack 2 = .ok (.lconst 0, 1) := by decide +kernel
theorem dX12_goBack_3 : decode cX12_goBack 3 = .ok (.lconst 1, 1) := by decide +kernel
theorem dX12_goBack_4 : decode cX12_goBack 4 = .ok (.invokestatic 86, 3) := by decide +kernel
theorem dX12_goBack_7 : decode cX12_goBack 7 = .ok (.ifCond .ne 6, 3) := by decide +kernel
theorem dX12_goBack_10 : decode cX12_goBack 10 = .ok (.ldc 171, 2) := by decide +kernel
theorem dX12_goBack_12 : decode cX12_goBack 12 = .ok (.ireturn, 1) := by decide +kernel
theorem dX12_goBack_13 : decode cX12_goBack 13 = .ok (.aload_n 0, 1) := by decide +kernel
theorem dX12_goBack_14 : decode cX12_goBack 14 = .ok (.getfield 25, 3) := by decide +kernel
theorem dX12_goBack_17 : decode cX12_goBack 17 = .ok (.iload_n 1, 1) := by decide +kernel
theorem dX12_goBack_18 : decode cX12_goBack 18 = .ok (.baload, 1) := by decide +kernel
theorem dX12_goBack_19 : decode cX12_goBack 19 = .ok (.ifCond .ne 6, 3) := by decide +kernel
theorem dX12_goBack_22 : decode cX12_goBack 22 = .ok (.ldc 200, 2) := by decide +kernel
theorem dX12_goBack_24 : decode cX12_goBack 24 = .ok (.ireturn, 1) := by decide +kernel
theorem dX12_goBack_25 : decode cX12_goBack 25 = .ok (.iconst 0, 1) := by decide +kernel
theorem dX12_goBack_26 : decode cX12_goBack 26 = .ok (.istore_n 2, 1) := by decide +kernel
theorem dX12_goBack_27 : decode cX12_goBack 27 = .ok (.iload_n 2, 1) := by decide +kernel
theorem dX12_goBack_28 : decode cX12_goBack 28 = .ok (.bipush 20, 2) := by decide +kernel
theorem dX12_goBack_30 : decode cX12_goBack 30 = .ok (.if_icmp .ge 26, 3) := by decide +kernel
theorem dX12_goBack_33 : decode cX12_goBack 33 = .ok (.aload_n 0, 1) := by decide +kernel
theorem dX12_goBack_34 : decode cX12_goBack 34 = .ok (.getfield 16, 3) := by decide +kernel
theorem dX12_goBack_37 : decode cX12_goBack 37 = .ok (.iload_n 2, 1) := by decide +kernel
theorem dX12_goBack_38 : decode cX12_goBack 38 = .ok (.aload_n 0, 1) := by decide +kernel
theorem dX12_goBack_39 : decode cX12_goBack 39 = .ok (.getfield 22, 3) := by decide +kernel
theorem dX12_goBack_42 : decode cX12_goBack 42 = .ok (.bipush 20, 2) := by decide +kernel
theorem dX12_goBack_44 : decode cX12_goBack 44 = .ok (.iload_n 1, 1) := by decide +kernel
theorem dX12_goBack_45 : decode cX12_goBack 45 = .ok (.imul, 1) := by decide +kernel
theorem dX12_goBack_46 : decode cX12_goBack 46 = .ok (.iload_n 2, 1) := by decide +kernel
theorem dX12_goBack_47 : decode cX12_goBack 47 = .ok (.iadd, 1) := by decide +kernel
theorem dX12_goBack_48 : decode cX12_goBack 48 = .ok (.iaload, 1) := by decide +kernel
theorem dX12_goBack_49 : decode cX12_goBack 49 = .ok (.iastore, 1) := by decide +kernel
theorem dX12_goBack_50 : decode cX12_goBack 50 = .ok (.iinc 2 1, 3) := by decide +kernel
theorem dX12_goBack_53 : decode cX12_goBack 53 = .ok (.goto (-26), 3) := by decide +kernel
theorem dX12_goBack_56 : decode cX12_goBack 56 = .ok (.aload_n 0, 1) := by decide +kernel
theorem dX12_goBack_57 : decode cX12_goBack 57 = .ok (.iconst 0, 1) := by decide +kernel
theorem dX12_goBack_58 : decode cX12_goBack 58 = .ok (.putfield 161, 3) := by decide +kernel
theorem dX12_goBack_61 : decode cX12_goBack 61 = .ok (.iconst 1, 1) := by decide +kernel
theorem dX12_goBack_62 : decode cX12_goBack 62 = .ok (.ireturn, 1) := by decide +kernel
