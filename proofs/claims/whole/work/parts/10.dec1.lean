/-! decode rows: the class -/
theorem dX0_init_0 : decode cX0_init 0 = .ok (.aload_n 0, 1) := by decide +kernel
theorem dX0_init_1 : decode cX0_init 1 = .ok (.invokespecial 3, 3) := by decide +kernel
theorem dX0_init_4 : decode cX0_init 4 = .ok (.aload_n 0, 1) := by decide +kernel
theorem dX0_init_5 : decode cX0_init 5 = .ok (.new 9, 3) := by decide +kernel
theorem dX0_init_8 : decode cX0_init 8 = .ok (.dup, 1) := by decide +kernel
theorem dX0_init_9 : decode cX0_init 9 = .ok (.bipush 20, 2) := by decide +kernel
theorem dX0_init_11 : decode cX0_init 11 = .ok (.invokespecial 11, 3) := by decide +kernel
theorem dX0_init_14 : decode cX0_init 14 = .ok (.putfield 14, 3) := by decide +kernel
theorem dX0_init_17 : decode cX0_init 17 = .ok (.aload_n 0, 1) := by decide +kernel
theorem dX0_init_18 : decode cX0_init 18 = .ok (.new 9, 3) := by decide +kernel
theorem dX0_init_21 : decode cX0_init 21 = .ok (.dup, 1) := by decide +kernel
theorem dX0_init_22 : decode cX0_init 22 = .ok (.bipush 20, 2) := by decide +kernel
theorem dX0_init_24 : decode cX0_init 24 = .ok (.invokespecial 11, 3) := by decide +kernel
theorem dX0_init_27 : decode cX0_init 27 = .ok (.putfield 20, 3) := by decide +kernel
theorem dX0_init_30 : decode cX0_init 30 = .ok (.aload_n 0, 1) := by decide +kernel
theorem dX0_init_31 : decode cX0_init 31 = .ok (.iconst 0, 1) := by decide +kernel
theorem dX0_init_32 : decode cX0_init 32 = .ok (.putfield 23, 3) := by decide +kernel
theorem dX0_init_35 : decode cX0_init 35 = .ok (.return_, 1) := by decide +kernel
theorem dX0_add_0 : decode cX0_add 0 = .ok (.aload_n 0, 1) := by decide +kernel
theorem dX0_add_1 : decode cX0_add 1 = .ok (.getfield 14, 3) := by decide +kernel
theorem dX0_add_4 : decode cX0_add 4 = .ok (.aload_n 0, 1) := by decide +kernel
theorem dX0_add_5 : decode cX0_add 5 = .ok (.getfield 23, 3) := by decide +kernel
theorem dX0_add_8 : decode cX0_add 8 = .ok (.iload_n 1, 1) := by decide +kernel
theorem dX0_add_9 : decode cX0_add 9 = .ok (.invokevirtual 27, 3) := by decide +kernel
theorem dX0_add_12 : decode cX0_add 12 = .ok (.aload_n 0, 1) := by decide +kernel
theorem dX0_add_13 : decode cX0_add 13 = .ok (.getfield 20, 3) := by decide +kernel
theorem dX0_add_16 : decode cX0_add 16 = .ok (.aload_n 0, 1) := by decide +kernel
theorem dX0_add_17 : decode cX0_add 17 = .ok (.getfield 23, 3) := by decide +kernel
theorem dX0_add_20 : decode cX0_add 20 = .ok (.iload_n 2, 1) := by decide +kernel
theorem dX0_add_21 : decode cX0_add 21 = .ok (.invokevirtual 27, 3) := by decide +kernel
theorem dX0_add_24 : decode cX0_add 24 = .ok (.aload_n 0, 1) := by decide +kernel
theorem dX0_add_25 : decode cX0_add 25 = .ok (.dup, 1) := by decide +kernel
theorem dX0_add_26 : decode cX0_add 26 = .ok (.getfield 23, 3) := by decide +kernel
theorem dX0_add_29 : decode cX0_add 29 = .ok (.iconst 1, 1) := by decide +kernel
theorem dX0_add_30 : decode cX0_add 30 = .ok (.iadd, 1) := by decide +kernel
theorem dX0_add_31 : decode cX0_add 31 = .ok (.putfield 23, 3) := by decide +kernel
theorem dX0_add_34 : decode cX0_add 34 = .ok (.aload_n 0, 1) := by decide +kernel
theorem dX0_add_35 : decode cX0_add 35 = .ok (.getfield 23, 3) := by decide +kernel
theorem dX0_add_38 : decode cX0_add 38 = .ok (.ireturn, 1) := by decide +kernel
theorem dX1_init_0 : decode cX1_init 0 = .ok (.aload_n 0, 1) := by decide +kernel
theorem dX1_init_1 : decode cX1_init 1 = .ok (.invokespecial 3, 3) := by decide +kernel
theorem dX1_init_4 : decode cX1_init 4 = .ok (.aload_n 0, 1) := by decide +kernel
theorem dX1_init_5 : decode cX1_init 5 = .ok (.new 9, 3) := by decide +kernel
theorem dX1_init_8 : decode cX1_init 8 = .ok (.dup, 1) := by decide +kernel
theorem dX1_init_9 : decode cX1_init 9 = .ok (.iconst 5, 1) := by decide +kernel
theorem dX1_init_10 : decode cX1_init 10 = .ok (.invokespecial 11, 3) := by decide +kernel
theorem dX1_init_13 : decode cX1_init 13 = .ok (.putfield 14, 3) := by decide +kernel
theorem dX1_init_16 : decode cX1_init 16 = .ok (.aload_n 0, 1) := by decide +kernel
theorem dX1_init_17 : decode cX1_init 17 = .ok (.iconst (-1), 1) := by decide +kernel
theorem dX1_init_18 : decode cX1_init 18 = .ok (.putfield 20, 3) := by decide +kernel
theorem dX1_init_21 : decode cX1_init 21 = .ok (.aload_n 0, 1) := by decide +kernel
theorem dX1_init_22 : decode cX1_init 22 = .ok (.iconst (-1), 1) := by decide +kernel
theorem dX1_init_23 : decode cX1_init 23 = .ok (.putfield 24, 3) := by decide +kernel
theorem dX1_init_26 : decode cX1_init 26 = .ok (.aload_n 0, 1) := by decide +kernel
theorem dX1_init_27 : decode cX1_init 27 = .ok (.iconst 0, 1) := by decide +kernel
theorem dX1_init_28 : decode cX1_init 28 = .ok (.putfield 27, 3) := by decide +kernel
theorem dX1_init_31 : decode cX1_init 31 = .ok (.aload_n 0, 1) := by decide +kernel
theorem dX1_init_32 : decode cX1_init 32 = .ok (.iconst 1, 1) := by decide +kernel
theorem dX1_init_33 : decode cX1_init 33 = .ok (.putfield 30, 3) := by decide +kernel
theorem dX1_init_36 : decode cX1_init 36 = .ok (.aload_n 0, 1) := by decide +kernel
theorem dX1_init_37 : decode cX1_init 37 = .ok (.iconst 0, 1) := by decide +kernel
theorem dX1_init_38 : decode cX1_init 38 = .ok (.putfield 33, 3) := by decide +kernel
theorem dX1_init_41 : decode cX1_init 41 = .ok (.return_, 1) := by decide +kernel
theorem dX1_fight_0 : decode cX1_fight 0 = .ok (.aload_n 0, 1) := by decide +kernel
theorem dX1_fight_1 : decode cX1_fight 1 = .ok (.getfield 14, 3) := by decide +kernel
theorem dX1_fight_4 : decode cX1_fight 4 = .ok (.iconst 0, 1) := by decide +kernel
theorem dX1_fight_5 : decode cX1_fight 5 = .ok (.invokevirtual 36, 3) := by decide +kernel
theorem dX1_fight_8 : decode cX1_fight 8 = .ok (.aload_n 2, 1) := by decide +kernel
theorem dX1_fight_9 : decode cX1_fight 9 = .ok (.invokevirtual 40, 3) := by decide +kernel
theorem dX1_fight_12 : decode cX1_fight 12 = .ok (.aload_n 0, 1) := by decide +kernel
theorem dX1_fight_13 : decode cX1_fight 13 = .ok (.iload_n 3, 1) := by decide +kernel
theorem dX1_fight_14 : decode cX1_fight 14 = .ok (.putfield 20, 3) := by decide +kernel
theorem dX1_fight_17 : decode cX1_fight 17 = .ok (.aload_n 0, 1) := by decide +kernel
theorem dX1_fight_18 : decode cX1_fight 18 = .ok (.iload 4, 2) := by decide +kernel
theorem dX1_fight_20 : decode cX1_fight 20 = .ok (.putfield 24, 3) := by decide +kernel
theorem dX1_fight_23 : decode cX1_fight 23 = .ok (.aload_n 0, 1) := by decide +kernel
theorem dX1_fight_24 : decode cX1_fight 24 = .ok (.iload 5, 2) := by decide +kernel
theorem dX1_fight_26 : decode cX1_fight 26 = .ok (.putfield 27, 3) := by decide +kernel
theorem dX1_fight_29 : decode cX1_fight 29 = .ok (.aload_n 0, 1) := by decide +kernel
theorem dX1_fight_30 : decode cX1_fight 30 = .ok (.aload_n 0, 1) := by decide +kernel
theorem dX1_fight_31 : decode cX1_fight 31 = .ok (.aload_n 1, 1) := by decide +kernel
theorem dX1_fight_32 : decode cX1_fight 32 = .ok (.iconst 0, 1) := by decide +kernel
theorem dX1_fight_33 : decode cX1_fight 33 = .ok (.invokevirtual 46, 3) := by decide +kernel
theorem dX1_fight_36 : decode cX1_fight 36 = .ok (.putfield 30, 3) := by decide +kernel
theorem dX1_fight_39 : decode cX1_fight 39 = .ok (.return_, 1) := by decide +kernel
theorem dX1_playedOut_0 : decode cX1_playedOut 0 = .ok (.aload_n 0, 1) := by decide +kernel
theorem dX1_playedOut_1 : decode cX1_playedOut 1 = .ok (.getfield 14, 3) := by decide +kernel
theorem dX1_playedOut_4 : decode cX1_playedOut 4 = .ok (.iload_n 2, 1) := by decide +kernel
theorem dX1_playedOut_5 : decode cX1_playedOut 5 = .ok (.invokevirtual 36, 3) := by decide +kernel
theorem dX1_playedOut_8 : decode cX1_playedOut 8 = .ok (.astore_n 3, 1) := by decide +kernel
theorem dX1_playedOut_9 : decode cX1_playedOut 9 = .ok (.iload_n 2, 1) := by decide +kernel
theorem dX1_playedOut_10 : decode cX1_playedOut 10 = .ok (.aload_n 0, 1) := by decide +kernel
theorem dX1_playedOut_11 : decode cX1_playedOut 11 = .ok (.getfield 27, 3) := by decide +kernel
theorem dX1_playedOut_14 : decode cX1_playedOut 14 = .ok (.if_icmp .lt 35, 3) := by decide +kernel
theorem dX1_playedOut_17 : decode cX1_playedOut 17 = .ok (.aload_n 3, 1) := by decide +kernel
theorem dX1_playedOut_18 : decode cX1_playedOut 18 = .ok (.getfield 50, 3) := by decide +kernel
theorem dX1_playedOut_21 : decode cX1_playedOut 21 = .ok (.aload_n 0, 1) := by decide +kernel
theorem dX1_playedOut_22 : decode cX1_playedOut 22 = .ok (.getfield 20, 3) := by decide +kernel
theorem dX1_playedOut_25 : decode cX1_playedOut 25 = .ok (.if_icmp .ne 7, 3) := by decide +kernel
theorem dX1_playedOut_28 : decode cX1_playedOut 28 = .ok (.iconst 2, 1) := by decide +kernel
theorem dX1_playedOut_29 : decode cX1_playedOut 29 = .ok (.goto 19, 3) := by decide +kernel
theorem dX1_playedOut_32 : decode cX1_playedOut 32 = .ok (.aload_n 3, 1) := by decide +kernel
theorem dX1_playedOut_33 : decode cX1_playedOut 33 = .ok (.getfield 50, 3) := by decide +kernel
theorem dX1_playedOut_36 : decode cX1_playedOut 36 = .ok (.aload_n 0, 1) := by decide +kernel
theorem dX1_playedOut_37 : decode cX1_playedOut 37 = .ok (.getfield 24, 3) := by decide +kernel
theorem dX1_playedOut_40 : decode cX1_playedOut 40 = .ok (.if_icmp .ne 7, 3) := by decide +kernel
theorem dX1_playedOut_43 : decode cX1_playedOut 43 = .ok (.iconst 0, 1) := by decide +kernel
theorem dX1_playedOut_44 : decode cX1_playedOut 44 = .ok (.goto 4, 3) := by decide +kernel
theorem dX1_playedOut_47 : decode cX1_playedOut 47 = .ok (.iconst 1, 1) := by decide +kernel
theorem dX1_playedOut_48 : decode cX1_playedOut 48 = .ok (.ireturn, 1) := by decide +kernel
theorem dX1_playedOut_49 : decode cX1_playedOut 49 = .ok (.iload_n 2, 1) := by decide +kernel
theorem dX1_playedOut_50 : decode cX1_playedOut 50 = .ok (.iconst 2, 1) := by decide +kernel
theorem dX1_playedOut_51 : decode cX1_playedOut 51 = .ok (.irem, 1) := by decide +kernel
theorem dX1_playedOut_52 : decode cX1_playedOut 52 = .ok (.ifCond .ne 7, 3) := by decide +kernel
theorem dX1_playedOut_55 : decode cX1_playedOut 55 = .ok (.iconst 1, 1) := by decide +kernel
theorem dX1_playedOut_56 : decode cX1_playedOut 56 = .ok (.goto 4, 3) := by decide +kernel
theorem dX1_playedOut_59 : decode cX1_playedOut 59 = .ok (.iconst 0, 1) := by decide +kernel
theorem dX1_playedOut_60 : decode cX1_playedOut 60 = .ok (.istore 4, 2) := by decide +kernel
theorem dX1_playedOut_62 : decode cX1_playedOut 62 = .ok (.iconst (-1), 1) := by decide +kernel
theorem dX1_playedOut_63 : decode cX1_playedOut 63 = .ok (.istore 5, 2) := by decide +kernel
theorem dX1_playedOut_65 : decode cX1_playedOut 65 = .ok (.iconst 0, 1) := by decide +kernel
theorem dX1_playedOut_66 : decode cX1_playedOut 66 = .ok (.istore 6, 2) := by decide +kernel
theorem dX1_playedOut_68 : decode cX1_playedOut 68 = .ok (.iconst 0, 1) := by decide +kernel
theorem dX1_playedOut_69 : decode cX1_playedOut 69 = .ok (.istore 7, 2) := by decide +kernel
theorem dX1_playedOut_71 : decode cX1_playedOut 71 = .ok (.iload 7, 2) := by decide +kernel
theorem dX1_playedOut_73 : decode cX1_playedOut 73 = .ok (.bipush 6, 2) := by decide +kernel
theorem dX1_playedOut_75 : decode cX1_playedOut 75 = .ok (.if_icmp .gt 129, 3) := by decide +kernel
theorem dX1_playedOut_78 : decode cX1_playedOut 78 = .ok (.iload 7, 2) := by decide +kernel
theorem dX1_playedOut_80 : decode cX1_playedOut 80 = .ok (.bipush 6, 2) := by decide +kernel
theorem dX1_playedOut_82 : decode cX1_playedOut 82 = .ok (.if_icmp .ge 32, 3) := by decide +kernel
theorem dX1_playedOut_85 : decode cX1_playedOut 85 = .ok (.aload_n 3, 1) := by decide +kernel
theorem dX1_playedOut_86 : decode cX1_playedOut 86 = .ok (.iload 7, 2) := by decide +kernel
theorem dX1_playedOut_88 : decode cX1_playedOut 88 = .ok (.iload 4, 2) := by decide +kernel
theorem dX1_playedOut_90 : decode cX1_playedOut 90 = .ok (.ifCond .eq 10, 3) := by decide +kernel
theorem dX1_playedOut_93 : decode cX1_playedOut 93 = .ok (.aload_n 0, 1) := by decide +kernel
theorem dX1_playedOut_94 : decode cX1_playedOut 94 = .ok (.getfield 20, 3) := by decide +kernel
theorem dX1_playedOut_97 : decode cX1_playedOut 97 = .ok (.goto 7, 3) := by decide +kernel
theorem dX1_playedOut_100 : decode cX1_playedOut 100 = .ok (.aload_n 0, 1) := by decide +kernel
theorem dX1_playedOut_101 : decode cX1_playedOut 101 = .ok (.getfield 24, 3) := by decide +kernel
theorem dX1_playedOut_104 : decode cX1_playedOut 104 = .ok (.aload_n 1, 1) := by decide +kernel
theorem dX1_playedOut_105 : decode cX1_playedOut 105 = .ok (.getfield 53, 3) := by decide +kernel
theorem dX1_playedOut_108 : decode cX1_playedOut 108 = .ok (.invokevirtual 58, 3) := by decide +kernel
theorem dX1_playedOut_111 : decode cX1_playedOut 111 = .ok (.goto 7, 3) := by decide +kernel
theorem dX1_playedOut_114 : decode cX1_playedOut 114 = .ok (.aload_n 3, 1) := by decide +kernel
theorem dX1_playedOut_115 : decode cX1_playedOut 115 = .ok (.getfield 50, 3) := by decide +kernel
theorem dX1_playedOut_118 : decode cX1_playedOut 118 = .ok (.istore 8, 2) := by decide +kernel
theorem dX1_playedOut_120 : decode cX1_playedOut 120 = .ok (.iload 6, 2) := by decide +kernel
theorem dX1_playedOut_122 : decode cX1_playedOut 122 = .ok (.iload 8, 2) := by decide +kernel
theorem dX1_playedOut_124 : decode cX1_playedOut 124 = .ok (.ishr, 1) := by decide +kernel
theorem dX1_playedOut_125 : decode cX1_playedOut 125 = .ok (.iconst 1, 1) := by decide +kernel
theorem dX1_playedOut_126 : decode cX1_playedOut 126 = .ok (.iand, 1) := by decide +kernel
theorem dX1_playedOut_127 : decode cX1_playedOut 127 = .ok (.ifCond .ne 71, 3) := by decide +kernel
theorem dX1_playedOut_130 : decode cX1_playedOut 130 = .ok (.iload 6, 2) := by decide +kernel
theorem dX1_playedOut_132 : decode cX1_playedOut 132 = .ok (.iconst 1, 1) := by decide +kernel
theorem dX1_playedOut_133 : decode cX1_playedOut 133 = .ok (.iload 8, 2) := by decide +kernel
theorem dX1_playedOut_135 : decode cX1_playedOut 135 = .ok (.ishl, 1) := by decide +kernel
theorem dX1_playedOut_136 : decode cX1_playedOut 136 = .ok (.ior, 1) := by decide +kernel
theorem dX1_playedOut_137 : decode cX1_playedOut 137 = .ok (.istore 6, 2) := by decide +kernel
theorem dX1_playedOut_139 : decode cX1_playedOut 139 = .ok (.aload_n 0, 1) := by decide +kernel
theorem dX1_playedOut_140 : decode cX1_playedOut 140 = .ok (.aload_n 1, 1) := by decide +kernel
theorem dX1_playedOut_141 : decode cX1_playedOut 141 = .ok (.iload_n 2, 1) := by decide +kernel
theorem dX1_playedOut_142 : decode cX1_playedOut 142 = .ok (.iload 8, 2) := by decide +kernel
theorem dX1_playedOut_144 : decode cX1_playedOut 144 = .ok (.invokevirtual 62, 3) := by decide +kernel
theorem dX1_playedOut_147 : decode cX1_playedOut 147 = .ok (.istore 9, 2) := by decide +kernel
theorem dX1_playedOut_149 : decode cX1_playedOut 149 = .ok (.iload 5, 2) := by decide +kernel
theorem dX1_playedOut_151 : decode cX1_playedOut 151 = .ok (.iconst (-1), 1) := by decide +kernel
theorem dX1_playedOut_152 : decode cX1_playedOut 152 = .ok (.if_icmp .eq 25, 3) := by decide +kernel
theorem dX1_playedOut_155 : decode cX1_playedOut 155 = .ok (.iload 4, 2) := by decide +kernel
theorem dX1_playedOut_157 : decode cX1_playedOut 157 = .ok (.ifCond .eq 13, 3) := by decide +kernel
theorem dX1_playedOut_160 : decode cX1_playedOut 160 = .ok (.iload 9, 2) := by decide +kernel
theorem dX1_playedOut_162 : decode cX1_playedOut 162 = .ok (.iload 5, 2) := by decide +kernel
theorem dX1_playedOut_164 : decode cX1_playedOut 164 = .ok (.if_icmp .le 34, 3) := by decide +kernel
theorem dX1_playedOut_167 : decode cX1_playedOut 167 = .ok (.goto 10, 3) := by decide +kernel
theorem dX1_playedOut_170 : decode cX1_playedOut 170 = .ok (.iload 9, 2) := by decide +kernel
theorem dX1_playedOut_172 : decode cX1_playedOut 172 = .ok (.iload 5, 2) := by decide +kernel
theorem dX1_playedOut_174 : decode cX1_playedOut 174 = .ok (.if_icmp .ge 24, 3) := by decide +kernel
theorem dX1_playedOut_177 : decode cX1_playedOut 177 = .ok (.iload 9, 2) := by decide +kernel
theorem dX1_playedOut_179 : decode cX1_playedOut 179 = .ok (.istore 5, 2) := by decide +kernel
theorem dX1_playedOut_181 : decode cX1_playedOut 181 = .ok (.aload_n 0, 1) := by decide +kernel
theorem dX1_playedOut_182 : decode cX1_playedOut 182 = .ok (.iload_n 2, 1) := by decide +kernel
theorem dX1_playedOut_183 : decode cX1_playedOut 183 = .ok (.ifCond .ne 8, 3) := by decide +kernel
theorem dX1_playedOut_186 : decode cX1_playedOut 186 = .ok (.iload 7, 2) := by decide +kernel
theorem dX1_playedOut_188 : decode cX1_playedOut 188 = .ok (.goto 7, 3) := by decide +kernel
theorem dX1_playedOut_191 : decode cX1_playedOut 191 = .ok (.aload_n 0, 1) := by decide +kernel
theorem dX1_playedOut_192 : decode cX1_playedOut 192 = .ok (.getfield 33, 3) := by decide +kernel
theorem dX1_playedOut_195 : decode cX1_playedOut 195 = .ok (.putfield 33, 3) := by decide +kernel
theorem dX1_playedOut_198 : decode cX1_playedOut 198 = .ok (.iinc 7 1, 3) := by decide +kernel
theorem dX1_playedOut_201 : decode cX1_playedOut 201 = .ok (.goto (-130), 3) := by decide +kernel
theorem dX1_playedOut_204 : decode cX1_playedOut 204 = .ok (.iload 5, 2) := by decide +kernel
theorem dX1_playedOut_206 : decode cX1_playedOut 206 = .ok (.ireturn, 1) := by decide +kernel
theorem dX1_endOf_0 : decode cX1_endOf 0 = .ok (.aload_n 0, 1) := by decide +kernel
theorem dX1_endOf_1 : decode cX1_endOf 1 = .ok (.getfield 14, 3) := by decide +kernel
theorem dX1_endOf_4 : decode cX1_endOf 4 = .ok (.iload_n 2, 1) := by decide +kernel
theorem dX1_endOf_5 : decode cX1_endOf 5 = .ok (.iconst 1, 1) := by decide +kernel
theorem dX1_endOf_6 : decode cX1_endOf 6 = .ok (.iadd, 1) := by decide +kernel
theorem dX1_endOf_7 : decode cX1_endOf 7 = .ok (.invokevirtual 36, 3) := by decide +kernel
theorem dX1_endOf_10 : decode cX1_endOf 10 = .ok (.astore 4, 2) := by decide +kernel
theorem dX1_endOf_12 : decode cX1_endOf 12 = .ok (.aload 4, 2) := by decide +kernel
theorem dX1_endOf_14 : decode cX1_endOf 14 = .ok (.aload_n 0, 1) := by decide +kernel
theorem dX1_endOf_15 : decode cX1_endOf 15 = .ok (.getfield 14, 3) := by decide +kernel
theorem dX1_endOf_18 : decode cX1_endOf 18 = .ok (.iload_n 2, 1) := by decide +kernel
theorem dX1_endOf_19 : decode cX1_endOf 19 = .ok (.invokevirtual 36, 3) := by decide +kernel
theorem dX1_endOf_22 : decode cX1_endOf 22 = .ok (.invokevirtual 40, 3) := by decide +kernel
theorem dX1_endOf_25 : decode cX1_endOf 25 = .ok (.aload 4, 2) := by decide +kernel
theorem dX1_endOf_27 : decode cX1_endOf 27 = .ok (.aload_n 1, 1) := by decide +kernel
theorem dX1_endOf_28 : decode cX1_endOf 28 = .ok (.iload_n 3, 1) := by decide +kernel
theorem dX1_endOf_29 : decode cX1_endOf 29 = .ok (.invokevirtual 66, 3) := by decide +kernel
theorem dX1_endOf_32 : decode cX1_endOf 32 = .ok (.aload_n 0, 1) := by decide +kernel
theorem dX1_endOf_33 : decode cX1_endOf 33 = .ok (.aload_n 1, 1) := by decide +kernel
theorem dX1_endOf_34 : decode cX1_endOf 34 = .ok (.iload_n 2, 1) := by decide +kernel
theorem dX1_endOf_35 : decode cX1_endOf 35 = .ok (.iconst 1, 1) := by decide +kernel
theorem dX1_endOf_36 : decode cX1_endOf 36 = .ok (.iadd, 1) := by decide +kernel
theorem dX1_endOf_37 : decode cX1_endOf 37 = .ok (.invokevirtual 46, 3) := by decide +kernel
theorem dX1_endOf_40 : decode cX1_endOf 40 = .ok (.ireturn, 1) := by decide +kernel
theorem dX2_init_0 : decode cX2_init 0 = .ok (.aload_n 0, 1) := by decide +kernel
theorem dX2_init_1 : decode cX2_init 1 = .ok (.invokespecial 3, 3) := by decide +kernel
theorem dX2_init_4 : decode cX2_init 4 = .ok (.aload_n 0, 1) := by decide +kernel
theorem dX2_init_5 : decode cX2_init 5 = .ok (.new 9, 3) := by decide +kernel
theorem dX2_init_8 : decode cX2_init 8 = .ok (.dup, 1) := by decide +kernel
theorem dX2_init_9 : decode cX2_init 9 = .ok (.iconst 5, 1) := by decide +kernel
theorem dX2_init_10 : decode cX2_init 10 = .ok (.invokespecial 11, 3) := by decide +kernel
theorem dX2_init_13 : decode cX2_init 13 = .ok (.putfield 14, 3) := by decide +kernel
theorem dX2_init_16 : decode cX2_init 16 = .ok (.aload_n 0, 1) := by decide +kernel
theorem dX2_init_17 : decode cX2_init 17 = .ok (.new 9, 3) := by decide +kernel
theorem dX2_init_20 : decode cX2_init 20 = .ok (.dup, 1) := by decide +kernel
theorem dX2_init_21 : decode cX2_init 21 = .ok (.iconst 5, 1) := by decide +kernel
theorem dX2_init_22 : decode cX2_init 22 = .ok (.invokespecial 11, 3) := by decide +kernel
theorem dX2_init_25 : decode cX2_init 25 = .ok (.putfield 20, 3) := by decide +kernel
theorem dX2_init_28 : decode cX2_init 28 = .ok (.aload_n 0, 1) := by decide +kernel
theorem dX2_init_29 : decode cX2_init 29 = .ok (.new 9, 3) := by decide +kernel
theorem dX2_init_32 : decode cX2_init 32 = .ok (.dup, 1) := by decide +kernel
theorem dX2_init_33 : decode cX2_init 33 = .ok (.bipush 6, 2) := by decide +kernel
theorem dX2_init_35 : decode cX2_init 35 = .ok (.invokespecial 11, 3) := by decide +kernel
theorem dX2_init_38 : decode cX2_init 38 = .ok (.putfield 23, 3) := by decide +kernel
theorem dX2_init_41 : decode cX2_init 41 = .ok (.aload_n 0, 1) := by decide +kernel
theorem dX2_init_42 : decode cX2_init 42 = .ok (.new 9, 3) := by decide +kernel
theorem dX2_init_45 : decode cX2_init 45 = .ok (.dup, 1) := by decide +kernel
theorem dX2_init_46 : decode cX2_init 46 = .ok (.bipush 6, 2) := by decide +kernel
theorem dX2_init_48 : decode cX2_init 48 = .ok (.invokespecial 11, 3) := by decide +kernel
theorem dX2_init_51 : decode cX2_init 51 = .ok (.putfield 26, 3) := by decide +kernel
theorem dX2_init_54 : decode cX2_init 54 = .ok (.aload_n 0, 1) := by decide +kernel
theorem dX2_init_55 : decode cX2_init 55 = .ok (.invokevirtual 29, 3) := by decide +kernel
theorem dX2_init_58 : decode cX2_init 58 = .ok (.return_, 1) := by decide +kernel
theorem dX2_makeUntold_0 : decode cX2_makeUntold 0 = .ok (.aload_n 0, 1) := by decide +kernel
theorem dX2_makeUntold_1 : decode cX2_makeUntold 1 = .ok (.iconst 0, 1) := by decide +kernel
theorem dX2_makeUntold_2 : decode cX2_makeUntold 2 = .ok (.putfield 32, 3) := by decide +kernel
theorem dX2_makeUntold_5 : decode cX2_makeUntold 5 = .ok (.aload_n 0, 1) := by decide +kernel
theorem dX2_makeUntold_6 : decode cX2_makeUntold 6 = .ok (.iconst 0, 1) := by decide +kernel
theorem dX2_makeUntold_7 : decode cX2_makeUntold 7 = .ok (.putfield 36, 3) := by decide +kernel
theorem dX2_makeUntold_10 : decode cX2_makeUntold 10 = .ok (.aload_n 0, 1) := by decide +kernel
theorem dX2_makeUntold_11 : decode cX2_makeUntold 11 = .ok (.iconst 5, 1) := by decide +kernel
theorem dX2_makeUntold_12 : decode cX2_makeUntold 12 = .ok (.putfield 39, 3) := by decide +kernel
theorem dX2_makeUntold_15 : decode cX2_makeUntold 15 = .ok (.aload_n 0, 1) := by decide +kernel
theorem dX2_makeUntold_16 : decode cX2_makeUntold 16 = .ok (.bipush 20, 2) := by decide +kernel
theorem dX2_makeUntold_18 : decode cX2_makeUntold 18 = .ok (.putfield 42, 3) := by decide +kernel
theorem dX2_makeUntold_21 : decode cX2_makeUntold 21 = .ok (.aload_n 0, 1) := by decide +kernel
theorem dX2_makeUntold_22 : decode cX2_makeUntold 22 = .ok (.getfield 14, 3) := by decide +kernel
theorem dX2_makeUntold_25 : decode cX2_makeUntold 25 = .ok (.iconst 0, 1) := by decide +kernel
theorem dX2_makeUntold_26 : decode cX2_makeUntold 26 = .ok (.invokevirtual 45, 3) := by decide +kernel
theorem dX2_makeUntold_29 : decode cX2_makeUntold 29 = .ok (.aload_n 0, 1) := by decide +kernel
theorem dX2_makeUntold_30 : decode cX2_makeUntold 30 = .ok (.getfield 20, 3) := by decide +kernel
theorem dX2_makeUntold_33 : decode cX2_makeUntold 33 = .ok (.iconst 0, 1) := by decide +kernel
theorem dX2_makeUntold_34 : decode cX2_makeUntold 34 = .ok (.invokevirtual 45, 3) := by decide +kernel
theorem dX2_makeUntold_37 : decode cX2_makeUntold 37 = .ok (.aload_n 0, 1) := by decide +kernel
theorem dX2_makeUntold_38 : decode cX2_makeUntold 38 = .ok (.getfield 23, 3) := by decide +kernel
theorem dX2_makeUntold_41 : decode cX2_makeUntold 41 = .ok (.iconst 1, 1) := by decide +kernel
theorem dX2_makeUntold_42 : decode cX2_makeUntold 42 = .ok (.invokevirtual 45, 3) := by decide +kernel
theorem dX2_makeUntold_45 : decode cX2_makeUntold 45 = .ok (.aload_n 0, 1) := by decide +kernel
theorem dX2_makeUntold_46 : decode cX2_makeUntold 46 = .ok (.getfield 26, 3) := by decide +kernel
theorem dX2_makeUntold_49 : decode cX2_makeUntold 49 = .ok (.iconst 4, 1) := by decide +kernel
theorem dX2_makeUntold_50 : decode cX2_makeUntold 50 = .ok (.invokevirtual 45, 3) := by decide +kernel
theorem dX2_makeUntold_53 : decode cX2_makeUntold 53 = .ok (.return_, 1) := by decide +kernel
theorem dX2_copyFrom_0 : decode cX2_copyFrom 0 = .ok (.aload_n 0, 1) := by decide +kernel
theorem dX2_copyFrom_1 : decode cX2_copyFrom 1 = .ok (.aload_n 1, 1) := by decide +kernel
theorem dX2_copyFrom_2 : decode cX2_copyFrom 2 = .ok (.getfield 32, 3) := by decide +kernel
theorem dX2_copyFrom_5 : decode cX2_copyFrom 5 = .ok (.putfield 32, 3) := by decide +kernel
theorem dX2_copyFrom_8 : decode cX2_copyFrom 8 = .ok (.aload_n 0, 1) := by decide +kernel
theorem dX2_copyFrom_9 : decode cX2_copyFrom 9 = .ok (.aload_n 1, 1) := by decide +kernel
theorem dX2_copyFrom_10 : decode cX2_copyFrom 10 = .ok (.getfield 36, 3) := by decide +kernel
theorem dX2_copyFrom_13 : decode cX2_copyFrom 13 = .ok (.putfield 36, 3) := by decide +kernel
theorem dX2_copyFrom_16 : decode cX2_copyFrom 16 = .ok (.aload_n 0, 1) := by decide +kernel
theorem dX2_copyFrom_17 : decode cX2_copyFrom 17 = .ok (.aload_n 1, 1) := by decide +kernel
theorem dX2_copyFrom_18 : decode cX2_copyFrom 18 = .ok (.getfield 39, 3) := by decide +kernel
theorem dX2_copyFrom_21 : decode cX2_copyFrom 21 = .ok (.putfield 39, 3) := by decide +kernel
theorem dX2_copyFrom_24 : decode cX2_copyFrom 24 = .ok (.aload_n 0, 1) := by decide +kernel
theorem dX2_copyFrom_25 : decode cX2_copyFrom 25 = .ok (.aload_n 1, 1) := by decide +kernel
theorem dX2_copyFrom_26 : decode cX2_copyFrom 26 = .ok (.getfield 42, 3) := by decide +kernel
theorem dX2_copyFrom_29 : decode cX2_copyFrom 29 = .ok (.putfield 42, 3) := by decide +kernel
theorem dX2_copyFrom_32 : decode cX2_copyFrom 32 = .ok (.aload_n 0, 1) := by decide +kernel
theorem dX2_copyFrom_33 : decode cX2_copyFrom 33 = .ok (.getfield 14, 3) := by decide +kernel
theorem dX2_copyFrom_36 : decode cX2_copyFrom 36 = .ok (.aload_n 1, 1) := by decide +kernel
theorem dX2_copyFrom_37 : decode cX2_copyFrom 37 = .ok (.getfield 14, 3) := by decide +kernel
theorem dX2_copyFrom_40 : decode cX2_copyFrom 40 = .ok (.invokevirtual 48, 3) := by decide +kernel
theorem dX2_copyFrom_43 : decode cX2_copyFrom 43 = .ok (.aload_n 0, 1) := by decide +kernel
theorem dX2_copyFrom_44 : decode cX2_copyFrom 44 = .ok (.getfield 20, 3) := by decide +kernel
theorem dX2_copyFrom_47 : decode cX2_copyFrom 47 = .ok (.aload_n 1, 1) := by decide +kernel
theorem dX2_copyFrom_48 : decode cX2_copyFrom 48 = .ok (.getfield 20, 3) := by decide +kernel
theorem dX2_copyFrom_51 : decode cX2_copyFrom 51 = .ok (.invokevirtual 48, 3) := by decide +kernel
theorem dX2_copyFrom_54 : decode cX2_copyFrom 54 = .ok (.aload_n 0, 1) := by decide +kernel
theorem dX2_copyFrom_55 : decode cX2_copyFrom 55 = .ok (.getfield 23, 3) := by decide +kernel
theorem dX2_copyFrom_58 : decode cX2_copyFrom 58 = .ok (.aload_n 1, 1) := by decide +kernel
theorem dX2_copyFrom_59 : decode cX2_copyFrom 59 = .ok (.getfield 23, 3) := by decide +kernel
theorem dX2_copyFrom_62 : decode cX2_copyFrom 62 = .ok (.invokevirtual 48, 3) := by decide +kernel
theorem dX2_copyFrom_65 : decode cX2_copyFrom 65 = .ok (.aload_n 0, 1) := by decide +kernel
theorem dX2_copyFrom_66 : decode cX2_copyFrom 66 = .ok (.getfield 26, 3) := by decide +kernel
theorem dX2_copyFrom_69 : decode cX2_copyFrom 69 = .ok (.aload_n 1, 1) := by decide +kernel
theorem dX2_copyFrom_70 : decode cX2_copyFrom 70 = .ok (.getfield 26, 3) := by decide +kernel
theorem dX2_copyFrom_73 : decode cX2_copyFrom 73 = .ok (.invokevirtual 48, 3) := by decide +kernel
theorem dX2_copyFrom_76 : decode cX2_copyFrom 76 = .ok (.return_, 1) := by decide +kernel
theorem dX3_init_0 : decode cX3_init 0 = .ok (.aload_n 0, 1) := by decide +kernel
theorem dX3_init_1 : decode cX3_init 1 = .ok (.invokespecial 3, 3) := by decide +kernel
theorem dX3_init_4 : decode cX3_init 4 = .ok (.aload_n 0, 1) := by decide +kernel
theorem dX3_init_5 : decode cX3_init 5 = .ok (.new 9, 3) := by decide +kernel
theorem dX3_init_8 : decode cX3_init 8 = .ok (.dup, 1) := by decide +kernel
theorem dX3_init_9 : decode cX3_init 9 = .ok (.bipush 12, 2) := by decide +kernel
theorem dX3_init_11 : decode cX3_init 11 = .ok (.invokespecial 11, 3) := by decide +kernel
theorem dX3_init_14 : decode cX3_init 14 = .ok (.putfield 14, 3) := by decide +kernel
theorem dX3_init_17 : decode cX3_init 17 = .ok (.aload_n 0, 1) := by decide +kernel
theorem dX3_init_18 : decode cX3_init 18 = .ok (.new 9, 3) := by decide +kernel
theorem dX3_init_21 : decode cX3_init 21 = .ok (.dup, 1) := by decide +kernel
theorem dX3_init_22 : decode cX3_init 22 = .ok (.bipush 12, 2) := by decide +kernel
theorem dX3_init_24 : decode cX3_init 24 = .ok (.invokespecial 11, 3) := by decide +kernel
theorem dX3_init_27 : decode cX3_init 27 = .ok (.putfield 20, 3) := by decide +kernel
theorem dX3_init_30 : decode cX3_init 30 = .ok (.aload_n 0, 1) := by decide +kernel
theorem dX3_init_31 : decode cX3_init 31 = .ok (.new 9, 3) := by decide +kernel
theorem dX3_init_34 : decode cX3_init 34 = .ok (.dup, 1) := by decide +kernel
theorem dX3_init_35 : decode cX3_init 35 = .ok (.bipush 12, 2) := by decide +kernel
theorem dX3_init_37 : decode cX3_init 37 = .ok (.invokespecial 11, 3) := by decide +kernel
theorem dX3_init_40 : decode cX3_init 40 = .ok (.putfield 23, 3) := by decide +kernel
theorem dX3_init_43 : decode cX3_init 43 = .ok (.aload_n 0, 1) := by decide +kernel
theorem dX3_init_44 : decode cX3_init 44 = .ok (.new 9, 3) := by decide +kernel
theorem dX3_init_47 : decode cX3_init 47 = .ok (.dup, 1) := by decide +kernel
theorem dX3_init_48 : decode cX3_init 48 = .ok (.bipush 12, 2) := by decide +kernel
theorem dX3_init_50 : decode cX3_init 50 = .ok (.invokespecial 11, 3) := by decide +kernel
theorem dX3_init_53 : decode cX3_init 53 = .ok (.putfield 26, 3) := by decide +kernel
theorem dX3_init_56 : decode cX3_init 56 = .ok (.aload_n 0, 1) := by decide +kernel
theorem dX3_init_57 : decode cX3_init 57 = .ok (.iconst 0, 1) := by decide +kernel
theorem dX3_init_58 : decode cX3_init 58 = .ok (.putfield 29, 3) := by decide +kernel
theorem dX3_init_61 : decode cX3_init 61 = .ok (.return_, 1) := by decide +kernel
theorem dX3_add_0 : decode cX3_add 0 = .ok (.aload_n 0, 1) := by decide +kernel
theorem dX3_add_1 : decode cX3_add 1 = .ok (.getfield 14, 3) := by decide +kernel
theorem dX3_add_4 : decode cX3_add 4 = .ok (.aload_n 0, 1) := by decide +kernel
theorem dX3_add_5 : decode cX3_add 5 = .ok (.getfield 29, 3) := by decide +kernel
theorem dX3_add_8 : decode cX3_add 8 = .ok (.iload_n 1, 1) := by decide +kernel
theorem dX3_add_9 : decode cX3_add 9 = .ok (.invokevirtual 33, 3) := by decide +kernel
theorem dX3_add_12 : decode cX3_add 12 = .ok (.aload_n 0, 1) := by decide +kernel
theorem dX3_add_13 : decode cX3_add 13 = .ok (.getfield 20, 3) := by decide +kernel
theorem dX3_add_16 : decode cX3_add 16 = .ok (.aload_n 0, 1) := by decide +kernel
theorem dX3_add_17 : decode cX3_add 17 = .ok (.getfield 29, 3) := by decide +kernel
theorem dX3_add_20 : decode cX3_add 20 = .ok (.iload_n 2, 1) := by decide +kernel
theorem dX3_add_21 : decode cX3_add 21 = .ok (.invokevirtual 33, 3) := by decide +kernel
theorem dX3_add_24 : decode cX3_add 24 = .ok (.aload_n 0, 1) := by decide +kernel
theorem dX3_add_25 : decode cX3_add 25 = .ok (.getfield 23, 3) := by decide +kernel
theorem dX3_add_28 : decode cX3_add 28 = .ok (.aload_n 0, 1) := by decide +kernel
theorem dX3_add_29 : decode cX3_add 29 = .ok (.getfield 29, 3) := by decide +kernel
theorem dX3_add_32 : decode cX3_add 32 = .ok (.iload_n 3, 1) := by decide +kernel
theorem dX3_add_33 : decode cX3_add 33 = .ok (.invokevirtual 33, 3) := by decide +kernel
theorem dX3_add_36 : decode cX3_add 36 = .ok (.aload_n 0, 1) := by decide +kernel
theorem dX3_add_37 : decode cX3_add 37 = .ok (.getfield 26, 3) := by decide +kernel
theorem dX3_add_40 : decode cX3_add 40 = .ok (.aload_n 0, 1) := by decide +kernel
theorem dX3_add_41 : decode cX3_add 41 = .ok (.getfield 29, 3) := by decide +kernel
theorem dX3_add_44 : decode cX3_add 44 = .ok (.iload 4, 2) := by decide +kernel
theorem dX3_add_46 : decode cX3_add 46 = .ok (.invokevirtual 33, 3) := by decide +kernel
theorem dX3_add_49 : decode cX3_add 49 = .ok (.aload_n 0, 1) := by decide +kernel
theorem dX3_add_50 : decode cX3_add 50 = .ok (.dup, 1) := by decide +kernel
theorem dX3_add_51 : decode cX3_add 51 = .ok (.getfield 29, 3) := by decide +kernel
theorem dX3_add_54 : decode cX3_add 54 = .ok (.iconst 1, 1) := by decide +kernel
theorem dX3_add_55 : decode cX3_add 55 = .ok (.iadd, 1) := by decide +kernel
theorem dX3_add_56 : decode cX3_add 56 = .ok (.putfield 29, 3) := by decide +kernel
theorem dX3_add_59 : decode cX3_add 59 = .ok (.aload_n 0, 1) := by decide +kernel
theorem dX3_add_60 : decode cX3_add 60 = .ok (.getfield 29, 3) := by decide +kernel
theorem dX3_add_63 : decode cX3_add 63 = .ok (.ireturn, 1) := by decide +kernel
theorem dX3_fitting_0 : decode cX3_fitting 0 = .ok (.iconst 0, 1) := by decide +kernel
theorem dX3_fitting_1 : decode cX3_fitting 1 = .ok (.istore_n 3, 1) := by decide +kernel
theorem dX3_fitting_2 : decode cX3_fitting 2 = .ok (.iconst 0, 1) := by decide +kernel
theorem dX3_fitting_3 : decode cX3_fitting 3 = .ok (.istore 4, 2) := by decide +kernel
theorem dX3_fitting_5 : decode cX3_fitting 5 = .ok (.iload 4, 2) := by decide +kernel
theorem dX3_fitting_7 : decode cX3_fitting 7 = .ok (.bipush 7, 2) := by decide +kernel
theorem dX3_fitting_9 : decode cX3_fitting 9 = .ok (.if_icmp .ge 37, 3) := by decide +kernel
theorem dX3_fitting_12 : decode cX3_fitting 12 = .ok (.bipush 115, 2) := by decide +kernel
theorem dX3_fitting_14 : decode cX3_fitting 14 = .ok (.iload 4, 2) := by decide +kernel
theorem dX3_fitting_16 : decode cX3_fitting 16 = .ok (.ishr, 1) := by decide +kernel
theorem dX3_fitting_17 : decode cX3_fitting 17 = .ok (.iconst 1, 1) := by decide +kernel
theorem dX3_fitting_18 : decode cX3_fitting 18 = .ok (.iand, 1) := by decide +kernel
theorem dX3_fitting_19 : decode cX3_fitting 19 = .ok (.ifCond .eq 21, 3) := by decide +kernel
theorem dX3_fitting_22 : decode cX3_fitting 22 = .ok (.aload_n 0, 1) := by decide +kernel
theorem dX3_fitting_23 : decode cX3_fitting 23 = .ok (.iload 4, 2) := by decide +kernel
theorem dX3_fitting_25 : decode cX3_fitting 25 = .ok (.iload_n 1, 1) := by decide +kernel
theorem dX3_fitting_26 : decode cX3_fitting 26 = .ok (.iload_n 2, 1) := by decide +kernel
theorem dX3_fitting_27 : decode cX3_fitting 27 = .ok (.invokevirtual 37, 3) := by decide +kernel
theorem dX3_fitting_30 : decode cX3_fitting 30 = .ok (.ifCond .eq 10, 3) := by decide +kernel
theorem dX3_fitting_33 : decode cX3_fitting 33 = .ok (.iload_n 3, 1) := by decide +kernel
theorem dX3_fitting_34 : decode cX3_fitting 34 = .ok (.iconst 1, 1) := by decide +kernel
theorem dX3_fitting_35 : decode cX3_fitting 35 = .ok (.iload 4, 2) := by decide +kernel
theorem dX3_fitting_37 : decode cX3_fitting 37 = .ok (.ishl, 1) := by decide +kernel
theorem dX3_fitting_38 : decode cX3_fitting 38 = .ok (.ior, 1) := by decide +kernel
theorem dX3_fitting_39 : decode cX3_fitting 39 = .ok (.istore_n 3, 1) := by decide +kernel
theorem dX3_fitting_40 : decode cX3_fitting 40 = .ok (.iinc 4 1, 3) := by decide +kernel
theorem dX3_fitting_43 : decode cX3_fitting 43 = .ok (.goto (-38), 3) := by decide +kernel
theorem dX3_fitting_46 : decode cX3_fitting 46 = .ok (.iload_n 3, 1) := by decide +kernel
theorem dX3_fitting_47 : decode cX3_fitting 47 = .ok (.ireturn, 1) := by decide +kernel
theorem dX3_fits_0 : decode cX3_fits 0 = .ok (.iconst 0, 1) := by decide +kernel
theorem dX3_fits_1 : decode cX3_fits 1 = .ok (.istore 4, 2) := by decide +kernel
theorem dX3_fits_3 : decode cX3_fits 3 = .ok (.iload 4, 2) := by decide +kernel
theorem dX3_fits_5 : decode cX3_fits 5 = .ok (.aload_n 0, 1) := by decide +kernel
theorem dX3_fits_6 : decode cX3_fits 6 = .ok (.getfield 29, 3) := by decide +kernel
theorem dX3_fits_9 : decode cX3_fits 9 = .ok (.if_icmp .ge 59, 3) := by decide +kernel
theorem dX3_fits_12 : decode cX3_fits 12 = .ok (.aload_n 0, 1) := by decide +kernel
theorem dX3_fits_13 : decode cX3_fits 13 = .ok (.getfield 14, 3) := by decide +kernel
theorem dX3_fits_16 : decode cX3_fits 16 = .ok (.iload 4, 2) := by decide +kernel
theorem dX3_fits_18 : decode cX3_fits 18 = .ok (.invokevirtual 41, 3) := by decide +kernel
theorem dX3_fits_21 : decode cX3_fits 21 = .ok (.iload_n 2, 1) := by decide +kernel
theorem dX3_fits_22 : decode cX3_fits 22 = .ok (.if_icmp .ne 40, 3) := by decide +kernel
theorem dX3_fits_25 : decode cX3_fits 25 = .ok (.iload_n 1, 1) := by decide +kernel
theorem dX3_fits_26 : decode cX3_fits 26 = .ok (.aload_n 0, 1) := by decide +kernel
theorem dX3_fits_27 : decode cX3_fits 27 = .ok (.getfield 20, 3) := by decide +kernel
theorem dX3_fits_30 : decode cX3_fits 30 = .ok (.iload 4, 2) := by decide +kernel
theorem dX3_fits_32 : decode cX3_fits 32 = .ok (.invokevirtual 41, 3) := by decide +kernel
theorem dX3_fits_35 : decode cX3_fits 35 = .ok (.aload_n 0, 1) := by decide +kernel
theorem dX3_fits_36 : decode cX3_fits 36 = .ok (.getfield 23, 3) := by decide +kernel
theorem dX3_fits_39 : decode cX3_fits 39 = .ok (.iload 4, 2) := by decide +kernel
theorem dX3_fits_41 : decode cX3_fits 41 = .ok (.invokevirtual 41, 3) := by decide +kernel
theorem dX3_fits_44 : decode cX3_fits 44 = .ok (.iload_n 3, 1) := by decide +kernel
theorem dX3_fits_45 : decode cX3_fits 45 = .ok (.invokestatic 45, 3) := by decide +kernel
theorem dX3_fits_48 : decode cX3_fits 48 = .ok (.aload_n 0, 1) := by decide +kernel
theorem dX3_fits_49 : decode cX3_fits 49 = .ok (.getfield 26, 3) := by decide +kernel
theorem dX3_fits_52 : decode cX3_fits 52 = .ok (.iload 4, 2) := by decide +kernel
theorem dX3_fits_54 : decode cX3_fits 54 = .ok (.invokevirtual 41, 3) := by decide +kernel
theorem dX3_fits_57 : decode cX3_fits 57 = .ok (.if_icmp .eq 5, 3) := by decide +kernel
theorem dX3_fits_60 : decode cX3_fits 60 = .ok (.iconst 0, 1) := by decide +kernel
theorem dX3_fits_61 : decode cX3_fits 61 = .ok (.ireturn, 1) := by decide +kernel
theorem dX3_fits_62 : decode cX3_fits 62 = .ok (.iinc 4 1, 3) := by decide +kernel
theorem dX3_fits_65 : decode cX3_fits 65 = .ok (.goto (-62), 3) := by decide +kernel
theorem dX3_fits_68 : decode cX3_fits 68 = .ok (.iconst 1, 1) := by decide +kernel
theorem dX3_fits_69 : decode cX3_fits 69 = .ok (.ireturn, 1) := by decide +kernel
theorem dX4_init_0 : decode cX4_init 0 = .ok (.aload_n 0, 1) := by decide +kernel
theorem dX4_init_1 : decode cX4_init 1 = .ok (.invokespecial 3, 3) := by decide +kernel
theorem dX4_init_4 : decode cX4_init 4 = .ok (.aload_n 0, 1) := by decide +kernel
theorem dX4_init_5 : decode cX4_init 5 = .ok (.new 9, 3) := by decide +kernel
theorem dX4_init_8 : decode cX4_init 8 = .ok (.dup, 1) := by decide +kernel
theorem dX4_init_9 : decode cX4_init 9 = .ok (.bipush 30, 2) := by decide +kernel
theorem dX4_init_11 : decode cX4_init 11 = .ok (.invokespecial 11, 3) := by decide +kernel
theorem dX4_init_14 : decode cX4_init 14 = .ok (.putfield 14, 3) := by decide +kernel
theorem dX4_init_17 : decode cX4_init 17 = .ok (.aload_n 0, 1) := by decide +kernel
theorem dX4_init_18 : decode cX4_init 18 = .ok (.iconst 0, 1) := by decide +kernel
theorem dX4_init_19 : decode cX4_init 19 = .ok (.putfield 20, 3) := by decide +kernel
theorem dX4_init_22 : decode cX4_init 22 = .ok (.aload_n 0, 1) := by decide +kernel
theorem dX4_init_23 : decode cX4_init 23 = .ok (.iconst 0, 1) := by decide +kernel
theorem dX4_init_24 : decode cX4_init 24 = .ok (.putfield 24, 3) := by decide +kernel
theorem dX4_init_27 : decode cX4_init 27 = .ok (.return_, 1) := by decide +kernel
theorem dX4_take_0 : decode cX4_take 0 = .ok (.aload_n 0, 1) := by decide +kernel
theorem dX4_take_1 : decode cX4_take 1 = .ok (.getfield 14, 3) := by decide +kernel
theorem dX4_take_4 : decode cX4_take 4 = .ok (.aload_n 0, 1) := by decide +kernel
theorem dX4_take_5 : decode cX4_take 5 = .ok (.getfield 20, 3) := by decide +kernel
theorem dX4_take_8 : decode cX4_take 8 = .ok (.invokevirtual 27, 3) := by decide +kernel
theorem dX4_take_11 : decode cX4_take 11 = .ok (.aload_n 1, 1) := by decide +kernel
theorem dX4_take_12 : decode cX4_take 12 = .ok (.invokevirtual 31, 3) := by decide +kernel
theorem dX4_take_15 : decode cX4_take 15 = .ok (.aload_n 0, 1) := by decide +kernel
theorem dX4_take_16 : decode cX4_take 16 = .ok (.aload_n 0, 1) := by decide +kernel
theorem dX4_take_17 : decode cX4_take 17 = .ok (.getfield 20, 3) := by decide +kernel
theorem dX4_take_20 : decode cX4_take 20 = .ok (.iconst 1, 1) := by decide +kernel
theorem dX4_take_21 : decode cX4_take 21 = .ok (.iadd, 1) := by decide +kernel
theorem dX4_take_22 : decode cX4_take 22 = .ok (.bipush 30, 2) := by decide +kernel
theorem dX4_take_24 : decode cX4_take 24 = .ok (.if_icmp .ge 12, 3) := by decide +kernel
theorem dX4_take_27 : decode cX4_take 27 = .ok (.aload_n 0, 1) := by decide +kernel
theorem dX4_take_28 : decode cX4_take 28 = .ok (.getfield 20, 3) := by decide +kernel
theorem dX4_take_31 : decode cX4_take 31 = .ok (.iconst 1, 1) := by decide +kernel
theorem dX4_take_32 : decode cX4_take 32 = .ok (.iadd, 1) := by decide +kernel
theorem dX4_take_33 : decode cX4_take 33 = .ok (.goto 4, 3) := by decide +kernel
theorem dX4_take_36 : decode cX4_take 36 = .ok (.iconst 0, 1) := by decide +kernel
theorem dX4_take_37 : decode cX4_take 37 = .ok (.putfield 20, 3) := by decide +kernel
theorem dX4_take_40 : decode cX4_take 40 = .ok (.aload_n 0, 1) := by decide +kernel
theorem dX4_take_41 : decode cX4_take 41 = .ok (.bipush 30, 2) := by decide +kernel
theorem dX4_take_43 : decode cX4_take 43 = .ok (.aload_n 0, 1) := by decide +kernel
theorem dX4_take_44 : decode cX4_take 44 = .ok (.getfield 24, 3) := by decide +kernel
theorem dX4_take_47 : decode cX4_take 47 = .ok (.iconst 1, 1) := by decide +kernel
theorem dX4_take_48 : decode cX4_take 48 = .ok (.iadd, 1) := by decide +kernel
theorem dX4_take_49 : decode cX4_take 49 = .ok (.invokestatic 37, 3) := by decide +kernel
theorem dX4_take_52 : decode cX4_take 52 = .ok (.putfield 24, 3) := by decide +kernel
theorem dX4_take_55 : decode cX4_take 55 = .ok (.return_, 1) := by decide +kernel
theorem dX4_takeBack_0 : decode cX4_takeBack 0 = .ok (.aload_n 0, 1) := by decide +kernel
theorem dX4_takeBack_1 : decode cX4_takeBack 1 = .ok (.aload_n 0, 1) := by decide +kernel
theorem dX4_takeBack_2 : decode cX4_takeBack 2 = .ok (.getfield 20, 3) := by decide +kernel
theorem dX4_takeBack_5 : decode cX4_takeBack 5 = .ok (.iload_n 1, 1) := by decide +kernel
theorem dX4_takeBack_6 : decode cX4_takeBack 6 = .ok (.if_icmp .lt 12, 3) := by decide +kernel
theorem dX4_takeBack_9 : decode cX4_takeBack 9 = .ok (.aload_n 0, 1) := by decide +kernel
theorem dX4_takeBack_10 : decode cX4_takeBack 10 = .ok (.getfield 20, 3) := by decide +kernel
theorem dX4_takeBack_13 : decode cX4_takeBack 13 = .ok (.iload_n 1, 1) := by decide +kernel
theorem dX4_takeBack_14 : decode cX4_takeBack 14 = .ok (.isub, 1) := by decide +kernel
theorem dX4_takeBack_15 : decode cX4_takeBack 15 = .ok (.goto 12, 3) := by decide +kernel
theorem dX4_takeBack_18 : decode cX4_takeBack 18 = .ok (.aload_n 0, 1) := by decide +kernel
theorem dX4_takeBack_19 : decode cX4_takeBack 19 = .ok (.getfield 20, 3) := by decide +kernel
theorem dX4_takeBack_22 : decode cX4_takeBack 22 = .ok (.iload_n 1, 1) := by decide +kernel
theorem dX4_takeBack_23 : decode cX4_takeBack 23 = .ok (.isub, 1) := by decide +kernel
theorem dX4_takeBack_24 : decode cX4_takeBack 24 = .ok (.bipush 30, 2) := by decide +kernel
theorem dX4_takeBack_26 : decode cX4_takeBack 26 = .ok (.iadd, 1) := by decide +kernel
theorem dX4_takeBack_27 : decode cX4_takeBack 27 = .ok (.putfield 20, 3) := by decide +kernel
theorem dX4_takeBack_30 : decode cX4_takeBack 30 = .ok (.aload_n 0, 1) := by decide +kernel
theorem dX4_takeBack_31 : decode cX4_takeBack 31 = .ok (.dup, 1) := by decide +kernel
theorem dX4_takeBack_32 : decode cX4_takeBack 32 = .ok (.getfield 24, 3) := by decide +kernel
theorem dX4_takeBack_35 : decode cX4_takeBack 35 = .ok (.iload_n 1, 1) := by decide +kernel
theorem dX4_takeBack_36 : decode cX4_takeBack 36 = .ok (.isub, 1) := by decide +kernel
theorem dX4_takeBack_37 : decode cX4_takeBack 37 = .ok (.putfield 24, 3) := by decide +kernel
theorem dX4_takeBack_40 : decode cX4_takeBack 40 = .ok (.aload_n 0, 1) := by decide +kernel
theorem dX4_takeBack_41 : decode cX4_takeBack 41 = .ok (.getfield 14, 3) := by decide +kernel
theorem dX4_takeBack_44 : decode cX4_takeBack 44 = .ok (.aload_n 0, 1) := by decide +kernel
theorem dX4_takeBack_45 : decode cX4_takeBack 45 = .ok (.getfield 20, 3) := by decide +kernel
theorem dX4_takeBack_48 : decode cX4_takeBack 48 = .ok (.invokevirtual 27, 3) := by decide +kernel
theorem dX4_takeBack_51 : decode cX4_takeBack 51 = .ok (.areturn, 1) := by decide +kernel
theorem dX5_init_0 : decode cX5_init 0 = .ok (.aload_n 0, 1) := by decide +kernel
theorem dX5_init_1 : decode cX5_init 1 = .ok (.invokespecial 3, 3) := by decide +kernel
theorem dX5_init_4 : decode cX5_init 4 = .ok (.aload_n 0, 1) := by decide +kernel
theorem dX5_init_5 : decode cX5_init 5 = .ok (.new 9, 3) := by decide +kernel
theorem dX5_init_8 : decode cX5_init 8 = .ok (.dup, 1) := by decide +kernel
theorem dX5_init_9 : decode cX5_init 9 = .ok (.iconst 4, 1) := by decide +kernel
theorem dX5_init_10 : decode cX5_init 10 = .ok (.invokespecial 11, 3) := by decide +kernel
theorem dX5_init_13 : decode cX5_init 13 = .ok (.putfield 14, 3) := by decide +kernel
theorem dX5_init_16 : decode cX5_init 16 = .ok (.aload_n 0, 1) := by decide +kernel
theorem dX5_init_17 : decode cX5_init 17 = .ok (.new 20, 3) := by decide +kernel
theorem dX5_init_20 : decode cX5_init 20 = .ok (.dup, 1) := by decide +kernel
theorem dX5_init_21 : decode cX5_init 21 = .ok (.iconst 3, 1) := by decide +kernel
theorem dX5_init_22 : decode cX5_init 22 = .ok (.invokespecial 22, 3) := by decide +kernel
theorem dX5_init_25 : decode cX5_init 25 = .ok (.putfield 23, 3) := by decide +kernel
theorem dX5_init_28 : decode cX5_init 28 = .ok (.aload_n 0, 1) := by decide +kernel
theorem dX5_init_29 : decode cX5_init 29 = .ok (.new 20, 3) := by decide +kernel
theorem dX5_init_32 : decode cX5_init 32 = .ok (.dup, 1) := by decide +kernel
theorem dX5_init_33 : decode cX5_init 33 = .ok (.iconst 3, 1) := by decide +kernel
theorem dX5_init_34 : decode cX5_init 34 = .ok (.invokespecial 22, 3) := by decide +kernel
theorem dX5_init_37 : decode cX5_init 37 = .ok (.putfield 27, 3) := by decide +kernel
theorem dX5_init_40 : decode cX5_init 40 = .ok (.aload_n 0, 1) := by decide +kernel
theorem dX5_init_41 : decode cX5_init 41 = .ok (.new 20, 3) := by decide +kernel
theorem dX5_init_44 : decode cX5_init 44 = .ok (.dup, 1) := by decide +kernel
theorem dX5_init_45 : decode cX5_init 45 = .ok (.bipush 15, 2) := by decide +kernel
theorem dX5_init_47 : decode cX5_init 47 = .ok (.invokespecial 22, 3) := by decide +kernel
theorem dX5_init_50 : decode cX5_init 50 = .ok (.putfield 30, 3) := by decide +kernel
theorem dX5_init_53 : decode cX5_init 53 = .ok (.aload_n 0, 1) := by decide +kernel
theorem dX5_init_54 : decode cX5_init 54 = .ok (.new 20, 3) := by decide +kernel
theorem dX5_init_57 : decode cX5_init 57 = .ok (.dup, 1) := by decide +kernel
theorem dX5_init_58 : decode cX5_init 58 = .ok (.bipush 15, 2) := by decide +kernel
theorem dX5_init_60 : decode cX5_init 60 = .ok (.invokespecial 22, 3) := by decide +kernel
theorem dX5_init_63 : decode cX5_init 63 = .ok (.putfield 33, 3) := by decide +kernel
theorem dX5_init_66 : decode cX5_init 66 = .ok (.aload_n 0, 1) := by decide +kernel
theorem dX5_init_67 : decode cX5_init 67 = .ok (.iconst 0, 1) := by decide +kernel
theorem dX5_init_68 : decode cX5_init 68 = .ok (.putfield 36, 3) := by decide +kernel
theorem dX5_init_71 : decode cX5_init 71 = .ok (.aload_n 0, 1) := by decide +kernel
theorem dX5_init_72 : decode cX5_init 72 = .ok (.iconst (-1), 1) := by decide +kernel
theorem dX5_init_73 : decode cX5_init 73 = .ok (.putfield 40, 3) := by decide +kernel
theorem dX5_init_76 : decode cX5_init 76 = .ok (.aload_n 0, 1) := by decide +kernel
theorem dX5_init_77 : decode cX5_init 77 = .ok (.iconst 0, 1) := by decide +kernel
theorem dX5_init_78 : decode cX5_init 78 = .ok (.putfield 43, 3) := by decide +kernel
theorem dX5_init_81 : decode cX5_init 81 = .ok (.aload_n 0, 1) := by decide +kernel
theorem dX5_init_82 : decode cX5_init 82 = .ok (.iconst 0, 1) := by decide +kernel
theorem dX5_init_83 : decode cX5_init 83 = .ok (.putfield 46, 3) := by decide +kernel
theorem dX5_init_86 : decode cX5_init 86 = .ok (.aload_n 0, 1) := by decide +kernel
theorem dX5_init_87 : decode cX5_init 87 = .ok (.iconst 0, 1) := by decide +kernel
theorem dX5_init_88 : decode cX5_init 88 = .ok (.putfield 50, 3) := by decide +kernel
theorem dX5_init_91 : decode cX5_init 91 = .ok (.aload_n 0, 1) := by decide +kernel
theorem dX5_init_92 : decode cX5_init 92 = .ok (.iconst 0, 1) := by decide +kernel
theorem dX5_init_93 : decode cX5_init 93 = .ok (.putfield 53, 3) := by decide +kernel
theorem dX5_init_96 : decode cX5_init 96 = .ok (.return_, 1) := by decide +kernel
theorem dX5_plan_0 : decode cX5_plan 0 = .ok (.aload_n 0, 1) := by decide +kernel
theorem dX5_plan_1 : decode cX5_plan 1 = .ok (.getfield 14, 3) := by decide +kernel
theorem dX5_plan_4 : decode cX5_plan 4 = .ok (.iconst 0, 1) := by decide +kernel
theorem dX5_plan_5 : decode cX5_plan 5 = .ok (.invokevirtual 56, 3) := by decide +kernel
theorem dX5_plan_8 : decode cX5_plan 8 = .ok (.aload_n 2, 1) := by decide +kernel
theorem dX5_plan_9 : decode cX5_plan 9 = .ok (.invokevirtual 60, 3) := by decide +kernel
theorem dX5_plan_12 : decode cX5_plan 12 = .ok (.aload_n 0, 1) := by decide +kernel
theorem dX5_plan_13 : decode cX5_plan 13 = .ok (.iload_n 3, 1) := by decide +kernel
theorem dX5_plan_14 : decode cX5_plan 14 = .ok (.putfield 36, 3) := by decide +kernel
theorem dX5_plan_17 : decode cX5_plan 17 = .ok (.aload_n 0, 1) := by decide +kernel
theorem dX5_plan_18 : decode cX5_plan 18 = .ok (.iload 4, 2) := by decide +kernel
theorem dX5_plan_20 : decode cX5_plan 20 = .ok (.putfield 40, 3) := by decide +kernel
theorem dX5_plan_23 : decode cX5_plan 23 = .ok (.aload_n 0, 1) := by decide +kernel
theorem dX5_plan_24 : decode cX5_plan 24 = .ok (.aload_n 2, 1) := by decide +kernel
theorem dX5_plan_25 : decode cX5_plan 25 = .ok (.getfield 66, 3) := by decide +kernel
theorem dX5_plan_28 : decode cX5_plan 28 = .ok (.putfield 43, 3) := by decide +kernel
theorem dX5_plan_31 : decode cX5_plan 31 = .ok (.aload_n 0, 1) := by decide +kernel
theorem dX5_plan_32 : decode cX5_plan 32 = .ok (.iconst 0, 1) := by decide +kernel
theorem dX5_plan_33 : decode cX5_plan 33 = .ok (.putfield 46, 3) := by decide +kernel
theorem dX5_plan_36 : decode cX5_plan 36 = .ok (.aload_n 0, 1) := by decide +kernel
theorem dX5_plan_37 : decode cX5_plan 37 = .ok (.aload_n 1, 1) := by decide +kernel
theorem dX5_plan_38 : decode cX5_plan 38 = .ok (.iconst 0, 1) := by decide +kernel
theorem dX5_plan_39 : decode cX5_plan 39 = .ok (.iconst 0, 1) := by decide +kernel
theorem dX5_plan_40 : decode cX5_plan 40 = .ok (.iconst 0, 1) := by decide +kernel
theorem dX5_plan_41 : decode cX5_plan 41 = .ok (.invokevirtual 69, 3) := by decide +kernel
theorem dX5_plan_44 : decode cX5_plan 44 = .ok (.return_, 1) := by decide +kernel
theorem dX5_answer_0 : decode cX5_answer 0 = .ok (.aload_n 0, 1) := by decide +kernel
theorem dX5_answer_1 : decode cX5_answer 1 = .ok (.getfield 46, 3) := by decide +kernel
theorem dX5_answer_4 : decode cX5_answer 4 = .ok (.ifCond .eq 16, 3) := by decide +kernel
theorem dX5_answer_7 : decode cX5_answer 7 = .ok (.iload_n 1, 1) := by decide +kernel
theorem dX5_answer_8 : decode cX5_answer 8 = .ok (.iconst (-1), 1) := by decide +kernel
theorem dX5_answer_9 : decode cX5_answer 9 = .ok (.if_icmp .lt 11, 3) := by decide +kernel
theorem dX5_answer_12 : decode cX5_answer 12 = .ok (.iload_n 1, 1) := by decide +kernel
theorem dX5_answer_13 : decode cX5_answer 13 = .ok (.aload_n 0, 1) := by decide +kernel
theorem dX5_answer_14 : decode cX5_answer 14 = .ok (.getfield 36, 3) := by decide +kernel
theorem dX5_answer_17 : decode cX5_answer 17 = .ok (.if_icmp .lt 5, 3) := by decide +kernel
theorem dX5_answer_20 : decode cX5_answer 20 = .ok (.iconst (-1), 1) := by decide +kernel
theorem dX5_answer_21 : decode cX5_answer 21 = .ok (.ireturn, 1) := by decide +kernel
theorem dX5_answer_22 : decode cX5_answer 22 = .ok (.iload_n 1, 1) := by decide +kernel
theorem dX5_answer_23 : decode cX5_answer 23 = .ok (.iconst (-1), 1) := by decide +kernel
theorem dX5_answer_24 : decode cX5_answer 24 = .ok (.if_icmp .ne 10, 3) := by decide +kernel
theorem dX5_answer_27 : decode cX5_answer 27 = .ok (.aload_n 0, 1) := by decide +kernel
theorem dX5_answer_28 : decode cX5_answer 28 = .ok (.getfield 50, 3) := by decide +kernel
theorem dX5_answer_31 : decode cX5_answer 31 = .ok (.goto 11, 3) := by decide +kernel
theorem dX5_answer_34 : decode cX5_answer 34 = .ok (.aload_n 0, 1) := by decide +kernel
theorem dX5_answer_35 : decode cX5_answer 35 = .ok (.getfield 27, 3) := by decide +kernel
theorem dX5_answer_38 : decode cX5_answer 38 = .ok (.iload_n 1, 1) := by decide +kernel
theorem dX5_answer_39 : decode cX5_answer 39 = .ok (.invokevirtual 73, 3) := by decide +kernel
theorem dX5_answer_42 : decode cX5_answer 42 = .ok (.ireturn, 1) := by decide +kernel
theorem dX5_search_0 : decode cX5_search 0 = .ok (.iload_n 2, 1) := by decide +kernel
theorem dX5_search_1 : decode cX5_search 1 = .ok (.aload_n 0, 1) := by decide +kernel
theorem dX5_search_2 : decode cX5_search 2 = .ok (.getfield 36, 3) := by decide +kernel
theorem dX5_search_5 : decode cX5_search 5 = .ok (.if_icmp .lt 11, 3) := by decide +kernel
theorem dX5_search_8 : decode cX5_search 8 = .ok (.aload_n 0, 1) := by decide +kernel
theorem dX5_search_9 : decode cX5_search 9 = .ok (.iload_n 3, 1) := by decide +kernel
theorem dX5_search_10 : decode cX5_search 10 = .ok (.iload 4, 2) := by decide +kernel
theorem dX5_search_12 : decode cX5_search 12 = .ok (.invokevirtual 76, 3) := by decide +kernel
theorem dX5_search_15 : decode cX5_search 15 = .ok (.return_, 1) := by decide +kernel
theorem dX5_search_16 : decode cX5_search 16 = .ok (.aload_n 0, 1) := by decide +kernel
theorem dX5_search_17 : decode cX5_search 17 = .ok (.aload_n 1, 1) := by decide +kernel
theorem dX5_search_18 : decode cX5_search 18 = .ok (.iload_n 2, 1) := by decide +kernel
theorem dX5_search_19 : decode cX5_search 19 = .ok (.invokevirtual 80, 3) := by decide +kernel
theorem dX5_search_22 : decode cX5_search 22 = .ok (.aload_n 0, 1) := by decide +kernel
theorem dX5_search_23 : decode cX5_search 23 = .ok (.iload_n 2, 1) := by decide +kernel
theorem dX5_search_24 : decode cX5_search 24 = .ok (.bipush (-2), 2) := by decide +kernel
theorem dX5_search_26 : decode cX5_search 26 = .ok (.aload_n 1, 1) := by decide +kernel
theorem dX5_search_27 : decode cX5_search 27 = .ok (.getfield 84, 3) := by decide +kernel
theorem dX5_search_30 : decode cX5_search 30 = .ok (.invokevirtual 89, 3) := by decide +kernel
theorem dX5_search_33 : decode cX5_search 33 = .ok (.istore 5, 2) := by decide +kernel
theorem dX5_search_35 : decode cX5_search 35 = .ok (.iconst 0, 1) := by decide +kernel
theorem dX5_search_36 : decode cX5_search 36 = .ok (.istore 6, 2) := by decide +kernel
theorem dX5_search_38 : decode cX5_search 38 = .ok (.iload 6, 2) := by decide +kernel
theorem dX5_search_40 : decode cX5_search 40 = .ok (.iconst 5, 1) := by decide +kernel
theorem dX5_search_41 : decode cX5_search 41 = .ok (.if_icmp .ge 106, 3) := by decide +kernel
theorem dX5_search_44 : decode cX5_search 44 = .ok (.iload 5, 2) := by decide +kernel
theorem dX5_search_46 : decode cX5_search 46 = .ok (.iconst (-1), 1) := by decide +kernel
theorem dX5_search_47 : decode cX5_search 47 = .ok (.if_icmp .eq 100, 3) := by decide +kernel
theorem dX5_search_50 : decode cX5_search 50 = .ok (.aload_n 0, 1) := by decide +kernel
theorem dX5_search_51 : decode cX5_search 51 = .ok (.getfield 30, 3) := by decide +kernel
theorem dX5_search_54 : decode cX5_search 54 = .ok (.iload_n 2, 1) := by decide +kernel
theorem dX5_search_55 : decode cX5_search 55 = .ok (.iconst 5, 1) := by decide +kernel
theorem dX5_search_56 : decode cX5_search 56 = .ok (.imul, 1) := by decide +kernel
theorem dX5_search_57 : decode cX5_search 57 = .ok (.iload 5, 2) := by decide +kernel
theorem dX5_search_59 : decode cX5_search 59 = .ok (.iadd, 1) := by decide +kernel
theorem dX5_search_60 : decode cX5_search 60 = .ok (.invokevirtual 73, 3) := by decide +kernel
theorem dX5_search_63 : decode cX5_search 63 = .ok (.istore 7, 2) := by decide +kernel
theorem dX5_search_65 : decode cX5_search 65 = .ok (.aload_n 0, 1) := by decide +kernel
theorem dX5_search_66 : decode cX5_search 66 = .ok (.getfield 33, 3) := by decide +kernel
theorem dX5_search_69 : decode cX5_search 69 = .ok (.iload_n 2, 1) := by decide +kernel
theorem dX5_search_70 : decode cX5_search 70 = .ok (.iconst 5, 1) := by decide +kernel
theorem dX5_search_71 : decode cX5_search 71 = .ok (.imul, 1) := by decide +kernel
theorem dX5_search_72 : decode cX5_search 72 = .ok (.iload 5, 2) := by decide +kernel
theorem dX5_search_74 : decode cX5_search 74 = .ok (.iadd, 1) := by decide +kernel
theorem dX5_search_75 : decode cX5_search 75 = .ok (.invokevirtual 73, 3) := by decide +kernel
theorem dX5_search_78 : decode cX5_search 78 = .ok (.istore 8, 2) := by decide +kernel
theorem dX5_search_80 : decode cX5_search 80 = .ok (.aload_n 0, 1) := by decide +kernel
theorem dX5_search_81 : decode cX5_search 81 = .ok (.getfield 23, 3) := by decide +kernel
theorem dX5_search_84 : decode cX5_search 84 = .ok (.iload_n 2, 1) := by decide +kernel
theorem dX5_search_85 : decode cX5_search 85 = .ok (.iload 7, 2) := by decide +kernel
theorem dX5_search_87 : decode cX5_search 87 = .ok (.iconst (-1), 1) := by decide +kernel
theorem dX5_search_88 : decode cX5_search 88 = .ok (.if_icmp .ne 8, 3) := by decide +kernel
theorem dX5_search_91 : decode cX5_search 91 = .ok (.bipush 99, 2) := by decide +kernel
theorem dX5_search_93 : decode cX5_search 93 = .ok (.goto 5, 3) := by decide +kernel
theorem dX5_search_96 : decode cX5_search 96 = .ok (.iload 7, 2) := by decide +kernel
theorem dX5_search_98 : decode cX5_search 98 = .ok (.invokevirtual 93, 3) := by decide +kernel
theorem dX5_search_101 : decode cX5_search 101 = .ok (.aload_n 0, 1) := by decide +kernel
theorem dX5_search_102 : decode cX5_search 102 = .ok (.aload_n 1, 1) := by decide +kernel
theorem dX5_search_103 : decode cX5_search 103 = .ok (.iload_n 2, 1) := by decide +kernel
theorem dX5_search_104 : decode cX5_search 104 = .ok (.iload 5, 2) := by decide +kernel
theorem dX5_search_106 : decode cX5_search 106 = .ok (.iload_n 3, 1) := by decide +kernel
theorem dX5_search_107 : decode cX5_search 107 = .ok (.iload 8, 2) := by decide +kernel
theorem dX5_search_109 : decode cX5_search 109 = .ok (.iadd, 1) := by decide +kernel
theorem dX5_search_110 : decode cX5_search 110 = .ok (.iload 7, 2) := by decide +kernel
theorem dX5_search_112 : decode cX5_search 112 = .ok (.iconst (-1), 1) := by decide +kernel
theorem dX5_search_113 : decode cX5_search 113 = .ok (.if_icmp .ne 8, 3) := by decide +kernel
theorem dX5_search_116 : decode cX5_search 116 = .ok (.iload 4, 2) := by decide +kernel
theorem dX5_search_118 : decode cX5_search 118 = .ok (.goto 7, 3) := by decide +kernel
theorem dX5_search_121 : decode cX5_search 121 = .ok (.iload 4, 2) := by decide +kernel
theorem dX5_search_123 : decode cX5_search 123 = .ok (.iconst 1, 1) := by decide +kernel
theorem dX5_search_124 : decode cX5_search 124 = .ok (.iadd, 1) := by decide +kernel
theorem dX5_search_125 : decode cX5_search 125 = .ok (.invokevirtual 96, 3) := by decide +kernel
theorem dX5_search_128 : decode cX5_search 128 = .ok (.aload_n 0, 1) := by decide +kernel
theorem dX5_search_129 : decode cX5_search 129 = .ok (.iload_n 2, 1) := by decide +kernel
theorem dX5_search_130 : decode cX5_search 130 = .ok (.iload 7, 2) := by decide +kernel
theorem dX5_search_132 : decode cX5_search 132 = .ok (.aload_n 1, 1) := by decide +kernel
theorem dX5_search_133 : decode cX5_search 133 = .ok (.getfield 84, 3) := by decide +kernel
theorem dX5_search_136 : decode cX5_search 136 = .ok (.invokevirtual 89, 3) := by decide +kernel
theorem dX5_search_139 : decode cX5_search 139 = .ok (.istore 5, 2) := by decide +kernel
theorem dX5_search_141 : decode cX5_search 141 = .ok (.iinc 6 1, 3) := by decide +kernel
theorem dX5_search_144 : decode cX5_search 144 = .ok (.goto (-106), 3) := by decide +kernel
theorem dX5_search_147 : decode cX5_search 147 = .ok (.return_, 1) := by decide +kernel
theorem dX5_takeRow_0 : decode cX5_takeRow 0 = .ok (.aload_n 0, 1) := by decide +kernel
theorem dX5_takeRow_1 : decode cX5_takeRow 1 = .ok (.iconst 1, 1) := by decide +kernel
theorem dX5_takeRow_2 : decode cX5_takeRow 2 = .ok (.putfield 46, 3) := by decide +kernel
theorem dX5_takeRow_5 : decode cX5_takeRow 5 = .ok (.aload_n 0, 1) := by decide +kernel
theorem dX5_takeRow_6 : decode cX5_takeRow 6 = .ok (.iload_n 1, 1) := by decide +kernel
theorem dX5_takeRow_7 : decode cX5_takeRow 7 = .ok (.putfield 50, 3) := by decide +kernel
theorem dX5_takeRow_10 : decode cX5_takeRow 10 = .ok (.aload_n 0, 1) := by decide +kernel
theorem dX5_takeRow_11 : decode cX5_takeRow 11 = .ok (.iload_n 2, 1) := by decide +kernel
theorem dX5_takeRow_12 : decode cX5_takeRow 12 = .ok (.putfield 53, 3) := by decide +kernel
theorem dX5_takeRow_15 : decode cX5_takeRow 15 = .ok (.aload_n 0, 1) := by decide +kernel
theorem dX5_takeRow_16 : decode cX5_takeRow 16 = .ok (.getfield 27, 3) := by decide +kernel
theorem dX5_takeRow_19 : decode cX5_takeRow 19 = .ok (.aload_n 0, 1) := by decide +kernel
theorem dX5_takeRow_20 : decode cX5_takeRow 20 = .ok (.getfield 23, 3) := by decide +kernel
theorem dX5_takeRow_23 : decode cX5_takeRow 23 = .ok (.invokevirtual 100, 3) := by decide +kernel
theorem dX5_takeRow_26 : decode cX5_takeRow 26 = .ok (.return_, 1) := by decide +kernel
theorem dX5_gatherThings_0 : decode cX5_gatherThings 0 = .ok (.aload_n 0, 1) := by decide +kernel
theorem dX5_gatherThings_1 : decode cX5_gatherThings 1 = .ok (.getfield 14, 3) := by decide +kernel
theorem dX5_gatherThings_4 : decode cX5_gatherThings 4 = .ok (.iload_n 2, 1) := by decide +kernel
theorem dX5_gatherThings_5 : decode cX5_gatherThings 5 = .ok (.invokevirtual 56, 3) := by decide +kernel
theorem dX5_gatherThings_8 : decode cX5_gatherThings 8 = .ok (.astore_n 3, 1) := by decide +kernel
theorem dX5_gatherThings_9 : decode cX5_gatherThings 9 = .ok (.iconst 0, 1) := by decide +kernel
theorem dX5_gatherThings_10 : decode cX5_gatherThings 10 = .ok (.istore 4, 2) := by decide +kernel
theorem dX5_gatherThings_12 : decode cX5_gatherThings 12 = .ok (.iload 4, 2) := by decide +kernel
theorem dX5_gatherThings_14 : decode cX5_gatherThings 14 = .ok (.aload_n 1, 1) := by decide +kernel
theorem dX5_gatherThings_15 : decode cX5_gatherThings 15 = .ok (.getfield 84, 3) := by decide +kernel
theorem dX5_gatherThings_18 : decode cX5_gatherThings 18 = .ok (.if_icmp .ge 24, 3) := by decide +kernel
theorem dX5_gatherThings_21 : decode cX5_gatherThings 21 = .ok (.aload_n 0, 1) := by decide +kernel
theorem dX5_gatherThings_22 : decode cX5_gatherThings 22 = .ok (.getfield 33, 3) := by decide +kernel
theorem dX5_gatherThings_25 : decode cX5_gatherThings 25 = .ok (.iload_n 2, 1) := by decide +kernel
theorem dX5_gatherThings_26 : decode cX5_gatherThings 26 = .ok (.iconst 5, 1) := by decide +kernel
theorem dX5_gatherThings_27 : decode cX5_gatherThings 27 = .ok (.imul, 1) := by decide +kernel
theorem dX5_gatherThings_28 : decode cX5_gatherThings 28 = .ok (.iload 4, 2) := by decide +kernel
theorem dX5_gatherThings_30 : decode cX5_gatherThings 30 = .ok (.iadd, 1) := by decide +kernel
theorem dX5_gatherThings_31 : decode cX5_gatherThings 31 = .ok (.bipush 10, 2) := by decide +kernel
theorem dX5_gatherThings_33 : decode cX5_gatherThings 33 = .ok (.invokevirtual 93, 3) := by decide +kernel
theorem dX5_gatherThings_36 : decode cX5_gatherThings 36 = .ok (.iinc 4 1, 3) := by decide +kernel
theorem dX5_gatherThings_39 : decode cX5_gatherThings 39 = .ok (.goto (-27), 3) := by decide +kernel
theorem dX5_gatherThings_42 : decode cX5_gatherThings 42 = .ok (.aload_n 0, 1) := by decide +kernel
theorem dX5_gatherThings_43 : decode cX5_gatherThings 43 = .ok (.iload_n 2, 1) := by decide +kernel
theorem dX5_gatherThings_44 : decode cX5_gatherThings 44 = .ok (.aload_n 3, 1) := by decide +kernel
theorem dX5_gatherThings_45 : decode cX5_gatherThings 45 = .ok (.getfield 103, 3) := by decide +kernel
theorem dX5_gatherThings_48 : decode cX5_gatherThings 48 = .ok (.iconst (-1), 1) := by decide +kernel
theorem dX5_gatherThings_49 : decode cX5_gatherThings 49 = .ok (.iconst 0, 1) := by decide +kernel
theorem dX5_gatherThings_50 : decode cX5_gatherThings 50 = .ok (.invokevirtual 106, 3) := by decide +kernel
theorem dX5_gatherThings_53 : decode cX5_gatherThings 53 = .ok (.iconst 0, 1) := by decide +kernel
theorem dX5_gatherThings_54 : decode cX5_gatherThings 54 = .ok (.istore 4, 2) := by decide +kernel
theorem dX5_gatherThings_56 : decode cX5_gatherThings 56 = .ok (.iload 4, 2) := by decide +kernel
theorem dX5_gatherThings_58 : decode cX5_gatherThings 58 = .ok (.bipush 6, 2) := by decide +kernel
theorem dX5_gatherThings_60 : decode cX5_gatherThings 60 = .ok (.if_icmp .ge 61, 3) := by decide +kernel
theorem dX5_gatherThings_63 : decode cX5_gatherThings 63 = .ok (.iconst 0, 1) := by decide +kernel
theorem dX5_gatherThings_64 : decode cX5_gatherThings 64 = .ok (.istore 5, 2) := by decide +kernel
theorem dX5_gatherThings_66 : decode cX5_gatherThings 66 = .ok (.iload 5, 2) := by decide +kernel
theorem dX5_gatherThings_68 : decode cX5_gatherThings 68 = .ok (.aload_n 1, 1) := by decide +kernel
theorem dX5_gatherThings_69 : decode cX5_gatherThings 69 = .ok (.getfield 84, 3) := by decide +kernel
theorem dX5_gatherThings_72 : decode cX5_gatherThings 72 = .ok (.if_icmp .ge 43, 3) := by decide +kernel
theorem dX5_gatherThings_75 : decode cX5_gatherThings 75 = .ok (.aload_n 0, 1) := by decide +kernel
theorem dX5_gatherThings_76 : decode cX5_gatherThings 76 = .ok (.iload_n 2, 1) := by decide +kernel
theorem dX5_gatherThings_77 : decode cX5_gatherThings 77 = .ok (.aload_n 3, 1) := by decide +kernel
theorem dX5_gatherThings_78 : decode cX5_gatherThings 78 = .ok (.iload 4, 2) := by decide +kernel
theorem dX5_gatherThings_80 : decode cX5_gatherThings 80 = .ok (.iload 5, 2) := by decide +kernel
theorem dX5_gatherThings_82 : decode cX5_gatherThings 82 = .ok (.aload_n 1, 1) := by decide +kernel
theorem dX5_gatherThings_83 : decode cX5_gatherThings 83 = .ok (.getfield 84, 3) := by decide +kernel
theorem dX5_gatherThings_86 : decode cX5_gatherThings 86 = .ok (.invokevirtual 110, 3) := by decide +kernel
theorem dX5_gatherThings_89 : decode cX5_gatherThings 89 = .ok (.bipush 10, 2) := by decide +kernel
theorem dX5_gatherThings_91 : decode cX5_gatherThings 91 = .ok (.iload 4, 2) := by decide +kernel
theorem dX5_gatherThings_93 : decode cX5_gatherThings 93 = .ok (.imul, 1) := by decide +kernel
theorem dX5_gatherThings_94 : decode cX5_gatherThings 94 = .ok (.iload 5, 2) := by decide +kernel
theorem dX5_gatherThings_96 : decode cX5_gatherThings 96 = .ok (.iadd, 1) := by decide +kernel
theorem dX5_gatherThings_97 : decode cX5_gatherThings 97 = .ok (.aload_n 1, 1) := by decide +kernel
theorem dX5_gatherThings_98 : decode cX5_gatherThings 98 = .ok (.getfield 113, 3) := by decide +kernel
theorem dX5_gatherThings_101 : decode cX5_gatherThings 101 = .ok (.iload 4, 2) := by decide +kernel
theorem dX5_gatherThings_103 : decode cX5_gatherThings 103 = .ok (.invokevirtual 73, 3) := by decide +kernel
theorem dX5_gatherThings_106 : decode cX5_gatherThings 106 = .ok (.invokevirtual 106, 3) := by decide +kernel
theorem dX5_gatherThings_109 : decode cX5_gatherThings 109 = .ok (.iinc 5 1, 3) := by decide +kernel
theorem dX5_gatherThings_112 : decode cX5_gatherThings 112 = .ok (.goto (-46), 3) := by decide +kernel
theorem dX5_gatherThings_115 : decode cX5_gatherThings 115 = .ok (.iinc 4 1, 3) := by decide +kernel
theorem dX5_gatherThings_118 : decode cX5_gatherThings 118 = .ok (.goto (-62), 3) := by decide +kernel
theorem dX5_gatherThings_121 : decode cX5_gatherThings 121 = .ok (.return_, 1) := by decide +kernel
theorem dX5_offer_0 : decode cX5_offer 0 = .ok (.iload_n 1, 1) := by decide +kernel
theorem dX5_offer_1 : decode cX5_offer 1 = .ok (.iconst 5, 1) := by decide +kernel
theorem dX5_offer_2 : decode cX5_offer 2 = .ok (.imul, 1) := by decide +kernel
theorem dX5_offer_3 : decode cX5_offer 3 = .ok (.iload_n 2, 1) := by decide +kernel
theorem dX5_offer_4 : decode cX5_offer 4 = .ok (.iadd, 1) := by decide +kernel
theorem dX5_offer_5 : decode cX5_offer 5 = .ok (.istore 5, 2) := by decide +kernel
theorem dX5_offer_7 : decode cX5_offer 7 = .ok (.iload 4, 2) := by decide +kernel
theorem dX5_offer_9 : decode cX5_offer 9 = .ok (.aload_n 0, 1) := by decide +kernel
theorem dX5_offer_10 : decode cX5_offer 10 = .ok (.getfield 33, 3) := by decide +kernel
theorem dX5_offer_13 : decode cX5_offer 13 = .ok (.iload 5, 2) := by decide +kernel
theorem dX5_offer_15 : decode cX5_offer 15 = .ok (.invokevirtual 73, 3) := by decide +kernel
theorem dX5_offer_18 : decode cX5_offer 18 = .ok (.if_icmp .ge 24, 3) := by decide +kernel
theorem dX5_offer_21 : decode cX5_offer 21 = .ok (.aload_n 0, 1) := by decide +kernel
theorem dX5_offer_22 : decode cX5_offer 22 = .ok (.getfield 33, 3) := by decide +kernel
theorem dX5_offer_25 : decode cX5_offer 25 = .ok (.iload 5, 2) := by decide +kernel
theorem dX5_offer_27 : decode cX5_offer 27 = .ok (.iload 4, 2) := by decide +kernel
theorem dX5_offer_29 : decode cX5_offer 29 = .ok (.invokevirtual 93, 3) := by decide +kernel
theorem dX5_offer_32 : decode cX5_offer 32 = .ok (.aload_n 0, 1) := by decide +kernel
theorem dX5_offer_33 : decode cX5_offer 33 = .ok (.getfield 30, 3) := by decide +kernel
theorem dX5_offer_36 : decode cX5_offer 36 = .ok (.iload 5, 2) := by decide +kernel
theorem dX5_offer_38 : decode cX5_offer 38 = .ok (.iload_n 3, 1) := by decide +kernel
theorem dX5_offer_39 : decode cX5_offer 39 = .ok (.invokevirtual 93, 3) := by decide +kernel
theorem dX5_offer_42 : decode cX5_offer 42 = .ok (.return_, 1) := by decide +kernel
theorem dX5_madeBehind_0 : decode cX5_madeBehind 0 = .ok (.iconst (-1), 1) := by decide +kernel
theorem dX5_madeBehind_1 : decode cX5_madeBehind 1 = .ok (.istore 4, 2) := by decide +kernel
theorem dX5_madeBehind_3 : decode cX5_madeBehind 3 = .ok (.iconst 0, 1) := by decide +kernel
theorem dX5_madeBehind_4 : decode cX5_madeBehind 4 = .ok (.istore 5, 2) := by decide +kernel
theorem dX5_madeBehind_6 : decode cX5_madeBehind 6 = .ok (.iconst 0, 1) := by decide +kernel
theorem dX5_madeBehind_7 : decode cX5_madeBehind 7 = .ok (.istore 6, 2) := by decide +kernel
theorem dX5_madeBehind_9 : decode cX5_madeBehind 9 = .ok (.iload 6, 2) := by decide +kernel
theorem dX5_madeBehind_11 : decode cX5_madeBehind 11 = .ok (.iload_n 3, 1) := by decide +kernel
theorem dX5_madeBehind_12 : decode cX5_madeBehind 12 = .ok (.if_icmp .ge 69, 3) := by decide +kernel
theorem dX5_madeBehind_15 : decode cX5_madeBehind 15 = .ok (.iload_n 1, 1) := by decide +kernel
theorem dX5_madeBehind_16 : decode cX5_madeBehind 16 = .ok (.iconst 5, 1) := by decide +kernel
theorem dX5_madeBehind_17 : decode cX5_madeBehind 17 = .ok (.imul, 1) := by decide +kernel
theorem dX5_madeBehind_18 : decode cX5_madeBehind 18 = .ok (.iload 6, 2) := by decide +kernel
theorem dX5_madeBehind_20 : decode cX5_madeBehind 20 = .ok (.iadd, 1) := by decide +kernel
theorem dX5_madeBehind_21 : decode cX5_madeBehind 21 = .ok (.istore 7, 2) := by decide +kernel
theorem dX5_madeBehind_23 : decode cX5_madeBehind 23 = .ok (.aload_n 0, 1) := by decide +kernel
theorem dX5_madeBehind_24 : decode cX5_madeBehind 24 = .ok (.getfield 30, 3) := by decide +kernel
theorem dX5_madeBehind_27 : decode cX5_madeBehind 27 = .ok (.iload 7, 2) := by decide +kernel
theorem dX5_madeBehind_29 : decode cX5_madeBehind 29 = .ok (.invokevirtual 73, 3) := by decide +kernel
theorem dX5_madeBehind_32 : decode cX5_madeBehind 32 = .ok (.istore 8, 2) := by decide +kernel
theorem dX5_madeBehind_34 : decode cX5_madeBehind 34 = .ok (.aload_n 0, 1) := by decide +kernel
theorem dX5_madeBehind_35 : decode cX5_madeBehind 35 = .ok (.getfield 33, 3) := by decide +kernel
theorem dX5_madeBehind_38 : decode cX5_madeBehind 38 = .ok (.iload 7, 2) := by decide +kernel
theorem dX5_madeBehind_40 : decode cX5_madeBehind 40 = .ok (.invokevirtual 73, 3) := by decide +kernel
theorem dX5_madeBehind_43 : decode cX5_madeBehind 43 = .ok (.bipush 9, 2) := by decide +kernel
theorem dX5_madeBehind_45 : decode cX5_madeBehind 45 = .ok (.if_icmp .gt 30, 3) := by decide +kernel
theorem dX5_madeBehind_48 : decode cX5_madeBehind 48 = .ok (.iload 8, 2) := by decide +kernel
theorem dX5_madeBehind_50 : decode cX5_madeBehind 50 = .ok (.iload_n 2, 1) := by decide +kernel
theorem dX5_madeBehind_51 : decode cX5_madeBehind 51 = .ok (.if_icmp .le 24, 3) := by decide +kernel
theorem dX5_madeBehind_54 : decode cX5_madeBehind 54 = .ok (.iload 4, 2) := by decide +kernel
theorem dX5_madeBehind_56 : decode cX5_madeBehind 56 = .ok (.iconst (-1), 1) := by decide +kernel
theorem dX5_madeBehind_57 : decode cX5_madeBehind 57 = .ok (.if_icmp .eq 10, 3) := by decide +kernel
theorem dX5_madeBehind_60 : decode cX5_madeBehind 60 = .ok (.iload 8, 2) := by decide +kernel
theorem dX5_madeBehind_62 : decode cX5_madeBehind 62 = .ok (.iload 5, 2) := by decide +kernel
theorem dX5_madeBehind_64 : decode cX5_madeBehind 64 = .ok (.if_icmp .ge 11, 3) := by decide +kernel
theorem dX5_madeBehind_67 : decode cX5_madeBehind 67 = .ok (.iload 6, 2) := by decide +kernel
theorem dX5_madeBehind_69 : decode cX5_madeBehind 69 = .ok (.istore 4, 2) := by decide +kernel
theorem dX5_madeBehind_71 : decode cX5_madeBehind 71 = .ok (.iload 8, 2) := by decide +kernel
theorem dX5_madeBehind_73 : decode cX5_madeBehind 73 = .ok (.istore 5, 2) := by decide +kernel
theorem dX5_madeBehind_75 : decode cX5_madeBehind 75 = .ok (.iinc 6 1, 3) := by decide +kernel
theorem dX5_madeBehind_78 : decode cX5_madeBehind 78 = .ok (.goto (-69), 3) := by decide +kernel
theorem dX5_madeBehind_81 : decode cX5_madeBehind 81 = .ok (.iload 4, 2) := by decide +kernel
theorem dX5_madeBehind_83 : decode cX5_madeBehind 83 = .ok (.ireturn, 1) := by decide +kernel
theorem dX5_goOn_0 : decode cX5_goOn 0 = .ok (.iload 4, 2) := by decide +kernel
theorem dX5_goOn_2 : decode cX5_goOn 2 = .ok (.aload_n 0, 1) := by decide +kernel
theorem dX5_goOn_3 : decode cX5_goOn 3 = .ok (.getfield 43, 3) := by decide +kernel
theorem dX5_goOn_6 : decode cX5_goOn 6 = .ok (.if_icmp .gt 14, 3) := by decide +kernel
theorem dX5_goOn_9 : decode cX5_goOn 9 = .ok (.aload_n 0, 1) := by decide +kernel
theorem dX5_goOn_10 : decode cX5_goOn 10 = .ok (.iload 4, 2) := by decide +kernel
theorem dX5_goOn_12 : decode cX5_goOn 12 = .ok (.iload 5, 2) := by decide +kernel
theorem dX5_goOn_14 : decode cX5_goOn 14 = .ok (.invokevirtual 114, 3) := by decide +kernel
theorem dX5_goOn_17 : decode cX5_goOn 17 = .ok (.ifCond .ne 4, 3) := by decide +kernel
theorem dX5_goOn_20 : decode cX5_goOn 20 = .ok (.return_, 1) := by decide +kernel
theorem dX5_goOn_21 : decode cX5_goOn 21 = .ok (.aload_n 0, 1) := by decide +kernel
theorem dX5_goOn_22 : decode cX5_goOn 22 = .ok (.getfield 14, 3) := by decide +kernel
theorem dX5_goOn_25 : decode cX5_goOn 25 = .ok (.iload_n 2, 1) := by decide +kernel
theorem dX5_goOn_26 : decode cX5_goOn 26 = .ok (.iconst 1, 1) := by decide +kernel
theorem dX5_goOn_27 : decode cX5_goOn 27 = .ok (.iadd, 1) := by decide +kernel
theorem dX5_goOn_28 : decode cX5_goOn 28 = .ok (.invokevirtual 56, 3) := by decide +kernel
theorem dX5_goOn_31 : decode cX5_goOn 31 = .ok (.astore 6, 2) := by decide +kernel
theorem dX5_goOn_33 : decode cX5_goOn 33 = .ok (.aload 6, 2) := by decide +kernel
theorem dX5_goOn_35 : decode cX5_goOn 35 = .ok (.aload_n 0, 1) := by decide +kernel
theorem dX5_goOn_36 : decode cX5_goOn 36 = .ok (.getfield 14, 3) := by decide +kernel
theorem dX5_goOn_39 : decode cX5_goOn 39 = .ok (.iload_n 2, 1) := by decide +kernel
theorem dX5_goOn_40 : decode cX5_goOn 40 = .ok (.invokevirtual 56, 3) := by decide +kernel
theorem dX5_goOn_43 : decode cX5_goOn 43 = .ok (.invokevirtual 60, 3) := by decide +kernel
theorem dX5_goOn_46 : decode cX5_goOn 46 = .ok (.aload 6, 2) := by decide +kernel
theorem dX5_goOn_48 : decode cX5_goOn 48 = .ok (.aload_n 1, 1) := by decide +kernel
theorem dX5_goOn_49 : decode cX5_goOn 49 = .ok (.iload_n 3, 1) := by decide +kernel
theorem dX5_goOn_50 : decode cX5_goOn 50 = .ok (.invokevirtual 118, 3) := by decide +kernel
theorem dX5_goOn_53 : decode cX5_goOn 53 = .ok (.aload_n 0, 1) := by decide +kernel
theorem dX5_goOn_54 : decode cX5_goOn 54 = .ok (.iload_n 2, 1) := by decide +kernel
theorem dX5_goOn_55 : decode cX5_goOn 55 = .ok (.aload 6, 2) := by decide +kernel
theorem dX5_goOn_57 : decode cX5_goOn 57 = .ok (.aload_n 1, 1) := by decide +kernel
theorem dX5_goOn_58 : decode cX5_goOn 58 = .ok (.getfield 84, 3) := by decide +kernel
theorem dX5_goOn_61 : decode cX5_goOn 61 = .ok (.invokevirtual 121, 3) := by decide +kernel
theorem dX5_goOn_64 : decode cX5_goOn 64 = .ok (.ifCond .eq 15, 3) := by decide +kernel
theorem dX5_goOn_67 : decode cX5_goOn 67 = .ok (.aload_n 0, 1) := by decide +kernel
theorem dX5_goOn_68 : decode cX5_goOn 68 = .ok (.aload_n 1, 1) := by decide +kernel
theorem dX5_goOn_69 : decode cX5_goOn 69 = .ok (.iload_n 2, 1) := by decide +kernel
theorem dX5_goOn_70 : decode cX5_goOn 70 = .ok (.iconst 1, 1) := by decide +kernel
theorem dX5_goOn_71 : decode cX5_goOn 71 = .ok (.iadd, 1) := by decide +kernel
theorem dX5_goOn_72 : decode cX5_goOn 72 = .ok (.iload 4, 2) := by decide +kernel
theorem dX5_goOn_74 : decode cX5_goOn 74 = .ok (.iload 5, 2) := by decide +kernel
theorem dX5_goOn_76 : decode cX5_goOn 76 = .ok (.invokevirtual 69, 3) := by decide +kernel
theorem dX5_goOn_79 : decode cX5_goOn 79 = .ok (.return_, 1) := by decide +kernel
theorem dX5_isBetter_0 : decode cX5_isBetter 0 = .ok (.aload_n 0, 1) := by decide +kernel
theorem dX5_isBetter_1 : decode cX5_isBetter 1 = .ok (.getfield 46, 3) := by decide +kernel
theorem dX5_isBetter_4 : decode cX5_isBetter 4 = .ok (.ifCond .eq 27, 3) := by decide +kernel
theorem dX5_isBetter_7 : decode cX5_isBetter 7 = .ok (.iload_n 1, 1) := by decide +kernel
theorem dX5_isBetter_8 : decode cX5_isBetter 8 = .ok (.aload_n 0, 1) := by decide +kernel
theorem dX5_isBetter_9 : decode cX5_isBetter 9 = .ok (.getfield 50, 3) := by decide +kernel
theorem dX5_isBetter_12 : decode cX5_isBetter 12 = .ok (.if_icmp .lt 19, 3) := by decide +kernel
theorem dX5_isBetter_15 : decode cX5_isBetter 15 = .ok (.iload_n 1, 1) := by decide +kernel
theorem dX5_isBetter_16 : decode cX5_isBetter 16 = .ok (.aload_n 0, 1) := by decide +kernel
theorem dX5_isBetter_17 : decode cX5_isBetter 17 = .ok (.getfield 50, 3) := by decide +kernel
theorem dX5_isBetter_20 : decode cX5_isBetter 20 = .ok (.if_icmp .ne 15, 3) := by decide +kernel
theorem dX5_isBetter_23 : decode cX5_isBetter 23 = .ok (.iload_n 2, 1) := by decide +kernel
theorem dX5_isBetter_24 : decode cX5_isBetter 24 = .ok (.aload_n 0, 1) := by decide +kernel
theorem dX5_isBetter_25 : decode cX5_isBetter 25 = .ok (.getfield 53, 3) := by decide +kernel
theorem dX5_isBetter_28 : decode cX5_isBetter 28 = .ok (.if_icmp .ge 7, 3) := by decide +kernel
theorem dX5_isBetter_31 : decode cX5_isBetter 31 = .ok (.iconst 1, 1) := by decide +kernel
theorem dX5_isBetter_32 : decode cX5_isBetter 32 = .ok (.goto 4, 3) := by decide +kernel
theorem dX5_isBetter_35 : decode cX5_isBetter 35 = .ok (.iconst 0, 1) := by decide +kernel
theorem dX5_isBetter_36 : decode cX5_isBetter 36 = .ok (.ireturn, 1) := by decide +kernel
theorem dX5_isAllowed_0 : decode cX5_isAllowed 0 = .ok (.aload_n 0, 1) := by decide +kernel
theorem dX5_isAllowed_1 : decode cX5_isAllowed 1 = .ok (.getfield 40, 3) := by decide +kernel
theorem dX5_isAllowed_4 : decode cX5_isAllowed 4 = .ok (.iconst (-1), 1) := by decide +kernel
theorem dX5_isAllowed_5 : decode cX5_isAllowed 5 = .ok (.if_icmp .ne 17, 3) := by decide +kernel
theorem dX5_isAllowed_8 : decode cX5_isAllowed 8 = .ok (.aload_n 2, 1) := by decide +kernel
theorem dX5_isAllowed_9 : decode cX5_isAllowed 9 = .ok (.iload_n 3, 1) := by decide +kernel
theorem dX5_isAllowed_10 : decode cX5_isAllowed 10 = .ok (.invokevirtual 125, 3) := by decide +kernel
theorem dX5_isAllowed_13 : decode cX5_isAllowed 13 = .ok (.ifCond .ne 7, 3) := by decide +kernel
theorem dX5_isAllowed_16 : decode cX5_isAllowed 16 = .ok (.iconst 1, 1) := by decide +kernel
theorem dX5_isAllowed_17 : decode cX5_isAllowed 17 = .ok (.goto 4, 3) := by decide +kernel
theorem dX5_isAllowed_20 : decode cX5_isAllowed 20 = .ok (.iconst 0, 1) := by decide +kernel
theorem dX5_isAllowed_21 : decode cX5_isAllowed 21 = .ok (.ireturn, 1) := by decide +kernel
theorem dX5_isAllowed_22 : decode cX5_isAllowed 22 = .ok (.iload_n 1, 1) := by decide +kernel
theorem dX5_isAllowed_23 : decode cX5_isAllowed 23 = .ok (.iconst 1, 1) := by decide +kernel
theorem dX5_isAllowed_24 : decode cX5_isAllowed 24 = .ok (.iadd, 1) := by decide +kernel
theorem dX5_isAllowed_25 : decode cX5_isAllowed 25 = .ok (.aload_n 0, 1) := by decide +kernel
theorem dX5_isAllowed_26 : decode cX5_isAllowed 26 = .ok (.getfield 36, 3) := by decide +kernel
theorem dX5_isAllowed_29 : decode cX5_isAllowed 29 = .ok (.if_icmp .lt 14, 3) := by decide +kernel
theorem dX5_isAllowed_32 : decode cX5_isAllowed 32 = .ok (.aload_n 2, 1) := by decide +kernel
theorem dX5_isAllowed_33 : decode cX5_isAllowed 33 = .ok (.getfield 103, 3) := by decide +kernel
theorem dX5_isAllowed_36 : decode cX5_isAllowed 36 = .ok (.aload_n 0, 1) := by decide +kernel
theorem dX5_isAllowed_37 : decode cX5_isAllowed 37 = .ok (.getfield 40, 3) := by decide +kernel
theorem dX5_isAllowed_40 : decode cX5_isAllowed 40 = .ok (.if_icmp .ne 7, 3) := by decide +kernel
theorem dX5_isAllowed_43 : decode cX5_isAllowed 43 = .ok (.iconst 1, 1) := by decide +kernel
theorem dX5_isAllowed_44 : decode cX5_isAllowed 44 = .ok (.goto 4, 3) := by decide +kernel
theorem dX5_isAllowed_47 : decode cX5_isAllowed 47 = .ok (.iconst 0, 1) := by decide +kernel
theorem dX5_isAllowed_48 : decode cX5_isAllowed 48 = .ok (.ireturn, 1) := by decide +kernel
theorem dX6_init_0 : decode cX6_init 0 = .ok (.aload_n 0, 1) := by decide +kernel
theorem dX6_init_1 : decode cX6_init 1 = .ok (.invokespecial 3, 3) := by decide +kernel
theorem dX6_init_4 : decode cX6_init 4 = .ok (.aload_n 0, 1) := by decide +kernel
theorem dX6_init_5 : decode cX6_init 5 = .ok (.new 9, 3) := by decide +kernel
theorem dX6_init_8 : decode cX6_init 8 = .ok (.dup, 1) := by decide +kernel
theorem dX6_init_9 : decode cX6_init 9 = .ok (.invokespecial 11, 3) := by decide +kernel
theorem dX6_init_12 : decode cX6_init 12 = .ok (.putfield 12, 3) := by decide +kernel
theorem dX6_init_15 : decode cX6_init 15 = .ok (.aload_n 0, 1) := by decide +kernel
theorem dX6_init_16 : decode cX6_init 16 = .ok (.new 18, 3) := by decide +kernel
theorem dX6_init_19 : decode cX6_init 19 = .ok (.dup, 1) := by decide +kernel
theorem dX6_init_20 : decode cX6_init 20 = .ok (.bipush 101, 2) := by decide +kernel
theorem dX6_init_22 : decode cX6_init 22 = .ok (.invokespecial 20, 3) := by decide +kernel
theorem dX6_init_25 : decode cX6_init 25 = .ok (.putfield 23, 3) := by decide +kernel
theorem dX6_init_28 : decode cX6_init 28 = .ok (.aload_n 0, 1) := by decide +kernel
theorem dX6_init_29 : decode cX6_init 29 = .ok (.new 18, 3) := by decide +kernel
theorem dX6_init_32 : decode cX6_init 32 = .ok (.dup, 1) := by decide +kernel
theorem dX6_init_33 : decode cX6_init 33 = .ok (.sipush 2000, 3) := by decide +kernel
theorem dX6_init_36 : decode cX6_init 36 = .ok (.invokespecial 20, 3) := by decide +kernel
theorem dX6_init_39 : decode cX6_init 39 = .ok (.putfield 27, 3) := by decide +kernel
theorem dX6_init_42 : decode cX6_init 42 = .ok (.aload_n 0, 1) := by decide +kernel
theorem dX6_init_43 : decode cX6_init 43 = .ok (.iconst 0, 1) := by decide +kernel
theorem dX6_init_44 : decode cX6_init 44 = .ok (.putfield 30, 3) := by decide +kernel
theorem dX6_init_47 : decode cX6_init 47 = .ok (.aload_n 0, 1) := by decide +kernel
theorem dX6_init_48 : decode cX6_init 48 = .ok (.iconst 0, 1) := by decide +kernel
theorem dX6_init_49 : decode cX6_init 49 = .ok (.putfield 34, 3) := by decide +kernel
theorem dX6_init_52 : decode cX6_init 52 = .ok (.aload_n 0, 1) := by decide +kernel
theorem dX6_init_53 : decode cX6_init 53 = .ok (.iconst (-1), 1) := by decide +kernel
theorem dX6_init_54 : decode cX6_init 54 = .ok (.putfield 37, 3) := by decide +kernel
theorem dX6_init_57 : decode cX6_init 57 = .ok (.return_, 1) := by decide +kernel
theorem dX6_run_0 : decode cX6_run 0 = .ok (.aload_n 0, 1) := by decide +kernel
theorem dX6_run_1 : decode cX6_run 1 = .ok (.getfield 12, 3) := by decide +kernel
theorem dX6_run_4 : decode cX6_run 4 = .ok (.aload_n 2, 1) := by decide +kernel
theorem dX6_run_5 : decode cX6_run 5 = .ok (.invokevirtual 40, 3) := by decide +kernel
theorem dX6_run_8 : decode cX6_run 8 = .ok (.aload_n 0, 1) := by decide +kernel
theorem dX6_run_9 : decode cX6_run 9 = .ok (.getfield 12, 3) := by decide +kernel
theorem dX6_run_12 : decode cX6_run 12 = .ok (.getfield 44, 3) := by decide +kernel
theorem dX6_run_15 : decode cX6_run 15 = .ok (.bipush 50, 2) := by decide +kernel
theorem dX6_run_17 : decode cX6_run 17 = .ok (.invokevirtual 47, 3) := by decide +kernel
theorem dX6_run_20 : decode cX6_run 20 = .ok (.aload_n 0, 1) := by decide +kernel
theorem dX6_run_21 : decode cX6_run 21 = .ok (.iconst 0, 1) := by decide +kernel
theorem dX6_run_22 : decode cX6_run 22 = .ok (.putfield 30, 3) := by decide +kernel
theorem dX6_run_25 : decode cX6_run 25 = .ok (.aload_n 0, 1) := by decide +kernel
theorem dX6_run_26 : decode cX6_run 26 = .ok (.iconst (-1), 1) := by decide +kernel
theorem dX6_run_27 : decode cX6_run 27 = .ok (.putfield 37, 3) := by decide +kernel
theorem dX6_run_30 : decode cX6_run 30 = .ok (.aload_n 0, 1) := by decide +kernel
theorem dX6_run_31 : decode cX6_run 31 = .ok (.getfield 23, 3) := by decide +kernel
theorem dX6_run_34 : decode cX6_run 34 = .ok (.iconst 0, 1) := by decide +kernel
theorem dX6_run_35 : decode cX6_run 35 = .ok (.aload_n 0, 1) := by decide +kernel
theorem dX6_run_36 : decode cX6_run 36 = .ok (.iload_n 1, 1) := by decide +kernel
theorem dX6_run_37 : decode cX6_run 37 = .ok (.invokevirtual 50, 3) := by decide +kernel
theorem dX6_run_40 : decode cX6_run 40 = .ok (.invokevirtual 54, 3) := by decide +kernel
theorem dX6_run_43 : decode cX6_run 43 = .ok (.iconst 1, 1) := by decide +kernel
theorem dX6_run_44 : decode cX6_run 44 = .ok (.istore 4, 2) := by decide +kernel
theorem dX6_run_46 : decode cX6_run 46 = .ok (.iload 4, 2) := by decide +kernel
theorem dX6_run_48 : decode cX6_run 48 = .ok (.bipush 100, 2) := by decide +kernel
theorem dX6_run_50 : decode cX6_run 50 = .ok (.if_icmp .gt 54, 3) := by decide +kernel
theorem dX6_run_53 : decode cX6_run 53 = .ok (.aload_n 0, 1) := by decide +kernel
theorem dX6_run_54 : decode cX6_run 54 = .ok (.getfield 37, 3) := by decide +kernel
theorem dX6_run_57 : decode cX6_run 57 = .ok (.iconst (-1), 1) := by decide +kernel
theorem dX6_run_58 : decode cX6_run 58 = .ok (.if_icmp .ne 46, 3) := by decide +kernel
theorem dX6_run_61 : decode cX6_run 61 = .ok (.aload_n 3, 1) := by decide +kernel
theorem dX6_run_62 : decode cX6_run 62 = .ok (.getfield 58, 3) := by decide +kernel
theorem dX6_run_65 : decode cX6_run 65 = .ok (.ifCond .le 39, 3) := by decide +kernel
theorem dX6_run_68 : decode cX6_run 68 = .ok (.aload_n 0, 1) := by decide +kernel
theorem dX6_run_69 : decode cX6_run 69 = .ok (.iload_n 1, 1) := by decide +kernel
theorem dX6_run_70 : decode cX6_run 70 = .ok (.aload_n 3, 1) := by decide +kernel
theorem dX6_run_71 : decode cX6_run 71 = .ok (.invokevirtual 63, 3) := by decide +kernel
theorem dX6_run_74 : decode cX6_run 74 = .ok (.aload_n 0, 1) := by decide +kernel
theorem dX6_run_75 : decode cX6_run 75 = .ok (.getfield 23, 3) := by decide +kernel
theorem dX6_run_78 : decode cX6_run 78 = .ok (.iload 4, 2) := by decide +kernel
theorem dX6_run_80 : decode cX6_run 80 = .ok (.aload_n 0, 1) := by decide +kernel
theorem dX6_run_81 : decode cX6_run 81 = .ok (.iload_n 1, 1) := by decide +kernel
theorem dX6_run_82 : decode cX6_run 82 = .ok (.invokevirtual 50, 3) := by decide +kernel
theorem dX6_run_85 : decode cX6_run 85 = .ok (.invokevirtual 54, 3) := by decide +kernel
theorem dX6_run_88 : decode cX6_run 88 = .ok (.aload_n 0, 1) := by decide +kernel
theorem dX6_run_89 : decode cX6_run 89 = .ok (.aload_n 0, 1) := by decide +kernel
theorem dX6_run_90 : decode cX6_run 90 = .ok (.iload 4, 2) := by decide +kernel
theorem dX6_run_92 : decode cX6_run 92 = .ok (.invokevirtual 67, 3) := by decide +kernel
theorem dX6_run_95 : decode cX6_run 95 = .ok (.putfield 37, 3) := by decide +kernel
theorem dX6_run_98 : decode cX6_run 98 = .ok (.iinc 4 1, 3) := by decide +kernel
theorem dX6_run_101 : decode cX6_run 101 = .ok (.goto (-55), 3) := by decide +kernel
theorem dX6_run_104 : decode cX6_run 104 = .ok (.aload_n 0, 1) := by decide +kernel
theorem dX6_run_105 : decode cX6_run 105 = .ok (.aload_n 0, 1) := by decide +kernel
theorem dX6_run_106 : decode cX6_run 106 = .ok (.getfield 37, 3) := by decide +kernel
theorem dX6_run_109 : decode cX6_run 109 = .ok (.iconst (-1), 1) := by decide +kernel
theorem dX6_run_110 : decode cX6_run 110 = .ok (.if_icmp .ne 7, 3) := by decide +kernel
theorem dX6_run_113 : decode cX6_run 113 = .ok (.iconst 0, 1) := by decide +kernel
theorem dX6_run_114 : decode cX6_run 114 = .ok (.goto 12, 3) := by decide +kernel
theorem dX6_run_117 : decode cX6_run 117 = .ok (.aload_n 0, 1) := by decide +kernel
theorem dX6_run_118 : decode cX6_run 118 = .ok (.getfield 37, 3) := by decide +kernel
theorem dX6_run_121 : decode cX6_run 121 = .ok (.aload_n 3, 1) := by decide +kernel
theorem dX6_run_122 : decode cX6_run 122 = .ok (.getfield 58, 3) := by decide +kernel
theorem dX6_run_125 : decode cX6_run 125 = .ok (.imul, 1) := by decide +kernel
theorem dX6_run_126 : decode cX6_run 126 = .ok (.putfield 34, 3) := by decide +kernel
theorem dX6_run_129 : decode cX6_run 129 = .ok (.return_, 1) := by decide +kernel
theorem dX6_goRound_0 : decode cX6_goRound 0 = .ok (.iconst 0, 1) := by decide +kernel
theorem dX6_goRound_1 : decode cX6_goRound 1 = .ok (.istore_n 3, 1) := by decide +kernel
theorem dX6_goRound_2 : decode cX6_goRound 2 = .ok (.iload_n 3, 1) := by decide +kernel
theorem dX6_goRound_3 : decode cX6_goRound 3 = .ok (.aload_n 2, 1) := by decide +kernel
theorem dX6_goRound_4 : decode cX6_goRound 4 = .ok (.getfield 58, 3) := by decide +kernel
theorem dX6_goRound_7 : decode cX6_goRound 7 = .ok (.if_icmp .ge 68, 3) := by decide +kernel
theorem dX6_goRound_10 : decode cX6_goRound 10 = .ok (.aload_n 0, 1) := by decide +kernel
theorem dX6_goRound_11 : decode cX6_goRound 11 = .ok (.getfield 12, 3) := by decide +kernel
theorem dX6_goRound_14 : decode cX6_goRound 14 = .ok (.aload_n 0, 1) := by decide +kernel
theorem dX6_goRound_15 : decode cX6_goRound 15 = .ok (.getfield 12, 3) := by decide +kernel
theorem dX6_goRound_18 : decode cX6_goRound 18 = .ok (.aload_n 2, 1) := by decide +kernel
theorem dX6_goRound_19 : decode cX6_goRound 19 = .ok (.getfield 70, 3) := by decide +kernel
theorem dX6_goRound_22 : decode cX6_goRound 22 = .ok (.iload_n 3, 1) := by decide +kernel
theorem dX6_goRound_23 : decode cX6_goRound 23 = .ok (.invokevirtual 73, 3) := by decide +kernel
theorem dX6_goRound_26 : decode cX6_goRound 26 = .ok (.aload_n 2, 1) := by decide +kernel
theorem dX6_goRound_27 : decode cX6_goRound 27 = .ok (.getfield 76, 3) := by decide +kernel
theorem dX6_goRound_30 : decode cX6_goRound 30 = .ok (.iload_n 3, 1) := by decide +kernel
theorem dX6_goRound_31 : decode cX6_goRound 31 = .ok (.invokevirtual 73, 3) := by decide +kernel
theorem dX6_goRound_34 : decode cX6_goRound 34 = .ok (.iload_n 1, 1) := by decide +kernel
theorem dX6_goRound_35 : decode cX6_goRound 35 = .ok (.invokevirtual 79, 3) := by decide +kernel
theorem dX6_goRound_38 : decode cX6_goRound 38 = .ok (.invokevirtual 83, 3) := by decide +kernel
theorem dX6_goRound_41 : decode cX6_goRound 41 = .ok (.aload_n 0, 1) := by decide +kernel
theorem dX6_goRound_42 : decode cX6_goRound 42 = .ok (.getfield 27, 3) := by decide +kernel
theorem dX6_goRound_45 : decode cX6_goRound 45 = .ok (.aload_n 0, 1) := by decide +kernel
theorem dX6_goRound_46 : decode cX6_goRound 46 = .ok (.getfield 30, 3) := by decide +kernel
theorem dX6_goRound_49 : decode cX6_goRound 49 = .ok (.aload_n 0, 1) := by decide +kernel
theorem dX6_goRound_50 : decode cX6_goRound 50 = .ok (.getfield 12, 3) := by decide +kernel
theorem dX6_goRound_53 : decode cX6_goRound 53 = .ok (.getfield 86, 3) := by decide +kernel
theorem dX6_goRound_56 : decode cX6_goRound 56 = .ok (.invokevirtual 54, 3) := by decide +kernel
theorem dX6_goRound_59 : decode cX6_goRound 59 = .ok (.aload_n 0, 1) := by decide +kernel
theorem dX6_goRound_60 : decode cX6_goRound 60 = .ok (.dup, 1) := by decide +kernel
theorem dX6_goRound_61 : decode cX6_goRound 61 = .ok (.getfield 30, 3) := by decide +kernel
theorem dX6_goRound_64 : decode cX6_goRound 64 = .ok (.iconst 1, 1) := by decide +kernel
theorem dX6_goRound_65 : decode cX6_goRound 65 = .ok (.iadd, 1) := by decide +kernel
theorem dX6_goRound_66 : decode cX6_goRound 66 = .ok (.putfield 30, 3) := by decide +kernel
theorem dX6_goRound_69 : decode cX6_goRound 69 = .ok (.iinc 3 1, 3) := by decide +kernel
theorem dX6_goRound_72 : decode cX6_goRound 72 = .ok (.goto (-70), 3) := by decide +kernel
theorem dX6_goRound_75 : decode cX6_goRound 75 = .ok (.return_, 1) := by decide +kernel
theorem dX6_standing_0 : decode cX6_standing 0 = .ok (.aload_n 0, 1) := by decide +kernel
theorem dX6_standing_1 : decode cX6_standing 1 = .ok (.getfield 12, 3) := by decide +kernel
theorem dX6_standing_4 : decode cX6_standing 4 = .ok (.getfield 86, 3) := by decide +kernel
theorem dX6_standing_7 : decode cX6_standing 7 = .ok (.istore_n 2, 1) := by decide +kernel
theorem dX6_standing_8 : decode cX6_standing 8 = .ok (.iconst 0, 1) := by decide +kernel
theorem dX6_standing_9 : decode cX6_standing 9 = .ok (.istore_n 3, 1) := by decide +kernel
theorem dX6_standing_10 : decode cX6_standing 10 = .ok (.iload_n 3, 1) := by decide +kernel
theorem dX6_standing_11 : decode cX6_standing 11 = .ok (.iload_n 1, 1) := by decide +kernel
theorem dX6_standing_12 : decode cX6_standing 12 = .ok (.if_icmp .ge 63, 3) := by decide +kernel
theorem dX6_standing_15 : decode cX6_standing 15 = .ok (.iconst 0, 1) := by decide +kernel
theorem dX6_standing_16 : decode cX6_standing 16 = .ok (.istore 4, 2) := by decide +kernel
theorem dX6_standing_18 : decode cX6_standing 18 = .ok (.iconst 0, 1) := by decide +kernel
theorem dX6_standing_19 : decode cX6_standing 19 = .ok (.istore 5, 2) := by decide +kernel
theorem dX6_standing_21 : decode cX6_standing 21 = .ok (.iload 5, 2) := by decide +kernel
theorem dX6_standing_23 : decode cX6_standing 23 = .ok (.iload_n 1, 1) := by decide +kernel
theorem dX6_standing_24 : decode cX6_standing 24 = .ok (.if_icmp .ge 38, 3) := by decide +kernel
theorem dX6_standing_27 : decode cX6_standing 27 = .ok (.aload_n 0, 1) := by decide +kernel
theorem dX6_standing_28 : decode cX6_standing 28 = .ok (.getfield 12, 3) := by decide +kernel
theorem dX6_standing_31 : decode cX6_standing 31 = .ok (.getfield 89, 3) := by decide +kernel
theorem dX6_standing_34 : decode cX6_standing 34 = .ok (.iload 5, 2) := by decide +kernel
theorem dX6_standing_36 : decode cX6_standing 36 = .ok (.invokevirtual 73, 3) := by decide +kernel
theorem dX6_standing_39 : decode cX6_standing 39 = .ok (.aload_n 0, 1) := by decide +kernel
theorem dX6_standing_40 : decode cX6_standing 40 = .ok (.getfield 12, 3) := by decide +kernel
theorem dX6_standing_43 : decode cX6_standing 43 = .ok (.getfield 89, 3) := by decide +kernel
theorem dX6_standing_46 : decode cX6_standing 46 = .ok (.iload_n 3, 1) := by decide +kernel
theorem dX6_standing_47 : decode cX6_standing 47 = .ok (.invokevirtual 73, 3) := by decide +kernel
theorem dX6_standing_50 : decode cX6_standing 50 = .ok (.if_icmp .ge 6, 3) := by decide +kernel
theorem dX6_standing_53 : decode cX6_standing 53 = .ok (.iinc 4 1, 3) := by decide +kernel
theorem dX6_standing_56 : decode cX6_standing 56 = .ok (.iinc 5 1, 3) := by decide +kernel
theorem dX6_standing_59 : decode cX6_standing 59 = .ok (.goto (-38), 3) := by decide +kernel
theorem dX6_standing_62 : decode cX6_standing 62 = .ok (.iload_n 2, 1) := by decide +kernel
theorem dX6_standing_63 : decode cX6_standing 63 = .ok (.iconst 5, 1) := by decide +kernel
theorem dX6_standing_64 : decode cX6_standing 64 = .ok (.imul, 1) := by decide +kernel
theorem dX6_standing_65 : decode cX6_standing 65 = .ok (.iload 4, 2) := by decide +kernel
theorem dX6_standing_67 : decode cX6_standing 67 = .ok (.iadd, 1) := by decide +kernel
theorem dX6_standing_68 : decode cX6_standing 68 = .ok (.istore_n 2, 1) := by decide +kernel
theorem dX6_standing_69 : decode cX6_standing 69 = .ok (.iinc 3 1, 3) := by decide +kernel
theorem dX6_standing_72 : decode cX6_standing 72 = .ok (.goto (-62), 3) := by decide +kernel
theorem dX6_standing_75 : decode cX6_standing 75 = .ok (.iload_n 2, 1) := by decide +kernel
theorem dX6_standing_76 : decode cX6_standing 76 = .ok (.ireturn, 1) := by decide +kernel
theorem dX6_roundsSinceLike_0 : decode cX6_roundsSinceLike 0 = .ok (.iconst 0, 1) := by decide +kernel
theorem dX6_roundsSinceLike_1 : decode cX6_roundsSinceLike 1 = .ok (.istore_n 2, 1) := by decide +kernel
theorem dX6_roundsSinceLike_2 : decode cX6_roundsSinceLike 2 = .ok (.iload_n 2, 1) := by decide +kernel
theorem dX6_roundsSinceLike_3 : decode cX6_roundsSinceLike 3 = .ok (.iload_n 1, 1) := by decide +kernel
theorem dX6_roundsSinceLike_4 : decode cX6_roundsSinceLike 4 = .ok (.if_icmp .ge 32, 3) := by decide +kernel
theorem dX6_roundsSinceLike_7 : decode cX6_roundsSinceLike 7 = .ok (.aload_n 0, 1) := by decide +kernel
theorem dX6_roundsSinceLike_8 : decode cX6_roundsSinceLike 8 = .ok (.getfield 23, 3) := by decide +kernel
theorem dX6_roundsSinceLike_11 : decode cX6_roundsSinceLike 11 = .ok (.iload_n 2, 1) := by decide +kernel
theorem dX6_roundsSinceLike_12 : decode cX6_roundsSinceLike 12 = .ok (.invokevirtual 73, 3) := by decide +kernel
theorem dX6_roundsSinceLike_15 : decode cX6_roundsSinceLike 15 = .ok (.aload_n 0, 1) := by decide +kernel
theorem dX6_roundsSinceLike_16 : decode cX6_roundsSinceLike 16 = .ok (.getfield 23, 3) := by decide +kernel
theorem dX6_roundsSinceLike_19 : decode cX6_roundsSinceLike 19 = .ok (.iload_n 1, 1) := by decide +kernel
theorem dX6_roundsSinceLike_20 : decode cX6_roundsSinceLike 20 = .ok (.invokevirtual 73, 3) := by decide +kernel
theorem dX6_roundsSinceLike_23 : decode cX6_roundsSinceLike 23 = .ok (.if_icmp .ne 7, 3) := by decide +kernel
theorem dX6_roundsSinceLike_26 : decode cX6_roundsSinceLike 26 = .ok (.iload_n 1, 1) := by decide +kernel
theorem dX6_roundsSinceLike_27 : decode cX6_roundsSinceLike 27 = .ok (.iload_n 2, 1) := by decide +kernel
theorem dX6_roundsSinceLike_28 : decode cX6_roundsSinceLike 28 = .ok (.isub, 1) := by decide +kernel
theorem dX6_roundsSinceLike_29 : decode cX6_roundsSinceLike 29 = .ok (.ireturn, 1) := by decide +kernel
theorem dX6_roundsSinceLike_30 : decode cX6_roundsSinceLike 30 = .ok (.iinc 2 1, 3) := by decide +kernel
theorem dX6_roundsSinceLike_33 : decode cX6_roundsSinceLike 33 = .ok (.goto (-31), 3) := by decide +kernel
theorem dX6_roundsSinceLike_36 : decode cX6_roundsSinceLike 36 = .ok (.iconst (-1), 1) := by decide +kernel
theorem dX6_roundsSinceLike_37 : decode cX6_roundsSinceLike 37 = .ok (.ireturn, 1) := by decide +kernel
theorem dX6_hoursOf_0 : decode cX6_hoursOf 0 = .ok (.iconst 0, 1) := by decide +kernel
theorem dX6_hoursOf_1 : decode cX6_hoursOf 1 = .ok (.istore_n 2, 1) := by decide +kernel
theorem dX6_hoursOf_2 : decode cX6_hoursOf 2 = .ok (.aload_n 0, 1) := by decide +kernel
theorem dX6_hoursOf_3 : decode cX6_hoursOf 3 = .ok (.getfield 30, 3) := by decide +kernel
theorem dX6_hoursOf_6 : decode cX6_hoursOf 6 = .ok (.aload_n 0, 1) := by decide +kernel
theorem dX6_hoursOf_7 : decode cX6_hoursOf 7 = .ok (.getfield 34, 3) := by decide +kernel
theorem dX6_hoursOf_10 : decode cX6_hoursOf 10 = .ok (.isub, 1) := by decide +kernel
theorem dX6_hoursOf_11 : decode cX6_hoursOf 11 = .ok (.istore_n 3, 1) := by decide +kernel
theorem dX6_hoursOf_12 : decode cX6_hoursOf 12 = .ok (.iload_n 3, 1) := by decide +kernel
theorem dX6_hoursOf_13 : decode cX6_hoursOf 13 = .ok (.aload_n 0, 1) := by decide +kernel
theorem dX6_hoursOf_14 : decode cX6_hoursOf 14 = .ok (.getfield 30, 3) := by decide +kernel
theorem dX6_hoursOf_17 : decode cX6_hoursOf 17 = .ok (.if_icmp .ge 24, 3) := by decide +kernel
theorem dX6_hoursOf_20 : decode cX6_hoursOf 20 = .ok (.aload_n 0, 1) := by decide +kernel
theorem dX6_hoursOf_21 : decode cX6_hoursOf 21 = .ok (.getfield 27, 3) := by decide +kernel
theorem dX6_hoursOf_24 : decode cX6_hoursOf 24 = .ok (.iload_n 3, 1) := by decide +kernel
theorem dX6_hoursOf_25 : decode cX6_hoursOf 25 = .ok (.invokevirtual 73, 3) := by decide +kernel
theorem dX6_hoursOf_28 : decode cX6_hoursOf 28 = .ok (.iload_n 1, 1) := by decide +kernel
theorem dX6_hoursOf_29 : decode cX6_hoursOf 29 = .ok (.if_icmp .ne 6, 3) := by decide +kernel
theorem dX6_hoursOf_32 : decode cX6_hoursOf 32 = .ok (.iinc 2 1, 3) := by decide +kernel
theorem dX6_hoursOf_35 : decode cX6_hoursOf 35 = .ok (.iinc 3 1, 3) := by decide +kernel
theorem dX6_hoursOf_38 : decode cX6_hoursOf 38 = .ok (.goto (-26), 3) := by decide +kernel
theorem dX6_hoursOf_41 : decode cX6_hoursOf 41 = .ok (.iload_n 2, 1) := by decide +kernel
theorem dX6_hoursOf_42 : decode cX6_hoursOf 42 = .ok (.ireturn, 1) := by decide +kernel
theorem dX6_spread_0 : decode cX6_spread 0 = .ok (.aload_n 0, 1) := by decide +kernel
theorem dX6_spread_1 : decode cX6_spread 1 = .ok (.iconst 0, 1) := by decide +kernel
theorem dX6_spread_2 : decode cX6_spread 2 = .ok (.invokevirtual 92, 3) := by decide +kernel
theorem dX6_spread_5 : decode cX6_spread 5 = .ok (.istore_n 2, 1) := by decide +kernel
theorem dX6_spread_6 : decode cX6_spread 6 = .ok (.iload_n 2, 1) := by decide +kernel
theorem dX6_spread_7 : decode cX6_spread 7 = .ok (.istore_n 3, 1) := by decide +kernel
theorem dX6_spread_8 : decode cX6_spread 8 = .ok (.iconst 1, 1) := by decide +kernel
theorem dX6_spread_9 : decode cX6_spread 9 = .ok (.istore 4, 2) := by decide +kernel
theorem dX6_spread_11 : decode cX6_spread 11 = .ok (.iload 4, 2) := by decide +kernel
theorem dX6_spread_13 : decode cX6_spread 13 = .ok (.iload_n 1, 1) := by decide +kernel
theorem dX6_spread_14 : decode cX6_spread 14 = .ok (.if_icmp .ge 31, 3) := by decide +kernel
theorem dX6_spread_17 : decode cX6_spread 17 = .ok (.aload_n 0, 1) := by decide +kernel
theorem dX6_spread_18 : decode cX6_spread 18 = .ok (.iload 4, 2) := by decide +kernel
theorem dX6_spread_20 : decode cX6_spread 20 = .ok (.invokevirtual 92, 3) := by decide +kernel
theorem dX6_spread_23 : decode cX6_spread 23 = .ok (.istore 5, 2) := by decide +kernel
theorem dX6_spread_25 : decode cX6_spread 25 = .ok (.iload_n 2, 1) := by decide +kernel
theorem dX6_spread_26 : decode cX6_spread 26 = .ok (.iload 5, 2) := by decide +kernel
theorem dX6_spread_28 : decode cX6_spread 28 = .ok (.invokestatic 95, 3) := by decide +kernel
theorem dX6_spread_31 : decode cX6_spread 31 = .ok (.istore_n 2, 1) := by decide +kernel
theorem dX6_spread_32 : decode cX6_spread 32 = .ok (.iload_n 3, 1) := by decide +kernel
theorem dX6_spread_33 : decode cX6_spread 33 = .ok (.iload 5, 2) := by decide +kernel
theorem dX6_spread_35 : decode cX6_spread 35 = .ok (.invokestatic 101, 3) := by decide +kernel
theorem dX6_spread_38 : decode cX6_spread 38 = .ok (.istore_n 3, 1) := by decide +kernel
theorem dX6_spread_39 : decode cX6_spread 39 = .ok (.iinc 4 1, 3) := by decide +kernel
theorem dX6_spread_42 : decode cX6_spread 42 = .ok (.goto (-31), 3) := by decide +kernel
theorem dX6_spread_45 : decode cX6_spread 45 = .ok (.iload_n 3, 1) := by decide +kernel
theorem dX6_spread_46 : decode cX6_spread 46 = .ok (.iload_n 2, 1) := by decide +kernel
theorem dX6_spread_47 : decode cX6_spread 47 = .ok (.isub, 1) := by decide +kernel
theorem dX6_spread_48 : decode cX6_spread 48 = .ok (.ireturn, 1) := by decide +kernel
theorem dX7_init_0 : decode cX7_init 0 = .ok (.aload_n 0, 1) := by decide +kernel
theorem dX7_init_1 : decode cX7_init 1 = .ok (.invokespecial 1, 3) := by decide +kernel
theorem dX7_init_4 : decode cX7_init 4 = .ok (.aload_n 0, 1) := by decide +kernel
theorem dX7_init_5 : decode cX7_init 5 = .ok (.iconst 0, 1) := by decide +kernel
theorem dX7_init_6 : decode cX7_init 6 = .ok (.iload_n 1, 1) := by decide +kernel
theorem dX7_init_7 : decode cX7_init 7 = .ok (.invokestatic 7, 3) := by decide +kernel
theorem dX7_init_10 : decode cX7_init 10 = .ok (.newarray .int, 2) := by decide +kernel
theorem dX7_init_12 : decode cX7_init 12 = .ok (.putfield 13, 3) := by decide +kernel
theorem dX7_init_15 : decode cX7_init 15 = .ok (.return_, 1) := by decide +kernel
theorem dX7_at_0 : decode cX7_at 0 = .ok (.iload_n 1, 1) := by decide +kernel
theorem dX7_at_1 : decode cX7_at 1 = .ok (.ifCond .lt 21, 3) := by decide +kernel
theorem dX7_at_4 : decode cX7_at 4 = .ok (.iload_n 1, 1) := by decide +kernel
theorem dX7_at_5 : decode cX7_at 5 = .ok (.aload_n 0, 1) := by decide +kernel
theorem dX7_at_6 : decode cX7_at 6 = .ok (.getfield 13, 3) := by decide +kernel
theorem dX7_at_9 : decode cX7_at 9 = .ok (.arraylength, 1) := by decide +kernel
theorem dX7_at_10 : decode cX7_at 10 = .ok (.if_icmp .ge 12, 3) := by decide +kernel
theorem dX7_at_13 : decode cX7_at 13 = .ok (.aload_n 0, 1) := by decide +kernel
theorem dX7_at_14 : decode cX7_at 14 = .ok (.getfield 13, 3) := by decide +kernel
theorem dX7_at_17 : decode cX7_at 17 = .ok (.iload_n 1, 1) := by decide +kernel
theorem dX7_at_18 : decode cX7_at 18 = .ok (.iaload, 1) := by decide +kernel
theorem dX7_at_19 : decode cX7_at 19 = .ok (.goto 4, 3) := by decide +kernel
theorem dX7_at_22 : decode cX7_at 22 = .ok (.iconst 0, 1) := by decide +kernel
theorem dX7_at_23 : decode cX7_at 23 = .ok (.ireturn, 1) := by decide +kernel
theorem dX7_put_0 : decode cX7_put 0 = .ok (.iload_n 1, 1) := by decide +kernel
theorem dX7_put_1 : decode cX7_put 1 = .ok (.ifCond .lt 19, 3) := by decide +kernel
theorem dX7_put_4 : decode cX7_put 4 = .ok (.iload_n 1, 1) := by decide +kernel
theorem dX7_put_5 : decode cX7_put 5 = .ok (.aload_n 0, 1) := by decide +kernel
theorem dX7_put_6 : decode cX7_put 6 = .ok (.getfield 13, 3) := by decide +kernel
theorem dX7_put_9 : decode cX7_put 9 = .ok (.arraylength, 1) := by decide +kernel
theorem dX7_put_10 : decode cX7_put 10 = .ok (.if_icmp .ge 10, 3) := by decide +kernel
theorem dX7_put_13 : decode cX7_put 13 = .ok (.aload_n 0, 1) := by decide +kernel
theorem dX7_put_14 : decode cX7_put 14 = .ok (.getfield 13, 3) := by decide +kernel
theorem dX7_put_17 : decode cX7_put 17 = .ok (.iload_n 1, 1) := by decide +kernel
theorem dX7_put_18 : decode cX7_put 18 = .ok (.iload_n 2, 1) := by decide +kernel
theorem dX7_put_19 : decode cX7_put 19 = .ok (.iastore, 1) := by decide +kernel
theorem dX7_put_20 : decode cX7_put 20 = .ok (.return_, 1) := by decide +kernel
theorem dX7_fill_0 : decode cX7_fill 0 = .ok (.iconst 0, 1) := by decide +kernel
theorem dX7_fill_1 : decode cX7_fill 1 = .ok (.istore_n 2, 1) := by decide +kernel
theorem dX7_fill_2 : decode cX7_fill 2 = .ok (.iload_n 2, 1) := by decide +kernel
theorem dX7_fill_3 : decode cX7_fill 3 = .ok (.aload_n 0, 1) := by decide +kernel
theorem dX7_fill_4 : decode cX7_fill 4 = .ok (.getfield 13, 3) := by decide +kernel
theorem dX7_fill_7 : decode cX7_fill 7 = .ok (.arraylength, 1) := by decide +kernel
theorem dX7_fill_8 : decode cX7_fill 8 = .ok (.if_icmp .ge 16, 3) := by decide +kernel
theorem dX7_fill_11 : decode cX7_fill 11 = .ok (.aload_n 0, 1) := by decide +kernel
theorem dX7_fill_12 : decode cX7_fill 12 = .ok (.getfield 13, 3) := by decide +kernel
theorem dX7_fill_15 : decode cX7_fill 15 = .ok (.iload_n 2, 1) := by decide +kernel
theorem dX7_fill_16 : decode cX7_fill 16 = .ok (.iload_n 1, 1) := by decide +kernel
theorem dX7_fill_17 : decode cX7_fill 17 = .ok (.iastore, 1) := by decide +kernel
theorem dX7_fill_18 : decode cX7_fill 18 = .ok (.iinc 2 1, 3) := by decide +kernel
theorem dX7_fill_21 : decode cX7_fill 21 = .ok (.goto (-19), 3) := by decide +kernel
theorem dX7_fill_24 : decode cX7_fill 24 = .ok (.return_, 1) := by decide +kernel
theorem dX7_copyFrom_0 : decode cX7_copyFrom 0 = .ok (.iconst 0, 1) := by decide +kernel
theorem dX7_copyFrom_1 : decode cX7_copyFrom 1 = .ok (.istore_n 2, 1) := by decide +kernel
theorem dX7_copyFrom_2 : decode cX7_copyFrom 2 = .ok (.iload_n 2, 1) := by decide +kernel
theorem dX7_copyFrom_3 : decode cX7_copyFrom 3 = .ok (.aload_n 0, 1) := by decide +kernel
theorem dX7_copyFrom_4 : decode cX7_copyFrom 4 = .ok (.getfield 13, 3) := by decide +kernel
theorem dX7_copyFrom_7 : decode cX7_copyFrom 7 = .ok (.arraylength, 1) := by decide +kernel
theorem dX7_copyFrom_8 : decode cX7_copyFrom 8 = .ok (.if_icmp .ge 30, 3) := by decide +kernel
theorem dX7_copyFrom_11 : decode cX7_copyFrom 11 = .ok (.iload_n 2, 1) := by decide +kernel
theorem dX7_copyFrom_12 : decode cX7_copyFrom 12 = .ok (.aload_n 1, 1) := by decide +kernel
theorem dX7_copyFrom_13 : decode cX7_copyFrom 13 = .ok (.getfield 13, 3) := by decide +kernel
theorem dX7_copyFrom_16 : decode cX7_copyFrom 16 = .ok (.arraylength, 1) := by decide +kernel
theorem dX7_copyFrom_17 : decode cX7_copyFrom 17 = .ok (.if_icmp .ge 21, 3) := by decide +kernel
theorem dX7_copyFrom_20 : decode cX7_copyFrom 20 = .ok (.aload_n 0, 1) := by decide +kernel
theorem dX7_copyFrom_21 : decode cX7_copyFrom 21 = .ok (.getfield 13, 3) := by decide +kernel
theorem dX7_copyFrom_24 : decode cX7_copyFrom 24 = .ok (.iload_n 2, 1) := by decide +kernel
theorem dX7_copyFrom_25 : decode cX7_copyFrom 25 = .ok (.aload_n 1, 1) := by decide +kernel
theorem dX7_copyFrom_26 : decode cX7_copyFrom 26 = .ok (.getfield 13, 3) := by decide +kernel
theorem dX7_copyFrom_29 : decode cX7_copyFrom 29 = .ok (.iload_n 2, 1) := by decide +kernel
theorem dX7_copyFrom_30 : decode cX7_copyFrom 30 = .ok (.iaload, 1) := by decide +kernel
theorem dX7_copyFrom_31 : decode cX7_copyFrom 31 = .ok (.iastore, 1) := by decide +kernel
theorem dX7_copyFrom_32 : decode cX7_copyFrom 32 = .ok (.iinc 2 1, 3) := by decide +kernel
theorem dX7_copyFrom_35 : decode cX7_copyFrom 35 = .ok (.goto (-33), 3) := by decide +kernel
theorem dX7_copyFrom_38 : decode cX7_copyFrom 38 = .ok (.return_, 1) := by decide +kernel
theorem dX8_init_0 : decode cX8_init 0 = .ok (.aload_n 0, 1) := by decide +kernel
theorem dX8_init_1 : decode cX8_init 1 = .ok (.invokespecial 1, 3) := by decide +kernel
theorem dX8_init_4 : decode cX8_init 4 = .ok (.aload_n 0, 1) := by decide +kernel
theorem dX8_init_5 : decode cX8_init 5 = .ok (.new 7, 3) := by decide +kernel
theorem dX8_init_8 : decode cX8_init 8 = .ok (.dup, 1) := by decide +kernel
theorem dX8_init_9 : decode cX8_init 9 = .ok (.invokespecial 9, 3) := by decide +kernel
theorem dX8_init_12 : decode cX8_init 12 = .ok (.putfield 10, 3) := by decide +kernel
theorem dX8_init_15 : decode cX8_init 15 = .ok (.aload_n 0, 1) := by decide +kernel
theorem dX8_init_16 : decode cX8_init 16 = .ok (.iconst 0, 1) := by decide +kernel
theorem dX8_init_17 : decode cX8_init 17 = .ok (.iload_n 1, 1) := by decide +kernel
theorem dX8_init_18 : decode cX8_init 18 = .ok (.invokestatic 16, 3) := by decide +kernel
theorem dX8_init_21 : decode cX8_init 21 = .ok (.anewarray 7, 3) := by decide +kernel
theorem dX8_init_24 : decode cX8_init 24 = .ok (.putfield 22, 3) := by decide +kernel
theorem dX8_init_27 : decode cX8_init 27 = .ok (.iconst 0, 1) := by decide +kernel
theorem dX8_init_28 : decode cX8_init 28 = .ok (.istore_n 2, 1) := by decide +kernel
theorem dX8_init_29 : decode cX8_init 29 = .ok (.iload_n 2, 1) := by decide +kernel
theorem dX8_init_30 : decode cX8_init 30 = .ok (.aload_n 0, 1) := by decide +kernel
theorem dX8_init_31 : decode cX8_init 31 = .ok (.getfield 22, 3) := by decide +kernel
theorem dX8_init_34 : decode cX8_init 34 = .ok (.arraylength, 1) := by decide +kernel
theorem dX8_init_35 : decode cX8_init 35 = .ok (.if_icmp .ge 22, 3) := by decide +kernel
theorem dX8_init_38 : decode cX8_init 38 = .ok (.aload_n 0, 1) := by decide +kernel
theorem dX8_init_39 : decode cX8_init 39 = .ok (.getfield 22, 3) := by decide +kernel
theorem dX8_init_42 : decode cX8_init 42 = .ok (.iload_n 2, 1) := by decide +kernel
theorem dX8_init_43 : decode cX8_init 43 = .ok (.new 7, 3) := by decide +kernel
theorem dX8_init_46 : decode cX8_init 46 = .ok (.dup, 1) := by decide +kernel
theorem dX8_init_47 : decode cX8_init 47 = .ok (.invokespecial 9, 3) := by decide +kernel
theorem dX8_init_50 : decode cX8_init 50 = .ok (.aastore, 1) := by decide +kernel
theorem dX8_init_51 : decode cX8_init 51 = .ok (.iinc 2 1, 3) := by decide +kernel
theorem dX8_init_54 : decode cX8_init 54 = .ok (.goto (-25), 3) := by decide +kernel
theorem dX8_init_57 : decode cX8_init 57 = .ok (.return_, 1) := by decide +kernel
theorem dX8_at_0 : decode cX8_at 0 = .ok (.iload_n 1, 1) := by decide +kernel
theorem dX8_at_1 : decode cX8_at 1 = .ok (.ifCond .lt 21, 3) := by decide +kernel
theorem dX8_at_4 : decode cX8_at 4 = .ok (.iload_n 1, 1) := by decide +kernel
theorem dX8_at_5 : decode cX8_at 5 = .ok (.aload_n 0, 1) := by decide +kernel
theorem dX8_at_6 : decode cX8_at 6 = .ok (.getfield 22, 3) := by decide +kernel
theorem dX8_at_9 : decode cX8_at 9 = .ok (.arraylength, 1) := by decide +kernel
theorem dX8_at_10 : decode cX8_at 10 = .ok (.if_icmp .ge 12, 3) := by decide +kernel
theorem dX8_at_13 : decode cX8_at 13 = .ok (.aload_n 0, 1) := by decide +kernel
theorem dX8_at_14 : decode cX8_at 14 = .ok (.getfield 22, 3) := by decide +kernel
theorem dX8_at_17 : decode cX8_at 17 = .ok (.iload_n 1, 1) := by decide +kernel
theorem dX8_at_18 : decode cX8_at 18 = .ok (.aaload, 1) := by decide +kernel
theorem dX8_at_19 : decode cX8_at 19 = .ok (.goto 7, 3) := by decide +kernel
theorem dX8_at_22 : decode cX8_at 22 = .ok (.aload_n 0, 1) := by decide +kernel
theorem dX8_at_23 : decode cX8_at 23 = .ok (.getfield 10, 3) := by decide +kernel
theorem dX8_at_26 : decode cX8_at 26 = .ok (.astore_n 2, 1) := by decide +kernel
theorem dX8_at_27 : decode cX8_at 27 = .ok (.aload_n 2, 1) := by decide +kernel
theorem dX8_at_28 : decode cX8_at 28 = .ok (.ifnull 7, 3) := by decide +kernel
theorem dX8_at_31 : decode cX8_at 31 = .ok (.aload_n 2, 1) := by decide +kernel
theorem dX8_at_32 : decode cX8_at 32 = .ok (.goto 7, 3) := by decide +kernel
theorem dX8_at_35 : decode cX8_at 35 = .ok (.aload_n 0, 1) := by decide +kernel
theorem dX8_at_36 : decode cX8_at 36 = .ok (.getfield 10, 3) := by decide +kernel
theorem dX8_at_39 : decode cX8_at 39 = .ok (.areturn, 1) := by decide +kernel
theorem dX9_init_0 : decode cX9_init 0 = .ok (.aload_n 0, 1) := by decide +kernel
theorem dX9_init_1 : decode cX9_init 1 = .ok (.invokespecial 3, 3) := by decide +kernel
theorem dX9_init_4 : decode cX9_init 4 = .ok (.aload_n 0, 1) := by decide +kernel
theorem dX9_init_5 : decode cX9_init 5 = .ok (.new 9, 3) := by decide +kernel
theorem dX9_init_8 : decode cX9_init 8 = .ok (.dup, 1) := by decide +kernel
theorem dX9_init_9 : decode cX9_init 9 = .ok (.iconst 5, 1) := by decide +kernel
theorem dX9_init_10 : decode cX9_init 10 = .ok (.invokespecial 11, 3) := by decide +kernel
theorem dX9_init_13 : decode cX9_init 13 = .ok (.putfield 14, 3) := by decide +kernel
theorem dX9_init_16 : decode cX9_init 16 = .ok (.aload_n 0, 1) := by decide +kernel
theorem dX9_init_17 : decode cX9_init 17 = .ok (.new 9, 3) := by decide +kernel
theorem dX9_init_20 : decode cX9_init 20 = .ok (.dup, 1) := by decide +kernel
theorem dX9_init_21 : decode cX9_init 21 = .ok (.iconst 5, 1) := by decide +kernel
theorem dX9_init_22 : decode cX9_init 22 = .ok (.invokespecial 11, 3) := by decide +kernel
theorem dX9_init_25 : decode cX9_init 25 = .ok (.putfield 20, 3) := by decide +kernel
theorem dX9_init_28 : decode cX9_init 28 = .ok (.aload_n 0, 1) := by decide +kernel
theorem dX9_init_29 : decode cX9_init 29 = .ok (.new 9, 3) := by decide +kernel
theorem dX9_init_32 : decode cX9_init 32 = .ok (.dup, 1) := by decide +kernel
theorem dX9_init_33 : decode cX9_init 33 = .ok (.bipush 6, 2) := by decide +kernel
theorem dX9_init_35 : decode cX9_init 35 = .ok (.invokespecial 11, 3) := by decide +kernel
theorem dX9_init_38 : decode cX9_init 38 = .ok (.putfield 23, 3) := by decide +kernel
theorem dX9_init_41 : decode cX9_init 41 = .ok (.aload_n 0, 1) := by decide +kernel
theorem dX9_init_42 : decode cX9_init 42 = .ok (.iconst (-1), 1) := by decide +kernel
theorem dX9_init_43 : decode cX9_init 43 = .ok (.putfield 26, 3) := by decide +kernel
theorem dX9_init_46 : decode cX9_init 46 = .ok (.aload_n 0, 1) := by decide +kernel
theorem dX9_init_47 : decode cX9_init 47 = .ok (.iconst 0, 1) := by decide +kernel
theorem dX9_init_48 : decode cX9_init 48 = .ok (.putfield 30, 3) := by decide +kernel
theorem dX9_init_51 : decode cX9_init 51 = .ok (.aload_n 0, 1) := by decide +kernel
theorem dX9_init_52 : decode cX9_init 52 = .ok (.iconst 0, 1) := by decide +kernel
theorem dX9_init_53 : decode cX9_init 53 = .ok (.putfield 33, 3) := by decide +kernel
theorem dX9_init_56 : decode cX9_init 56 = .ok (.return_, 1) := by decide +kernel
theorem dX9_moveInto_0 : decode cX9_moveInto 0 = .ok (.aload_n 0, 1) := by decide +kernel
theorem dX9_moveInto_1 : decode cX9_moveInto 1 = .ok (.getfield 14, 3) := by decide +kernel
theorem dX9_moveInto_4 : decode cX9_moveInto 4 = .ok (.aload_n 1, 1) := by decide +kernel
theorem dX9_moveInto_5 : decode cX9_moveInto 5 = .ok (.getfield 36, 3) := by decide +kernel
theorem dX9_moveInto_8 : decode cX9_moveInto 8 = .ok (.invokevirtual 39, 3) := by decide +kernel
theorem dX9_moveInto_11 : decode cX9_moveInto 11 = .ok (.aload_n 0, 1) := by decide +kernel
theorem dX9_moveInto_12 : decode cX9_moveInto 12 = .ok (.getfield 20, 3) := by decide +kernel
theorem dX9_moveInto_15 : decode cX9_moveInto 15 = .ok (.iconst (-1), 1) := by decide +kernel
theorem dX9_moveInto_16 : decode cX9_moveInto 16 = .ok (.invokevirtual 43, 3) := by decide +kernel
theorem dX9_moveInto_19 : decode cX9_moveInto 19 = .ok (.aload_n 0, 1) := by decide +kernel
theorem dX9_moveInto_20 : decode cX9_moveInto 20 = .ok (.getfield 23, 3) := by decide +kernel
theorem dX9_moveInto_23 : decode cX9_moveInto 23 = .ok (.aload_n 1, 1) := by decide +kernel
theorem dX9_moveInto_24 : decode cX9_moveInto 24 = .ok (.getfield 46, 3) := by decide +kernel
theorem dX9_moveInto_27 : decode cX9_moveInto 27 = .ok (.invokevirtual 39, 3) := by decide +kernel
theorem dX9_moveInto_30 : decode cX9_moveInto 30 = .ok (.aload_n 0, 1) := by decide +kernel
theorem dX9_moveInto_31 : decode cX9_moveInto 31 = .ok (.aload_n 1, 1) := by decide +kernel
theorem dX9_moveInto_32 : decode cX9_moveInto 32 = .ok (.getfield 47, 3) := by decide +kernel
theorem dX9_moveInto_35 : decode cX9_moveInto 35 = .ok (.ifCond .le 10, 3) := by decide +kernel
theorem dX9_moveInto_38 : decode cX9_moveInto 38 = .ok (.aload_n 1, 1) := by decide +kernel
theorem dX9_moveInto_39 : decode cX9_moveInto 39 = .ok (.getfield 50, 3) := by decide +kernel
theorem dX9_moveInto_42 : decode cX9_moveInto 42 = .ok (.goto 4, 3) := by decide +kernel
theorem dX9_moveInto_45 : decode cX9_moveInto 45 = .ok (.iconst (-1), 1) := by decide +kernel
theorem dX9_moveInto_46 : decode cX9_moveInto 46 = .ok (.putfield 26, 3) := by decide +kernel
theorem dX9_moveInto_49 : decode cX9_moveInto 49 = .ok (.aload_n 0, 1) := by decide +kernel
theorem dX9_moveInto_50 : decode cX9_moveInto 50 = .ok (.aload_n 1, 1) := by decide +kernel
theorem dX9_moveInto_51 : decode cX9_moveInto 51 = .ok (.getfield 53, 3) := by decide +kernel
theorem dX9_moveInto_54 : decode cX9_moveInto 54 = .ok (.putfield 30, 3) := by decide +kernel
theorem dX9_moveInto_57 : decode cX9_moveInto 57 = .ok (.aload_n 0, 1) := by decide +kernel
theorem dX9_moveInto_58 : decode cX9_moveInto 58 = .ok (.iconst 0, 1) := by decide +kernel
theorem dX9_moveInto_59 : decode cX9_moveInto 59 = .ok (.putfield 33, 3) := by decide +kernel
theorem dX9_moveInto_62 : decode cX9_moveInto 62 = .ok (.return_, 1) := by decide +kernel
theorem dX9_copyFrom_0 : decode cX9_copyFrom 0 = .ok (.aload_n 0, 1) := by decide +kernel
theorem dX9_copyFrom_1 : decode cX9_copyFrom 1 = .ok (.getfield 14, 3) := by decide +kernel
theorem dX9_copyFrom_4 : decode cX9_copyFrom 4 = .ok (.aload_n 1, 1) := by decide +kernel
theorem dX9_copyFrom_5 : decode cX9_copyFrom 5 = .ok (.getfield 14, 3) := by decide +kernel
theorem dX9_copyFrom_8 : decode cX9_copyFrom 8 = .ok (.invokevirtual 39, 3) := by decide +kernel
theorem dX9_copyFrom_11 : decode cX9_copyFrom 11 = .ok (.aload_n 0, 1) := by decide +kernel
theorem dX9_copyFrom_12 : decode cX9_copyFrom 12 = .ok (.getfield 20, 3) := by decide +kernel
theorem dX9_copyFrom_15 : decode cX9_copyFrom 15 = .ok (.aload_n 1, 1) := by decide +kernel
theorem dX9_copyFrom_16 : decode cX9_copyFrom 16 = .ok (.getfield 20, 3) := by decide +kernel
theorem dX9_copyFrom_19 : decode cX9_copyFrom 19 = .ok (.invokevirtual 39, 3) := by decide +kernel
theorem dX9_copyFrom_22 : decode cX9_copyFrom 22 = .ok (.aload_n 0, 1) := by decide +kernel
theorem dX9_copyFrom_23 : decode cX9_copyFrom 23 = .ok (.getfield 23, 3) := by decide +kernel
theorem dX9_copyFrom_26 : decode cX9_copyFrom 26 = .ok (.aload_n 1, 1) := by decide +kernel
theorem dX9_copyFrom_27 : decode cX9_copyFrom 27 = .ok (.getfield 23, 3) := by decide +kernel
theorem dX9_copyFrom_30 : decode cX9_copyFrom 30 = .ok (.invokevirtual 39, 3) := by decide +kernel
theorem dX9_copyFrom_33 : decode cX9_copyFrom 33 = .ok (.aload_n 0, 1) := by decide +kernel
theorem dX9_copyFrom_34 : decode cX9_copyFrom 34 = .ok (.aload_n 1, 1) := by decide +kernel
theorem dX9_copyFrom_35 : decode cX9_copyFrom 35 = .ok (.getfield 26, 3) := by decide +kernel
theorem dX9_copyFrom_38 : decode cX9_copyFrom 38 = .ok (.putfield 26, 3) := by decide +kernel
theorem dX9_copyFrom_41 : decode cX9_copyFrom 41 = .ok (.aload_n 0, 1) := by decide +kernel
theorem dX9_copyFrom_42 : decode cX9_copyFrom 42 = .ok (.aload_n 1, 1) := by decide +kernel
theorem dX9_copyFrom_43 : decode cX9_copyFrom 43 = .ok (.getfield 30, 3) := by decide +kernel
theorem dX9_copyFrom_46 : decode cX9_copyFrom 46 = .ok (.putfield 30, 3) := by decide +kernel
theorem dX9_copyFrom_49 : decode cX9_copyFrom 49 = .ok (.aload_n 0, 1) := by decide +kernel
theorem dX9_copyFrom_50 : decode cX9_copyFrom 50 = .ok (.aload_n 1, 1) := by decide +kernel
theorem dX9_copyFrom_51 : decode cX9_copyFrom 51 = .ok (.getfield 33, 3) := by decide +kernel
theorem dX9_copyFrom_54 : decode cX9_copyFrom 54 = .ok (.putfield 33, 3) := by decide +kernel
theorem dX9_copyFrom_57 : decode cX9_copyFrom 57 = .ok (.return_, 1) := by decide +kernel
theorem dX9_chosenBy_0 : decode cX9_chosenBy 0 = .ok (.aload_n 0, 1) := by decide +kernel
theorem dX9_chosenBy_1 : decode cX9_chosenBy 1 = .ok (.getfield 23, 3) := by decide +kernel
theorem dX9_chosenBy_4 : decode cX9_chosenBy 4 = .ok (.iload_n 1, 1) := by decide +kernel
theorem dX9_chosenBy_5 : decode cX9_chosenBy 5 = .ok (.invokevirtual 54, 3) := by decide +kernel
theorem dX9_chosenBy_8 : decode cX9_chosenBy 8 = .ok (.istore 4, 2) := by decide +kernel
theorem dX9_chosenBy_10 : decode cX9_chosenBy 10 = .ok (.iload 4, 2) := by decide +kernel
theorem dX9_chosenBy_12 : decode cX9_chosenBy 12 = .ok (.iconst 2, 1) := by decide +kernel
theorem dX9_chosenBy_13 : decode cX9_chosenBy 13 = .ok (.if_icmp .ne 12, 3) := by decide +kernel
theorem dX9_chosenBy_16 : decode cX9_chosenBy 16 = .ok (.aload_n 0, 1) := by decide +kernel
theorem dX9_chosenBy_17 : decode cX9_chosenBy 17 = .ok (.getfield 14, 3) := by decide +kernel
theorem dX9_chosenBy_20 : decode cX9_chosenBy 20 = .ok (.iload_n 3, 1) := by decide +kernel
theorem dX9_chosenBy_21 : decode cX9_chosenBy 21 = .ok (.invokestatic 58, 3) := by decide +kernel
theorem dX9_chosenBy_24 : decode cX9_chosenBy 24 = .ok (.ireturn, 1) := by decide +kernel
theorem dX9_chosenBy_25 : decode cX9_chosenBy 25 = .ok (.iload 4, 2) := by decide +kernel
theorem dX9_chosenBy_27 : decode cX9_chosenBy 27 = .ok (.iconst 3, 1) := by decide +kernel
theorem dX9_chosenBy_28 : decode cX9_chosenBy 28 = .ok (.if_icmp .ne 12, 3) := by decide +kernel
theorem dX9_chosenBy_31 : decode cX9_chosenBy 31 = .ok (.aload_n 0, 1) := by decide +kernel
theorem dX9_chosenBy_32 : decode cX9_chosenBy 32 = .ok (.getfield 20, 3) := by decide +kernel
theorem dX9_chosenBy_35 : decode cX9_chosenBy 35 = .ok (.iload_n 3, 1) := by decide +kernel
theorem dX9_chosenBy_36 : decode cX9_chosenBy 36 = .ok (.invokestatic 58, 3) := by decide +kernel
theorem dX9_chosenBy_39 : decode cX9_chosenBy 39 = .ok (.ireturn, 1) := by decide +kernel
theorem dX9_chosenBy_40 : decode cX9_chosenBy 40 = .ok (.iload 4, 2) := by decide +kernel
theorem dX9_chosenBy_42 : decode cX9_chosenBy 42 = .ok (.iload_n 2, 1) := by decide +kernel
theorem dX9_chosenBy_43 : decode cX9_chosenBy 43 = .ok (.aload_n 0, 1) := by decide +kernel
theorem dX9_chosenBy_44 : decode cX9_chosenBy 44 = .ok (.getfield 26, 3) := by decide +kernel
theorem dX9_chosenBy_47 : decode cX9_chosenBy 47 = .ok (.iload_n 3, 1) := by decide +kernel
theorem dX9_chosenBy_48 : decode cX9_chosenBy 48 = .ok (.invokestatic 62, 3) := by decide +kernel
theorem dX9_chosenBy_51 : decode cX9_chosenBy 51 = .ok (.ireturn, 1) := by decide +kernel
theorem dX9_plainlyChosen_0 : decode cX9_plainlyChosen 0 = .ok (.iload_n 0, 1) := by decide +kernel
theorem dX9_plainlyChosen_1 : decode cX9_plainlyChosen 1 = .ok (.tableswitch 89 0 6 #[43, 45, 89, 89, 89, 60, 74], 43) := by decide +kernel
theorem dX9_plainlyChosen_44 : decode cX9_plainlyChosen 44 = .ok (.iload_n 1, 1) := by decide +kernel
theorem dX9_plainlyChosen_45 : decode cX9_plainlyChosen 45 = .ok (.ireturn, 1) := by decide +kernel
theorem dX9_plainlyChosen_46 : decode cX9_plainlyChosen 46 = .ok (.iload_n 2, 1) := by decide +kernel
theorem dX9_plainlyChosen_47 : decode cX9_plainlyChosen 47 = .ok (.iconst 1, 1) := by decide +kernel
theorem dX9_plainlyChosen_48 : decode cX9_plainlyChosen 48 = .ok (.iadd, 1) := by decide +kernel
theorem dX9_plainlyChosen_49 : decode cX9_plainlyChosen 49 = .ok (.iload_n 3, 1) := by decide +kernel
theorem dX9_plainlyChosen_50 : decode cX9_plainlyChosen 50 = .ok (.if_icmp .ge 9, 3) := by decide +kernel
theorem dX9_plainlyChosen_53 : decode cX9_plainlyChosen 53 = .ok (.iload_n 2, 1) := by decide +kernel
theorem dX9_plainlyChosen_54 : decode cX9_plainlyChosen 54 = .ok (.iconst 1, 1) := by decide +kernel
theorem dX9_plainlyChosen_55 : decode cX9_plainlyChosen 55 = .ok (.iadd, 1) := by decide +kernel
theorem dX9_plainlyChosen_56 : decode cX9_plainlyChosen 56 = .ok (.goto 4, 3) := by decide +kernel
theorem dX9_plainlyChosen_59 : decode cX9_plainlyChosen 59 = .ok (.iconst 0, 1) := by decide +kernel
theorem dX9_plainlyChosen_60 : decode cX9_plainlyChosen 60 = .ok (.ireturn, 1) := by decide +kernel
theorem dX9_plainlyChosen_61 : decode cX9_plainlyChosen 61 = .ok (.iload_n 2, 1) := by decide +kernel
theorem dX9_plainlyChosen_62 : decode cX9_plainlyChosen 62 = .ok (.ifCond .le 9, 3) := by decide +kernel
theorem dX9_plainlyChosen_65 : decode cX9_plainlyChosen 65 = .ok (.iload_n 2, 1) := by decide +kernel
theorem dX9_plainlyChosen_66 : decode cX9_plainlyChosen 66 = .ok (.iconst 1, 1) := by decide +kernel
theorem dX9_plainlyChosen_67 : decode cX9_plainlyChosen 67 = .ok (.isub, 1) := by decide +kernel
theorem dX9_plainlyChosen_68 : decode cX9_plainlyChosen 68 = .ok (.goto 6, 3) := by decide +kernel
theorem dX9_plainlyChosen_71 : decode cX9_plainlyChosen 71 = .ok (.iload_n 3, 1) := by decide +kernel
theorem dX9_plainlyChosen_72 : decode cX9_plainlyChosen 72 = .ok (.iconst 1, 1) := by decide +kernel
theorem dX9_plainlyChosen_73 : decode cX9_plainlyChosen 73 = .ok (.isub, 1) := by decide +kernel
theorem dX9_plainlyChosen_74 : decode cX9_plainlyChosen 74 = .ok (.ireturn, 1) := by decide +kernel
theorem dX9_plainlyChosen_75 : decode cX9_plainlyChosen 75 = .ok (.iload_n 1, 1) := by decide +kernel
theorem dX9_plainlyChosen_76 : decode cX9_plainlyChosen 76 = .ok (.iconst 1, 1) := by decide +kernel
theorem dX9_plainlyChosen_77 : decode cX9_plainlyChosen 77 = .ok (.iadd, 1) := by decide +kernel
theorem dX9_plainlyChosen_78 : decode cX9_plainlyChosen 78 = .ok (.iload_n 3, 1) := by decide +kernel
theorem dX9_plainlyChosen_79 : decode cX9_plainlyChosen 79 = .ok (.if_icmp .ge 9, 3) := by decide +kernel
theorem dX9_plainlyChosen_82 : decode cX9_plainlyChosen 82 = .ok (.iload_n 1, 1) := by decide +kernel
theorem dX9_plainlyChosen_83 : decode cX9_plainlyChosen 83 = .ok (.iconst 1, 1) := by decide +kernel
theorem dX9_plainlyChosen_84 : decode cX9_plainlyChosen 84 = .ok (.iadd, 1) := by decide +kernel
theorem dX9_plainlyChosen_85 : decode cX9_plainlyChosen 85 = .ok (.goto 4, 3) := by decide +kernel
theorem dX9_plainlyChosen_88 : decode cX9_plainlyChosen 88 = .ok (.iconst 0, 1) := by decide +kernel
theorem dX9_plainlyChosen_89 : decode cX9_plainlyChosen 89 = .ok (.ireturn, 1) := by decide +kernel
theorem dX9_plainlyChosen_90 : decode cX9_plainlyChosen 90 = .ok (.iload_n 2, 1) := by decide +kernel
theorem dX9_plainlyChosen_91 : decode cX9_plainlyChosen 91 = .ok (.ireturn, 1) := by decide +kernel
theorem dX9_leastOf_0 : decode cX9_leastOf 0 = .ok (.iconst 0, 1) := by decide +kernel
theorem dX9_leastOf_1 : decode cX9_leastOf 1 = .ok (.istore_n 2, 1) := by decide +kernel
theorem dX9_leastOf_2 : decode cX9_leastOf 2 = .ok (.iconst 1, 1) := by decide +kernel
theorem dX9_leastOf_3 : decode cX9_leastOf 3 = .ok (.istore_n 3, 1) := by decide +kernel
theorem dX9_leastOf_4 : decode cX9_leastOf 4 = .ok (.iload_n 3, 1) := by decide +kernel
theorem dX9_leastOf_5 : decode cX9_leastOf 5 = .ok (.iload_n 1, 1) := by decide +kernel
theorem dX9_leastOf_6 : decode cX9_leastOf 6 = .ok (.if_icmp .ge 24, 3) := by decide +kernel
theorem dX9_leastOf_9 : decode cX9_leastOf 9 = .ok (.aload_n 0, 1) := by decide +kernel
theorem dX9_leastOf_10 : decode cX9_leastOf 10 = .ok (.iload_n 3, 1) := by decide +kernel
theorem dX9_leastOf_11 : decode cX9_leastOf 11 = .ok (.invokevirtual 54, 3) := by decide +kernel
theorem dX9_leastOf_14 : decode cX9_leastOf 14 = .ok (.aload_n 0, 1) := by decide +kernel
theorem dX9_leastOf_15 : decode cX9_leastOf 15 = .ok (.iload_n 2, 1) := by decide +kernel
theorem dX9_leastOf_16 : decode cX9_leastOf 16 = .ok (.invokevirtual 54, 3) := by decide +kernel
theorem dX9_leastOf_19 : decode cX9_leastOf 19 = .ok (.if_icmp .ge 5, 3) := by decide +kernel
theorem dX9_leastOf_22 : decode cX9_leastOf 22 = .ok (.iload_n 3, 1) := by decide +kernel
theorem dX9_leastOf_23 : decode cX9_leastOf 23 = .ok (.istore_n 2, 1) := by decide +kernel
theorem dX9_leastOf_24 : decode cX9_leastOf 24 = .ok (.iinc 3 1, 3) := by decide +kernel
theorem dX9_leastOf_27 : decode cX9_leastOf 27 = .ok (.goto (-23), 3) := by decide +kernel
theorem dX9_leastOf_30 : decode cX9_leastOf 30 = .ok (.iload_n 2, 1) := by decide +kernel
theorem dX9_leastOf_31 : decode cX9_leastOf 31 = .ok (.ireturn, 1) := by decide +kernel
theorem dX9_live_0 : decode cX9_live 0 = .ok (.aload_n 0, 1) := by decide +kernel
theorem dX9_live_1 : decode cX9_live 1 = .ok (.getfield 26, 3) := by decide +kernel
theorem dX9_live_4 : decode cX9_live 4 = .ok (.istore 4, 2) := by decide +kernel
theorem dX9_live_6 : decode cX9_live 6 = .ok (.iload_n 2, 1) := by decide +kernel
theorem dX9_live_7 : decode cX9_live 7 = .ok (.iconst (-1), 1) := by decide +kernel
theorem dX9_live_8 : decode cX9_live 8 = .ok (.if_icmp .eq 32, 3) := by decide +kernel
theorem dX9_live_11 : decode cX9_live 11 = .ok (.aload_n 0, 1) := by decide +kernel
theorem dX9_live_12 : decode cX9_live 12 = .ok (.iload_n 2, 1) := by decide +kernel
theorem dX9_live_13 : decode cX9_live 13 = .ok (.iload_n 3, 1) := by decide +kernel
theorem dX9_live_14 : decode cX9_live 14 = .ok (.aload_n 1, 1) := by decide +kernel
theorem dX9_live_15 : decode cX9_live 15 = .ok (.getfield 47, 3) := by decide +kernel
theorem dX9_live_18 : decode cX9_live 18 = .ok (.invokevirtual 66, 3) := by decide +kernel
theorem dX9_live_21 : decode cX9_live 21 = .ok (.istore 4, 2) := by decide +kernel
theorem dX9_live_23 : decode cX9_live 23 = .ok (.aload_n 0, 1) := by decide +kernel
theorem dX9_live_24 : decode cX9_live 24 = .ok (.dup, 1) := by decide +kernel
theorem dX9_live_25 : decode cX9_live 25 = .ok (.getfield 30, 3) := by decide +kernel
theorem dX9_live_28 : decode cX9_live 28 = .ok (.aload_n 1, 1) := by decide +kernel
theorem dX9_live_29 : decode cX9_live 29 = .ok (.getfield 70, 3) := by decide +kernel
theorem dX9_live_32 : decode cX9_live 32 = .ok (.iload_n 2, 1) := by decide +kernel
theorem dX9_live_33 : decode cX9_live 33 = .ok (.invokevirtual 54, 3) := by decide +kernel
theorem dX9_live_36 : decode cX9_live 36 = .ok (.isub, 1) := by decide +kernel
theorem dX9_live_37 : decode cX9_live 37 = .ok (.putfield 30, 3) := by decide +kernel
theorem dX9_live_40 : decode cX9_live 40 = .ok (.aload_n 0, 1) := by decide +kernel
theorem dX9_live_41 : decode cX9_live 41 = .ok (.aload_n 1, 1) := by decide +kernel
theorem dX9_live_42 : decode cX9_live 42 = .ok (.iload 4, 2) := by decide +kernel
theorem dX9_live_44 : decode cX9_live 44 = .ok (.invokevirtual 73, 3) := by decide +kernel
theorem dX9_live_47 : decode cX9_live 47 = .ok (.return_, 1) := by decide +kernel
theorem dX9_warmOnly_0 : decode cX9_warmOnly 0 = .ok (.aload_n 0, 1) := by decide +kernel
theorem dX9_warmOnly_1 : decode cX9_warmOnly 1 = .ok (.iload_n 2, 1) := by decide +kernel
theorem dX9_warmOnly_2 : decode cX9_warmOnly 2 = .ok (.invokevirtual 77, 3) := by decide +kernel
theorem dX9_warmOnly_5 : decode cX9_warmOnly 5 = .ok (.iconst 0, 1) := by decide +kernel
theorem dX9_warmOnly_6 : decode cX9_warmOnly 6 = .ok (.istore_n 3, 1) := by decide +kernel
theorem dX9_warmOnly_7 : decode cX9_warmOnly 7 = .ok (.iload_n 3, 1) := by decide +kernel
theorem dX9_warmOnly_8 : decode cX9_warmOnly 8 = .ok (.aload_n 1, 1) := by decide +kernel
theorem dX9_warmOnly_9 : decode cX9_warmOnly 9 = .ok (.getfield 47, 3) := by decide +kernel
theorem dX9_warmOnly_12 : decode cX9_warmOnly 12 = .ok (.if_icmp .ge 66, 3) := by decide +kernel
theorem dX9_warmOnly_15 : decode cX9_warmOnly 15 = .ok (.aload_n 0, 1) := by decide +kernel
theorem dX9_warmOnly_16 : decode cX9_warmOnly 16 = .ok (.getfield 14, 3) := by decide +kernel
theorem dX9_warmOnly_19 : decode cX9_warmOnly 19 = .ok (.iload_n 3, 1) := by decide +kernel
theorem dX9_warmOnly_20 : decode cX9_warmOnly 20 = .ok (.invokevirtual 54, 3) := by decide +kernel
theorem dX9_warmOnly_23 : decode cX9_warmOnly 23 = .ok (.istore 4, 2) := by decide +kernel
theorem dX9_warmOnly_25 : decode cX9_warmOnly 25 = .ok (.iload_n 3, 1) := by decide +kernel
theorem dX9_warmOnly_26 : decode cX9_warmOnly 26 = .ok (.iload_n 2, 1) := by decide +kernel
theorem dX9_warmOnly_27 : decode cX9_warmOnly 27 = .ok (.if_icmp .ne 18, 3) := by decide +kernel
theorem dX9_warmOnly_30 : decode cX9_warmOnly 30 = .ok (.bipush 99, 2) := by decide +kernel
theorem dX9_warmOnly_32 : decode cX9_warmOnly 32 = .ok (.iload 4, 2) := by decide +kernel
theorem dX9_warmOnly_34 : decode cX9_warmOnly 34 = .ok (.aload_n 1, 1) := by decide +kernel
theorem dX9_warmOnly_35 : decode cX9_warmOnly 35 = .ok (.getfield 80, 3) := by decide +kernel
theorem dX9_warmOnly_38 : decode cX9_warmOnly 38 = .ok (.iadd, 1) := by decide +kernel
theorem dX9_warmOnly_39 : decode cX9_warmOnly 39 = .ok (.invokestatic 83, 3) := by decide +kernel
theorem dX9_warmOnly_42 : decode cX9_warmOnly 42 = .ok (.goto 18, 3) := by decide +kernel
theorem dX9_warmOnly_45 : decode cX9_warmOnly 45 = .ok (.iconst 0, 1) := by decide +kernel
theorem dX9_warmOnly_46 : decode cX9_warmOnly 46 = .ok (.iload 4, 2) := by decide +kernel
theorem dX9_warmOnly_48 : decode cX9_warmOnly 48 = .ok (.aload_n 1, 1) := by decide +kernel
theorem dX9_warmOnly_49 : decode cX9_warmOnly 49 = .ok (.getfield 89, 3) := by decide +kernel
theorem dX9_warmOnly_52 : decode cX9_warmOnly 52 = .ok (.iload_n 3, 1) := by decide +kernel
theorem dX9_warmOnly_53 : decode cX9_warmOnly 53 = .ok (.invokevirtual 54, 3) := by decide +kernel
theorem dX9_warmOnly_56 : decode cX9_warmOnly 56 = .ok (.isub, 1) := by decide +kernel
theorem dX9_warmOnly_57 : decode cX9_warmOnly 57 = .ok (.invokestatic 92, 3) := by decide +kernel
theorem dX9_warmOnly_60 : decode cX9_warmOnly 60 = .ok (.istore 5, 2) := by decide +kernel
theorem dX9_warmOnly_62 : decode cX9_warmOnly 62 = .ok (.aload_n 0, 1) := by decide +kernel
theorem dX9_warmOnly_63 : decode cX9_warmOnly 63 = .ok (.getfield 14, 3) := by decide +kernel
theorem dX9_warmOnly_66 : decode cX9_warmOnly 66 = .ok (.iload_n 3, 1) := by decide +kernel
theorem dX9_warmOnly_67 : decode cX9_warmOnly 67 = .ok (.iload 5, 2) := by decide +kernel
theorem dX9_warmOnly_69 : decode cX9_warmOnly 69 = .ok (.invokevirtual 95, 3) := by decide +kernel
theorem dX9_warmOnly_72 : decode cX9_warmOnly 72 = .ok (.iinc 3 1, 3) := by decide +kernel
theorem dX9_warmOnly_75 : decode cX9_warmOnly 75 = .ok (.goto (-68), 3) := by decide +kernel
theorem dX9_warmOnly_78 : decode cX9_warmOnly 78 = .ok (.return_, 1) := by decide +kernel
theorem dX9_turnTo_0 : decode cX9_turnTo 0 = .ok (.aload_n 0, 1) := by decide +kernel
theorem dX9_turnTo_1 : decode cX9_turnTo 1 = .ok (.iload_n 1, 1) := by decide +kernel
theorem dX9_turnTo_2 : decode cX9_turnTo 2 = .ok (.putfield 26, 3) := by decide +kernel
theorem dX9_turnTo_5 : decode cX9_turnTo 5 = .ok (.aload_n 0, 1) := by decide +kernel
theorem dX9_turnTo_6 : decode cX9_turnTo 6 = .ok (.getfield 20, 3) := by decide +kernel
theorem dX9_turnTo_9 : decode cX9_turnTo 9 = .ok (.iload_n 1, 1) := by decide +kernel
theorem dX9_turnTo_10 : decode cX9_turnTo 10 = .ok (.aload_n 0, 1) := by decide +kernel
theorem dX9_turnTo_11 : decode cX9_turnTo 11 = .ok (.getfield 33, 3) := by decide +kernel
theorem dX9_turnTo_14 : decode cX9_turnTo 14 = .ok (.invokevirtual 95, 3) := by decide +kernel
theorem dX9_turnTo_17 : decode cX9_turnTo 17 = .ok (.aload_n 0, 1) := by decide +kernel
theorem dX9_turnTo_18 : decode cX9_turnTo 18 = .ok (.dup, 1) := by decide +kernel
theorem dX9_turnTo_19 : decode cX9_turnTo 19 = .ok (.getfield 33, 3) := by decide +kernel
theorem dX9_turnTo_22 : decode cX9_turnTo 22 = .ok (.iconst 1, 1) := by decide +kernel
theorem dX9_turnTo_23 : decode cX9_turnTo 23 = .ok (.iadd, 1) := by decide +kernel
theorem dX9_turnTo_24 : decode cX9_turnTo 24 = .ok (.putfield 33, 3) := by decide +kernel
theorem dX9_turnTo_27 : decode cX9_turnTo 27 = .ok (.return_, 1) := by decide +kernel
theorem dX9_frozen_0 : decode cX9_frozen 0 = .ok (.iconst 0, 1) := by decide +kernel
theorem dX9_frozen_1 : decode cX9_frozen 1 = .ok (.istore_n 2, 1) := by decide +kernel
theorem dX9_frozen_2 : decode cX9_frozen 2 = .ok (.iconst 0, 1) := by decide +kernel
theorem dX9_frozen_3 : decode cX9_frozen 3 = .ok (.istore_n 3, 1) := by decide +kernel
theorem dX9_frozen_4 : decode cX9_frozen 4 = .ok (.iload_n 3, 1) := by decide +kernel
theorem dX9_frozen_5 : decode cX9_frozen 5 = .ok (.iload_n 1, 1) := by decide +kernel
theorem dX9_frozen_6 : decode cX9_frozen 6 = .ok (.if_icmp .ge 26, 3) := by decide +kernel
theorem dX9_frozen_9 : decode cX9_frozen 9 = .ok (.aload_n 0, 1) := by decide +kernel
theorem dX9_frozen_10 : decode cX9_frozen 10 = .ok (.getfield 14, 3) := by decide +kernel
theorem dX9_frozen_13 : decode cX9_frozen 13 = .ok (.iload_n 3, 1) := by decide +kernel
theorem dX9_frozen_14 : decode cX9_frozen 14 = .ok (.invokevirtual 54, 3) := by decide +kernel
theorem dX9_frozen_17 : decode cX9_frozen 17 = .ok (.ifCond .ne 9, 3) := by decide +kernel
theorem dX9_frozen_20 : decode cX9_frozen 20 = .ok (.iload_n 2, 1) := by decide +kernel
theorem dX9_frozen_21 : decode cX9_frozen 21 = .ok (.iconst 1, 1) := by decide +kernel
theorem dX9_frozen_22 : decode cX9_frozen 22 = .ok (.iload_n 3, 1) := by decide +kernel
theorem dX9_frozen_23 : decode cX9_frozen 23 = .ok (.ishl, 1) := by decide +kernel
theorem dX9_frozen_24 : decode cX9_frozen 24 = .ok (.ior, 1) := by decide +kernel
theorem dX9_frozen_25 : decode cX9_frozen 25 = .ok (.istore_n 2, 1) := by decide +kernel
theorem dX9_frozen_26 : decode cX9_frozen 26 = .ok (.iinc 3 1, 3) := by decide +kernel
theorem dX9_frozen_29 : decode cX9_frozen 29 = .ok (.goto (-25), 3) := by decide +kernel
theorem dX9_frozen_32 : decode cX9_frozen 32 = .ok (.iload_n 2, 1) := by decide +kernel
theorem dX9_frozen_33 : decode cX9_frozen 33 = .ok (.ireturn, 1) := by decide +kernel
theorem dX10_init_0 : decode cX10_init 0 = .ok (.aload_n 0, 1) := by decide +kernel
theorem dX10_init_1 : decode cX10_init 1 = .ok (.invokespecial 3, 3) := by decide +kernel
theorem dX10_init_4 : decode cX10_init 4 = .ok (.aload_n 0, 1) := by decide +kernel
theorem dX10_init_5 : decode cX10_init 5 = .ok (.new 9, 3) := by decide +kernel
theorem dX10_init_8 : decode cX10_init 8 = .ok (.dup, 1) := by decide +kernel
theorem dX10_init_9 : decode cX10_init 9 = .ok (.sipush 200, 3) := by decide +kernel
theorem dX10_init_12 : decode cX10_init 12 = .ok (.invokespecial 11, 3) := by decide +kernel
theorem dX10_init_15 : decode cX10_init 15 = .ok (.putfield 14, 3) := by decide +kernel
theorem dX10_init_18 : decode cX10_init 18 = .ok (.aload_n 0, 1) := by decide +kernel
theorem dX10_init_19 : decode cX10_init 19 = .ok (.new 20, 3) := by decide +kernel
theorem dX10_init_22 : decode cX10_init 22 = .ok (.dup, 1) := by decide +kernel
theorem dX10_init_23 : decode cX10_init 23 = .ok (.invokespecial 22, 3) := by decide +kernel
theorem dX10_init_26 : decode cX10_init 26 = .ok (.putfield 23, 3) := by decide +kernel
theorem dX10_init_29 : decode cX10_init 29 = .ok (.aload_n 0, 1) := by decide +kernel
theorem dX10_init_30 : decode cX10_init 30 = .ok (.iconst 0, 1) := by decide +kernel
theorem dX10_init_31 : decode cX10_init 31 = .ok (.putfield 27, 3) := by decide +kernel
theorem dX10_init_34 : decode cX10_init 34 = .ok (.aload_n 0, 1) := by decide +kernel
theorem dX10_init_35 : decode cX10_init 35 = .ok (.iconst (-1), 1) := by decide +kernel
theorem dX10_init_36 : decode cX10_init 36 = .ok (.putfield 31, 3) := by decide +kernel
theorem dX10_init_39 : decode cX10_init 39 = .ok (.aload_n 0, 1) := by decide +kernel
theorem dX10_init_40 : decode cX10_init 40 = .ok (.iconst 0, 1) := by decide +kernel
theorem dX10_init_41 : decode cX10_init 41 = .ok (.putfield 34, 3) := by decide +kernel
theorem dX10_init_44 : decode cX10_init 44 = .ok (.aload_n 0, 1) := by decide +kernel
theorem dX10_init_45 : decode cX10_init 45 = .ok (.iconst 0, 1) := by decide +kernel
theorem dX10_init_46 : decode cX10_init 46 = .ok (.putfield 37, 3) := by decide +kernel
theorem dX10_init_49 : decode cX10_init 49 = .ok (.aload_n 0, 1) := by decide +kernel
theorem dX10_init_50 : decode cX10_init 50 = .ok (.iconst 0, 1) := by decide +kernel
theorem dX10_init_51 : decode cX10_init 51 = .ok (.putfield 40, 3) := by decide +kernel
theorem dX10_init_54 : decode cX10_init 54 = .ok (.aload_n 0, 1) := by decide +kernel
theorem dX10_init_55 : decode cX10_init 55 = .ok (.iconst 0, 1) := by decide +kernel
theorem dX10_init_56 : decode cX10_init 56 = .ok (.putfield 43, 3) := by decide +kernel
theorem dX10_init_59 : decode cX10_init 59 = .ok (.return_, 1) := by decide +kernel
theorem dX10_append_0 : decode cX10_append 0 = .ok (.aload_n 0, 1) := by decide +kernel
theorem dX10_append_1 : decode cX10_append 1 = .ok (.getfield 14, 3) := by decide +kernel
theorem dX10_append_4 : decode cX10_append 4 = .ok (.aload_n 0, 1) := by decide +kernel
theorem dX10_append_5 : decode cX10_append 5 = .ok (.getfield 27, 3) := by decide +kernel
theorem dX10_append_8 : decode cX10_append 8 = .ok (.iload_n 1, 1) := by decide +kernel
theorem dX10_append_9 : decode cX10_append 9 = .ok (.invokevirtual 47, 3) := by decide +kernel
theorem dX10_append_12 : decode cX10_append 12 = .ok (.aload_n 0, 1) := by decide +kernel
theorem dX10_append_13 : decode cX10_append 13 = .ok (.dup, 1) := by decide +kernel
theorem dX10_append_14 : decode cX10_append 14 = .ok (.getfield 27, 3) := by decide +kernel
theorem dX10_append_17 : decode cX10_append 17 = .ok (.iconst 1, 1) := by decide +kernel
theorem dX10_append_18 : decode cX10_append 18 = .ok (.iadd, 1) := by decide +kernel
theorem dX10_append_19 : decode cX10_append 19 = .ok (.putfield 27, 3) := by decide +kernel
theorem dX10_append_22 : decode cX10_append 22 = .ok (.aload_n 0, 1) := by decide +kernel
theorem dX10_append_23 : decode cX10_append 23 = .ok (.getfield 27, 3) := by decide +kernel
theorem dX10_append_26 : decode cX10_append 26 = .ok (.ireturn, 1) := by decide +kernel
theorem dX10_read_0 : decode cX10_read 0 = .ok (.aload_n 0, 1) := by decide +kernel
theorem dX10_read_1 : decode cX10_read 1 = .ok (.getfield 23, 3) := by decide +kernel
theorem dX10_read_4 : decode cX10_read 4 = .ok (.invokevirtual 51, 3) := by decide +kernel
theorem dX10_read_7 : decode cX10_read 7 = .ok (.aload_n 0, 1) := by decide +kernel
theorem dX10_read_8 : decode cX10_read 8 = .ok (.iconst (-1), 1) := by decide +kernel
theorem dX10_read_9 : decode cX10_read 9 = .ok (.putfield 31, 3) := by decide +kernel
theorem dX10_read_12 : decode cX10_read 12 = .ok (.aload_n 0, 1) := by decide +kernel
theorem dX10_read_13 : decode cX10_read 13 = .ok (.iconst 0, 1) := by decide +kernel
theorem dX10_read_14 : decode cX10_read 14 = .ok (.putfield 34, 3) := by decide +kernel
theorem dX10_read_17 : decode cX10_read 17 = .ok (.aload_n 0, 1) := by decide +kernel
theorem dX10_read_18 : decode cX10_read 18 = .ok (.iconst 0, 1) := by decide +kernel
theorem dX10_read_19 : decode cX10_read 19 = .ok (.putfield 37, 3) := by decide +kernel
theorem dX10_read_22 : decode cX10_read 22 = .ok (.aload_n 0, 1) := by decide +kernel
theorem dX10_read_23 : decode cX10_read 23 = .ok (.iconst 0, 1) := by decide +kernel
theorem dX10_read_24 : decode cX10_read 24 = .ok (.putfield 40, 3) := by decide +kernel
theorem dX10_read_27 : decode cX10_read 27 = .ok (.aload_n 0, 1) := by decide +kernel
theorem dX10_read_28 : decode cX10_read 28 = .ok (.iconst 0, 1) := by decide +kernel
theorem dX10_read_29 : decode cX10_read 29 = .ok (.putfield 43, 3) := by decide +kernel
theorem dX10_read_32 : decode cX10_read 32 = .ok (.aload_n 0, 1) := by decide +kernel
theorem dX10_read_33 : decode cX10_read 33 = .ok (.invokevirtual 54, 3) := by decide +kernel
theorem dX10_read_36 : decode cX10_read 36 = .ok (.iconst 0, 1) := by decide +kernel
theorem dX10_read_37 : decode cX10_read 37 = .ok (.istore_n 1, 1) := by decide +kernel
theorem dX10_read_38 : decode cX10_read 38 = .ok (.iload_n 1, 1) := by decide +kernel
theorem dX10_read_39 : decode cX10_read 39 = .ok (.sipush 200, 3) := by decide +kernel
theorem dX10_read_42 : decode cX10_read 42 = .ok (.if_icmp .ge 35, 3) := by decide +kernel
theorem dX10_read_45 : decode cX10_read 45 = .ok (.aload_n 0, 1) := by decide +kernel
theorem dX10_read_46 : decode cX10_read 46 = .ok (.getfield 37, 3) := by decide +kernel
theorem dX10_read_49 : decode cX10_read 49 = .ok (.aload_n 0, 1) := by decide +kernel
theorem dX10_read_50 : decode cX10_read 50 = .ok (.getfield 27, 3) := by decide +kernel
theorem dX10_read_53 : decode cX10_read 53 = .ok (.if_icmp .ge 24, 3) := by decide +kernel
theorem dX10_read_56 : decode cX10_read 56 = .ok (.aload_n 0, 1) := by decide +kernel
theorem dX10_read_57 : decode cX10_read 57 = .ok (.getfield 34, 3) := by decide +kernel
theorem dX10_read_60 : decode cX10_read 60 = .ok (.ifCond .ne 17, 3) := by decide +kernel
theorem dX10_read_63 : decode cX10_read 63 = .ok (.aload_n 0, 1) := by decide +kernel
theorem dX10_read_64 : decode cX10_read 64 = .ok (.invokevirtual 57, 3) := by decide +kernel
theorem dX10_read_67 : decode cX10_read 67 = .ok (.aload_n 0, 1) := by decide +kernel
theorem dX10_read_68 : decode cX10_read 68 = .ok (.invokevirtual 54, 3) := by decide +kernel
theorem dX10_read_71 : decode cX10_read 71 = .ok (.iinc 1 1, 3) := by decide +kernel
theorem dX10_read_74 : decode cX10_read 74 = .ok (.goto (-36), 3) := by decide +kernel
theorem dX10_read_77 : decode cX10_read 77 = .ok (.aload_n 0, 1) := by decide +kernel
theorem dX10_read_78 : decode cX10_read 78 = .ok (.getfield 34, 3) := by decide +kernel
theorem dX10_read_81 : decode cX10_read 81 = .ok (.ireturn, 1) := by decide +kernel
theorem dX10_readClause_0 : decode cX10_readClause 0 = .ok (.aload_n 0, 1) := by decide +kernel
theorem dX10_readClause_1 : decode cX10_readClause 1 = .ok (.getfield 14, 3) := by decide +kernel
theorem dX10_readClause_4 : decode cX10_readClause 4 = .ok (.aload_n 0, 1) := by decide +kernel
theorem dX10_readClause_5 : decode cX10_readClause 5 = .ok (.getfield 37, 3) := by decide +kernel
theorem dX10_readClause_8 : decode cX10_readClause 8 = .ok (.invokevirtual 60, 3) := by decide +kernel
theorem dX10_readClause_11 : decode cX10_readClause 11 = .ok (.istore_n 1, 1) := by decide +kernel
theorem dX10_readClause_12 : decode cX10_readClause 12 = .ok (.iload_n 1, 1) := by decide +kernel
theorem dX10_readClause_13 : decode cX10_readClause 13 = .ok (.bipush 112, 2) := by decide +kernel
theorem dX10_readClause_15 : decode cX10_readClause 15 = .ok (.if_icmp .ne 10, 3) := by decide +kernel
theorem dX10_readClause_18 : decode cX10_readClause 18 = .ok (.aload_n 0, 1) := by decide +kernel
theorem dX10_readClause_19 : decode cX10_readClause 19 = .ok (.invokevirtual 64, 3) := by decide +kernel
theorem dX10_readClause_22 : decode cX10_readClause 22 = .ok (.goto 38, 3) := by decide +kernel
theorem dX10_readClause_25 : decode cX10_readClause 25 = .ok (.iload_n 1, 1) := by decide +kernel
theorem dX10_readClause_26 : decode cX10_readClause 26 = .ok (.bipush 100, 2) := by decide +kernel
theorem dX10_readClause_28 : decode cX10_readClause 28 = .ok (.if_icmp .ne 10, 3) := by decide +kernel
theorem dX10_readClause_31 : decode cX10_readClause 31 = .ok (.aload_n 0, 1) := by decide +kernel
theorem dX10_readClause_32 : decode cX10_readClause 32 = .ok (.invokevirtual 67, 3) := by decide +kernel
theorem dX10_readClause_35 : decode cX10_readClause 35 = .ok (.goto 25, 3) := by decide +kernel
theorem dX10_readClause_38 : decode cX10_readClause 38 = .ok (.iload_n 1, 1) := by decide +kernel
theorem dX10_readClause_39 : decode cX10_readClause 39 = .ok (.bipush 115, 2) := by decide +kernel
theorem dX10_readClause_41 : decode cX10_readClause 41 = .ok (.if_icmp .ne 10, 3) := by decide +kernel
theorem dX10_readClause_44 : decode cX10_readClause 44 = .ok (.aload_n 0, 1) := by decide +kernel
theorem dX10_readClause_45 : decode cX10_readClause 45 = .ok (.invokevirtual 70, 3) := by decide +kernel
theorem dX10_readClause_48 : decode cX10_readClause 48 = .ok (.goto 12, 3) := by decide +kernel
theorem dX10_readClause_51 : decode cX10_readClause 51 = .ok (.aload_n 0, 1) := by decide +kernel
theorem dX10_readClause_52 : decode cX10_readClause 52 = .ok (.iconst 1, 1) := by decide +kernel
theorem dX10_readClause_53 : decode cX10_readClause 53 = .ok (.aload_n 0, 1) := by decide +kernel
theorem dX10_readClause_54 : decode cX10_readClause 54 = .ok (.getfield 37, 3) := by decide +kernel
theorem dX10_readClause_57 : decode cX10_readClause 57 = .ok (.invokevirtual 73, 3) := by decide +kernel
theorem dX10_readClause_60 : decode cX10_readClause 60 = .ok (.return_, 1) := by decide +kernel
theorem dX10_readPerson_0 : decode cX10_readPerson 0 = .ok (.aload_n 0, 1) := by decide +kernel
theorem dX10_readPerson_1 : decode cX10_readPerson 1 = .ok (.getfield 23, 3) := by decide +kernel
theorem dX10_readPerson_4 : decode cX10_readPerson 4 = .ok (.getfield 76, 3) := by decide +kernel
theorem dX10_readPerson_7 : decode cX10_readPerson 7 = .ok (.iconst 5, 1) := by decide +kernel
theorem dX10_readPerson_8 : decode cX10_readPerson 8 = .ok (.if_icmp .lt 13, 3) := by decide +kernel
theorem dX10_readPerson_11 : decode cX10_readPerson 11 = .ok (.aload_n 0, 1) := by decide +kernel
theorem dX10_readPerson_12 : decode cX10_readPerson 12 = .ok (.iconst 3, 1) := by decide +kernel
theorem dX10_readPerson_13 : decode cX10_readPerson 13 = .ok (.aload_n 0, 1) := by decide +kernel
theorem dX10_readPerson_14 : decode cX10_readPerson 14 = .ok (.getfield 37, 3) := by decide +kernel
theorem dX10_readPerson_17 : decode cX10_readPerson 17 = .ok (.invokevirtual 73, 3) := by decide +kernel
theorem dX10_readPerson_20 : decode cX10_readPerson 20 = .ok (.return_, 1) := by decide +kernel
theorem dX10_readPerson_21 : decode cX10_readPerson 21 = .ok (.aload_n 0, 1) := by decide +kernel
theorem dX10_readPerson_22 : decode cX10_readPerson 22 = .ok (.dup, 1) := by decide +kernel
theorem dX10_readPerson_23 : decode cX10_readPerson 23 = .ok (.getfield 37, 3) := by decide +kernel
theorem dX10_readPerson_26 : decode cX10_readPerson 26 = .ok (.iconst 1, 1) := by decide +kernel
theorem dX10_readPerson_27 : decode cX10_readPerson 27 = .ok (.iadd, 1) := by decide +kernel
theorem dX10_readPerson_28 : decode cX10_readPerson 28 = .ok (.putfield 37, 3) := by decide +kernel
theorem dX10_readPerson_31 : decode cX10_readPerson 31 = .ok (.aload_n 0, 1) := by decide +kernel
theorem dX10_readPerson_32 : decode cX10_readPerson 32 = .ok (.iconst 0, 1) := by decide +kernel
theorem dX10_readPerson_33 : decode cX10_readPerson 33 = .ok (.bipush 99, 2) := by decide +kernel
theorem dX10_readPerson_35 : decode cX10_readPerson 35 = .ok (.invokevirtual 79, 3) := by decide +kernel
theorem dX10_readPerson_38 : decode cX10_readPerson 38 = .ok (.istore_n 1, 1) := by decide +kernel
theorem dX10_readPerson_39 : decode cX10_readPerson 39 = .ok (.aload_n 0, 1) := by decide +kernel
theorem dX10_readPerson_40 : decode cX10_readPerson 40 = .ok (.iconst 0, 1) := by decide +kernel
theorem dX10_readPerson_41 : decode cX10_readPerson 41 = .ok (.bipush 9, 2) := by decide +kernel
theorem dX10_readPerson_43 : decode cX10_readPerson 43 = .ok (.invokevirtual 79, 3) := by decide +kernel
theorem dX10_readPerson_46 : decode cX10_readPerson 46 = .ok (.istore_n 2, 1) := by decide +kernel
theorem dX10_readPerson_47 : decode cX10_readPerson 47 = .ok (.aload_n 0, 1) := by decide +kernel
theorem dX10_readPerson_48 : decode cX10_readPerson 48 = .ok (.invokevirtual 83, 3) := by decide +kernel
theorem dX10_readPerson_51 : decode cX10_readPerson 51 = .ok (.aload_n 0, 1) := by decide +kernel
theorem dX10_readPerson_52 : decode cX10_readPerson 52 = .ok (.getfield 23, 3) := by decide +kernel
theorem dX10_readPerson_55 : decode cX10_readPerson 55 = .ok (.getfield 86, 3) := by decide +kernel
theorem dX10_readPerson_58 : decode cX10_readPerson 58 = .ok (.aload_n 0, 1) := by decide +kernel
theorem dX10_readPerson_59 : decode cX10_readPerson 59 = .ok (.getfield 23, 3) := by decide +kernel
theorem dX10_readPerson_62 : decode cX10_readPerson 62 = .ok (.getfield 76, 3) := by decide +kernel
theorem dX10_readPerson_65 : decode cX10_readPerson 65 = .ok (.iload_n 1, 1) := by decide +kernel
theorem dX10_readPerson_66 : decode cX10_readPerson 66 = .ok (.invokevirtual 47, 3) := by decide +kernel
theorem dX10_readPerson_69 : decode cX10_readPerson 69 = .ok (.aload_n 0, 1) := by decide +kernel
theorem dX10_readPerson_70 : decode cX10_readPerson 70 = .ok (.getfield 23, 3) := by decide +kernel
theorem dX10_readPerson_73 : decode cX10_readPerson 73 = .ok (.getfield 89, 3) := by decide +kernel
theorem dX10_readPerson_76 : decode cX10_readPerson 76 = .ok (.aload_n 0, 1) := by decide +kernel
theorem dX10_readPerson_77 : decode cX10_readPerson 77 = .ok (.getfield 23, 3) := by decide +kernel
theorem dX10_readPerson_80 : decode cX10_readPerson 80 = .ok (.getfield 76, 3) := by decide +kernel
theorem dX10_readPerson_83 : decode cX10_readPerson 83 = .ok (.iload_n 2, 1) := by decide +kernel
theorem dX10_readPerson_84 : decode cX10_readPerson 84 = .ok (.invokevirtual 47, 3) := by decide +kernel
theorem dX10_readPerson_87 : decode cX10_readPerson 87 = .ok (.aload_n 0, 1) := by decide +kernel
theorem dX10_readPerson_88 : decode cX10_readPerson 88 = .ok (.getfield 23, 3) := by decide +kernel
theorem dX10_readPerson_91 : decode cX10_readPerson 91 = .ok (.dup, 1) := by decide +kernel
theorem dX10_readPerson_92 : decode cX10_readPerson 92 = .ok (.getfield 76, 3) := by decide +kernel
theorem dX10_readPerson_95 : decode cX10_readPerson 95 = .ok (.iconst 1, 1) := by decide +kernel
theorem dX10_readPerson_96 : decode cX10_readPerson 96 = .ok (.iadd, 1) := by decide +kernel
theorem dX10_readPerson_97 : decode cX10_readPerson 97 = .ok (.putfield 76, 3) := by decide +kernel
theorem dX10_readPerson_100 : decode cX10_readPerson 100 = .ok (.return_, 1) := by decide +kernel
theorem dX10_readDoing_0 : decode cX10_readDoing 0 = .ok (.aload_n 0, 1) := by decide +kernel
theorem dX10_readDoing_1 : decode cX10_readDoing 1 = .ok (.dup, 1) := by decide +kernel
theorem dX10_readDoing_2 : decode cX10_readDoing 2 = .ok (.getfield 37, 3) := by decide +kernel
theorem dX10_readDoing_5 : decode cX10_readDoing 5 = .ok (.iconst 1, 1) := by decide +kernel
theorem dX10_readDoing_6 : decode cX10_readDoing 6 = .ok (.iadd, 1) := by decide +kernel
theorem dX10_readDoing_7 : decode cX10_readDoing 7 = .ok (.putfield 37, 3) := by decide +kernel
theorem dX10_readDoing_10 : decode cX10_readDoing 10 = .ok (.aload_n 0, 1) := by decide +kernel
theorem dX10_readDoing_11 : decode cX10_readDoing 11 = .ok (.invokevirtual 54, 3) := by decide +kernel
theorem dX10_readDoing_14 : decode cX10_readDoing 14 = .ok (.aload_n 0, 1) := by decide +kernel
theorem dX10_readDoing_15 : decode cX10_readDoing 15 = .ok (.getfield 37, 3) := by decide +kernel
theorem dX10_readDoing_18 : decode cX10_readDoing 18 = .ok (.istore_n 1, 1) := by decide +kernel
theorem dX10_readDoing_19 : decode cX10_readDoing 19 = .ok (.aload_n 0, 1) := by decide +kernel
theorem dX10_readDoing_20 : decode cX10_readDoing 20 = .ok (.iconst 0, 1) := by decide +kernel
theorem dX10_readDoing_21 : decode cX10_readDoing 21 = .ok (.iconst 5, 1) := by decide +kernel
theorem dX10_readDoing_22 : decode cX10_readDoing 22 = .ok (.invokevirtual 79, 3) := by decide +kernel
theorem dX10_readDoing_25 : decode cX10_readDoing 25 = .ok (.istore_n 2, 1) := by decide +kernel
theorem dX10_readDoing_26 : decode cX10_readDoing 26 = .ok (.aload_n 0, 1) := by decide +kernel
theorem dX10_readDoing_27 : decode cX10_readDoing 27 = .ok (.getfield 40, 3) := by decide +kernel
theorem dX10_readDoing_30 : decode cX10_readDoing 30 = .ok (.iload_n 2, 1) := by decide +kernel
theorem dX10_readDoing_31 : decode cX10_readDoing 31 = .ok (.ishr, 1) := by decide +kernel
theorem dX10_readDoing_32 : decode cX10_readDoing 32 = .ok (.iconst 1, 1) := by decide +kernel
theorem dX10_readDoing_33 : decode cX10_readDoing 33 = .ok (.iand, 1) := by decide +kernel
theorem dX10_readDoing_34 : decode cX10_readDoing 34 = .ok (.ifCond .eq 9, 3) := by decide +kernel
theorem dX10_readDoing_37 : decode cX10_readDoing 37 = .ok (.aload_n 0, 1) := by decide +kernel
theorem dX10_readDoing_38 : decode cX10_readDoing 38 = .ok (.iconst 4, 1) := by decide +kernel
theorem dX10_readDoing_39 : decode cX10_readDoing 39 = .ok (.iload_n 1, 1) := by decide +kernel
theorem dX10_readDoing_40 : decode cX10_readDoing 40 = .ok (.invokevirtual 73, 3) := by decide +kernel
theorem dX10_readDoing_43 : decode cX10_readDoing 43 = .ok (.aload_n 0, 1) := by decide +kernel
theorem dX10_readDoing_44 : decode cX10_readDoing 44 = .ok (.iconst 0, 1) := by decide +kernel
theorem dX10_readDoing_45 : decode cX10_readDoing 45 = .ok (.bipush 9, 2) := by decide +kernel
theorem dX10_readDoing_47 : decode cX10_readDoing 47 = .ok (.invokevirtual 79, 3) := by decide +kernel
theorem dX10_readDoing_50 : decode cX10_readDoing 50 = .ok (.istore_n 3, 1) := by decide +kernel
theorem dX10_readDoing_51 : decode cX10_readDoing 51 = .ok (.aload_n 0, 1) := by decide +kernel
theorem dX10_readDoing_52 : decode cX10_readDoing 52 = .ok (.iconst 0, 1) := by decide +kernel
theorem dX10_readDoing_53 : decode cX10_readDoing 53 = .ok (.bipush 6, 2) := by decide +kernel
theorem dX10_readDoing_55 : decode cX10_readDoing 55 = .ok (.invokevirtual 79, 3) := by decide +kernel
theorem dX10_readDoing_58 : decode cX10_readDoing 58 = .ok (.istore 4, 2) := by decide +kernel
theorem dX10_readDoing_60 : decode cX10_readDoing 60 = .ok (.aload_n 0, 1) := by decide +kernel
theorem dX10_readDoing_61 : decode cX10_readDoing 61 = .ok (.invokevirtual 83, 3) := by decide +kernel
theorem dX10_readDoing_64 : decode cX10_readDoing 64 = .ok (.aload_n 0, 1) := by decide +kernel
theorem dX10_readDoing_65 : decode cX10_readDoing 65 = .ok (.dup, 1) := by decide +kernel
theorem dX10_readDoing_66 : decode cX10_readDoing 66 = .ok (.getfield 40, 3) := by decide +kernel
theorem dX10_readDoing_69 : decode cX10_readDoing 69 = .ok (.iconst 1, 1) := by decide +kernel
theorem dX10_readDoing_70 : decode cX10_readDoing 70 = .ok (.iload_n 2, 1) := by decide +kernel
theorem dX10_readDoing_71 : decode cX10_readDoing 71 = .ok (.ishl, 1) := by decide +kernel
theorem dX10_readDoing_72 : decode cX10_readDoing 72 = .ok (.ior, 1) := by decide +kernel
theorem dX10_readDoing_73 : decode cX10_readDoing 73 = .ok (.putfield 40, 3) := by decide +kernel
theorem dX10_readDoing_76 : decode cX10_readDoing 76 = .ok (.aload_n 0, 1) := by decide +kernel
theorem dX10_readDoing_77 : decode cX10_readDoing 77 = .ok (.getfield 23, 3) := by decide +kernel
theorem dX10_readDoing_80 : decode cX10_readDoing 80 = .ok (.getfield 92, 3) := by decide +kernel
theorem dX10_readDoing_83 : decode cX10_readDoing 83 = .ok (.iload_n 2, 1) := by decide +kernel
theorem dX10_readDoing_84 : decode cX10_readDoing 84 = .ok (.iload_n 3, 1) := by decide +kernel
theorem dX10_readDoing_85 : decode cX10_readDoing 85 = .ok (.invokevirtual 47, 3) := by decide +kernel
theorem dX10_readDoing_88 : decode cX10_readDoing 88 = .ok (.aload_n 0, 1) := by decide +kernel
theorem dX10_readDoing_89 : decode cX10_readDoing 89 = .ok (.getfield 23, 3) := by decide +kernel
theorem dX10_readDoing_92 : decode cX10_readDoing 92 = .ok (.getfield 95, 3) := by decide +kernel
theorem dX10_readDoing_95 : decode cX10_readDoing 95 = .ok (.iload_n 2, 1) := by decide +kernel
theorem dX10_readDoing_96 : decode cX10_readDoing 96 = .ok (.iload 4, 2) := by decide +kernel
theorem dX10_readDoing_98 : decode cX10_readDoing 98 = .ok (.invokevirtual 47, 3) := by decide +kernel
theorem dX10_readDoing_101 : decode cX10_readDoing 101 = .ok (.return_, 1) := by decide +kernel
theorem dX10_readStove_0 : decode cX10_readStove 0 = .ok (.aload_n 0, 1) := by decide +kernel
theorem dX10_readStove_1 : decode cX10_readStove 1 = .ok (.getfield 43, 3) := by decide +kernel
theorem dX10_readStove_4 : decode cX10_readStove 4 = .ok (.ifCond .eq 13, 3) := by decide +kernel
theorem dX10_readStove_7 : decode cX10_readStove 7 = .ok (.aload_n 0, 1) := by decide +kernel
theorem dX10_readStove_8 : decode cX10_readStove 8 = .ok (.iconst 3, 1) := by decide +kernel
theorem dX10_readStove_9 : decode cX10_readStove 9 = .ok (.aload_n 0, 1) := by decide +kernel
theorem dX10_readStove_10 : decode cX10_readStove 10 = .ok (.getfield 37, 3) := by decide +kernel
theorem dX10_readStove_13 : decode cX10_readStove 13 = .ok (.invokevirtual 73, 3) := by decide +kernel
theorem dX10_readStove_16 : decode cX10_readStove 16 = .ok (.return_, 1) := by decide +kernel
theorem dX10_readStove_17 : decode cX10_readStove 17 = .ok (.aload_n 0, 1) := by decide +kernel
theorem dX10_readStove_18 : decode cX10_readStove 18 = .ok (.dup, 1) := by decide +kernel
theorem dX10_readStove_19 : decode cX10_readStove 19 = .ok (.getfield 37, 3) := by decide +kernel
theorem dX10_readStove_22 : decode cX10_readStove 22 = .ok (.iconst 1, 1) := by decide +kernel
theorem dX10_readStove_23 : decode cX10_readStove 23 = .ok (.iadd, 1) := by decide +kernel
theorem dX10_readStove_24 : decode cX10_readStove 24 = .ok (.putfield 37, 3) := by decide +kernel
theorem dX10_readStove_27 : decode cX10_readStove 27 = .ok (.aload_n 0, 1) := by decide +kernel
theorem dX10_readStove_28 : decode cX10_readStove 28 = .ok (.iconst 1, 1) := by decide +kernel
theorem dX10_readStove_29 : decode cX10_readStove 29 = .ok (.putfield 43, 3) := by decide +kernel
theorem dX10_readStove_32 : decode cX10_readStove 32 = .ok (.aload_n 0, 1) := by decide +kernel
theorem dX10_readStove_33 : decode cX10_readStove 33 = .ok (.getfield 23, 3) := by decide +kernel
theorem dX10_readStove_36 : decode cX10_readStove 36 = .ok (.aload_n 0, 1) := by decide +kernel
theorem dX10_readStove_37 : decode cX10_readStove 37 = .ok (.iconst 0, 1) := by decide +kernel
theorem dX10_readStove_38 : decode cX10_readStove 38 = .ok (.aload_n 0, 1) := by decide +kernel
theorem dX10_readStove_39 : decode cX10_readStove 39 = .ok (.getfield 23, 3) := by decide +kernel
theorem dX10_readStove_42 : decode cX10_readStove 42 = .ok (.getfield 76, 3) := by decide +kernel
theorem dX10_readStove_45 : decode cX10_readStove 45 = .ok (.iconst 1, 1) := by decide +kernel
theorem dX10_readStove_46 : decode cX10_readStove 46 = .ok (.isub, 1) := by decide +kernel
theorem dX10_readStove_47 : decode cX10_readStove 47 = .ok (.invokevirtual 79, 3) := by decide +kernel
theorem dX10_readStove_50 : decode cX10_readStove 50 = .ok (.putfield 98, 3) := by decide +kernel
theorem dX10_readStove_53 : decode cX10_readStove 53 = .ok (.aload_n 0, 1) := by decide +kernel
theorem dX10_readStove_54 : decode cX10_readStove 54 = .ok (.getfield 23, 3) := by decide +kernel
theorem dX10_readStove_57 : decode cX10_readStove 57 = .ok (.aload_n 0, 1) := by decide +kernel
theorem dX10_readStove_58 : decode cX10_readStove 58 = .ok (.iconst 1, 1) := by decide +kernel
theorem dX10_readStove_59 : decode cX10_readStove 59 = .ok (.bipush 20, 2) := by decide +kernel
theorem dX10_readStove_61 : decode cX10_readStove 61 = .ok (.invokevirtual 79, 3) := by decide +kernel
theorem dX10_readStove_64 : decode cX10_readStove 64 = .ok (.putfield 101, 3) := by decide +kernel
theorem dX10_readStove_67 : decode cX10_readStove 67 = .ok (.aload_n 0, 1) := by decide +kernel
theorem dX10_readStove_68 : decode cX10_readStove 68 = .ok (.getfield 23, 3) := by decide +kernel
theorem dX10_readStove_71 : decode cX10_readStove 71 = .ok (.aload_n 0, 1) := by decide +kernel
theorem dX10_readStove_72 : decode cX10_readStove 72 = .ok (.iconst 0, 1) := by decide +kernel
theorem dX10_readStove_73 : decode cX10_readStove 73 = .ok (.sipush 999, 3) := by decide +kernel
theorem dX10_readStove_76 : decode cX10_readStove 76 = .ok (.invokevirtual 79, 3) := by decide +kernel
theorem dX10_readStove_79 : decode cX10_readStove 79 = .ok (.putfield 104, 3) := by decide +kernel
theorem dX10_readStove_82 : decode cX10_readStove 82 = .ok (.aload_n 0, 1) := by decide +kernel
theorem dX10_readStove_83 : decode cX10_readStove 83 = .ok (.invokevirtual 83, 3) := by decide +kernel
theorem dX10_readStove_86 : decode cX10_readStove 86 = .ok (.return_, 1) := by decide +kernel
theorem dX10_readNumber_0 : decode cX10_readNumber 0 = .ok (.aload_n 0, 1) := by decide +kernel
theorem dX10_readNumber_1 : decode cX10_readNumber 1 = .ok (.invokevirtual 54, 3) := by decide +kernel
theorem dX10_readNumber_4 : decode cX10_readNumber 4 = .ok (.aload_n 0, 1) := by decide +kernel
theorem dX10_readNumber_5 : decode cX10_readNumber 5 = .ok (.getfield 37, 3) := by decide +kernel
theorem dX10_readNumber_8 : decode cX10_readNumber 8 = .ok (.istore_n 3, 1) := by decide +kernel
theorem dX10_readNumber_9 : decode cX10_readNumber 9 = .ok (.iconst 0, 1) := by decide +kernel
theorem dX10_readNumber_10 : decode cX10_readNumber 10 = .ok (.istore 4, 2) := by decide +kernel
theorem dX10_readNumber_12 : decode cX10_readNumber 12 = .ok (.aload_n 0, 1) := by decide +kernel
theorem dX10_readNumber_13 : decode cX10_readNumber 13 = .ok (.getfield 37, 3) := by decide +kernel
theorem dX10_readNumber_16 : decode cX10_readNumber 16 = .ok (.aload_n 0, 1) := by decide +kernel
theorem dX10_readNumber_17 : decode cX10_readNumber 17 = .ok (.getfield 27, 3) := by decide +kernel
theorem dX10_readNumber_20 : decode cX10_readNumber 20 = .ok (.if_icmp .ge 70, 3) := by decide +kernel
theorem dX10_readNumber_23 : decode cX10_readNumber 23 = .ok (.aload_n 0, 1) := by decide +kernel
theorem dX10_readNumber_24 : decode cX10_readNumber 24 = .ok (.getfield 14, 3) := by decide +kernel
theorem dX10_readNumber_27 : decode cX10_readNumber 27 = .ok (.aload_n 0, 1) := by decide +kernel
theorem dX10_readNumber_28 : decode cX10_readNumber 28 = .ok (.getfield 37, 3) := by decide +kernel
theorem dX10_readNumber_31 : decode cX10_readNumber 31 = .ok (.invokevirtual 60, 3) := by decide +kernel
theorem dX10_readNumber_34 : decode cX10_readNumber 34 = .ok (.invokestatic 107, 3) := by decide +kernel
theorem dX10_readNumber_37 : decode cX10_readNumber 37 = .ok (.ifCond .eq 53, 3) := by decide +kernel
theorem dX10_readNumber_40 : decode cX10_readNumber 40 = .ok (.aload_n 0, 1) := by decide +kernel
theorem dX10_readNumber_41 : decode cX10_readNumber 41 = .ok (.getfield 37, 3) := by decide +kernel
theorem dX10_readNumber_44 : decode cX10_readNumber 44 = .ok (.iload_n 3, 1) := by decide +kernel
theorem dX10_readNumber_45 : decode cX10_readNumber 45 = .ok (.isub, 1) := by decide +kernel
theorem dX10_readNumber_46 : decode cX10_readNumber 46 = .ok (.iconst 3, 1) := by decide +kernel
theorem dX10_readNumber_47 : decode cX10_readNumber 47 = .ok (.if_icmp .ge 26, 3) := by decide +kernel
theorem dX10_readNumber_50 : decode cX10_readNumber 50 = .ok (.iload 4, 2) := by decide +kernel
theorem dX10_readNumber_52 : decode cX10_readNumber 52 = .ok (.bipush 10, 2) := by decide +kernel
theorem dX10_readNumber_54 : decode cX10_readNumber 54 = .ok (.imul, 1) := by decide +kernel
theorem dX10_readNumber_55 : decode cX10_readNumber 55 = .ok (.aload_n 0, 1) := by decide +kernel
theorem dX10_readNumber_56 : decode cX10_readNumber 56 = .ok (.getfield 14, 3) := by decide +kernel
theorem dX10_readNumber_59 : decode cX10_readNumber 59 = .ok (.aload_n 0, 1) := by decide +kernel
theorem dX10_readNumber_60 : decode cX10_readNumber 60 = .ok (.getfield 37, 3) := by decide +kernel
theorem dX10_readNumber_63 : decode cX10_readNumber 63 = .ok (.invokevirtual 60, 3) := by decide +kernel
theorem dX10_readNumber_66 : decode cX10_readNumber 66 = .ok (.iadd, 1) := by decide +kernel
theorem dX10_readNumber_67 : decode cX10_readNumber 67 = .ok (.bipush 48, 2) := by decide +kernel
theorem dX10_readNumber_69 : decode cX10_readNumber 69 = .ok (.isub, 1) := by decide +kernel
theorem dX10_readNumber_70 : decode cX10_readNumber 70 = .ok (.goto 5, 3) := by decide +kernel
theorem dX10_readNumber_73 : decode cX10_readNumber 73 = .ok (.iload 4, 2) := by decide +kernel
theorem dX10_readNumber_75 : decode cX10_readNumber 75 = .ok (.istore 4, 2) := by decide +kernel
theorem dX10_readNumber_77 : decode cX10_readNumber 77 = .ok (.aload_n 0, 1) := by decide +kernel
theorem dX10_readNumber_78 : decode cX10_readNumber 78 = .ok (.dup, 1) := by decide +kernel
theorem dX10_readNumber_79 : decode cX10_readNumber 79 = .ok (.getfield 37, 3) := by decide +kernel
theorem dX10_readNumber_82 : decode cX10_readNumber 82 = .ok (.iconst 1, 1) := by decide +kernel
theorem dX10_readNumber_83 : decode cX10_readNumber 83 = .ok (.iadd, 1) := by decide +kernel
theorem dX10_readNumber_84 : decode cX10_readNumber 84 = .ok (.putfield 37, 3) := by decide +kernel
theorem dX10_readNumber_87 : decode cX10_readNumber 87 = .ok (.goto (-75), 3) := by decide +kernel
theorem dX10_readNumber_90 : decode cX10_readNumber 90 = .ok (.aload_n 0, 1) := by decide +kernel
theorem dX10_readNumber_91 : decode cX10_readNumber 91 = .ok (.getfield 37, 3) := by decide +kernel
theorem dX10_readNumber_94 : decode cX10_readNumber 94 = .ok (.iload_n 3, 1) := by decide +kernel
theorem dX10_readNumber_95 : decode cX10_readNumber 95 = .ok (.if_icmp .ne 12, 3) := by decide +kernel
theorem dX10_readNumber_98 : decode cX10_readNumber 98 = .ok (.aload_n 0, 1) := by decide +kernel
theorem dX10_readNumber_99 : decode cX10_readNumber 99 = .ok (.iconst 1, 1) := by decide +kernel
theorem dX10_readNumber_100 : decode cX10_readNumber 100 = .ok (.iload_n 3, 1) := by decide +kernel
theorem dX10_readNumber_101 : decode cX10_readNumber 101 = .ok (.invokevirtual 73, 3) := by decide +kernel
theorem dX10_readNumber_104 : decode cX10_readNumber 104 = .ok (.goto 31, 3) := by decide +kernel
theorem dX10_readNumber_107 : decode cX10_readNumber 107 = .ok (.aload_n 0, 1) := by decide +kernel
theorem dX10_readNumber_108 : decode cX10_readNumber 108 = .ok (.getfield 37, 3) := by decide +kernel
theorem dX10_readNumber_111 : decode cX10_readNumber 111 = .ok (.iload_n 3, 1) := by decide +kernel
theorem dX10_readNumber_112 : decode cX10_readNumber 112 = .ok (.isub, 1) := by decide +kernel
theorem dX10_readNumber_113 : decode cX10_readNumber 113 = .ok (.iconst 3, 1) := by decide +kernel
theorem dX10_readNumber_114 : decode cX10_readNumber 114 = .ok (.if_icmp .gt 15, 3) := by decide +kernel
theorem dX10_readNumber_117 : decode cX10_readNumber 117 = .ok (.iload 4, 2) := by decide +kernel
theorem dX10_readNumber_119 : decode cX10_readNumber 119 = .ok (.iload_n 1, 1) := by decide +kernel
theorem dX10_readNumber_120 : decode cX10_readNumber 120 = .ok (.if_icmp .lt 9, 3) := by decide +kernel
theorem dX10_readNumber_123 : decode cX10_readNumber 123 = .ok (.iload 4, 2) := by decide +kernel
theorem dX10_readNumber_125 : decode cX10_readNumber 125 = .ok (.iload_n 2, 1) := by decide +kernel
theorem dX10_readNumber_126 : decode cX10_readNumber 126 = .ok (.if_icmp .le 9, 3) := by decide +kernel
theorem dX10_readNumber_129 : decode cX10_readNumber 129 = .ok (.aload_n 0, 1) := by decide +kernel
theorem dX10_readNumber_130 : decode cX10_readNumber 130 = .ok (.iconst 2, 1) := by decide +kernel
theorem dX10_readNumber_131 : decode cX10_readNumber 131 = .ok (.iload_n 3, 1) := by decide +kernel
theorem dX10_readNumber_132 : decode cX10_readNumber 132 = .ok (.invokevirtual 73, 3) := by decide +kernel
theorem dX10_readNumber_135 : decode cX10_readNumber 135 = .ok (.iload 4, 2) := by decide +kernel
theorem dX10_readNumber_137 : decode cX10_readNumber 137 = .ok (.ireturn, 1) := by decide +kernel
theorem dX10_readEnd_0 : decode cX10_readEnd 0 = .ok (.aload_n 0, 1) := by decide +kernel
theorem dX10_readEnd_1 : decode cX10_readEnd 1 = .ok (.invokevirtual 54, 3) := by decide +kernel
theorem dX10_readEnd_4 : decode cX10_readEnd 4 = .ok (.aload_n 0, 1) := by decide +kernel
theorem dX10_readEnd_5 : decode cX10_readEnd 5 = .ok (.getfield 37, 3) := by decide +kernel
theorem dX10_readEnd_8 : decode cX10_readEnd 8 = .ok (.aload_n 0, 1) := by decide +kernel
theorem dX10_readEnd_9 : decode cX10_readEnd 9 = .ok (.getfield 27, 3) := by decide +kernel
theorem dX10_readEnd_12 : decode cX10_readEnd 12 = .ok (.if_icmp .ge 32, 3) := by decide +kernel
theorem dX10_readEnd_15 : decode cX10_readEnd 15 = .ok (.aload_n 0, 1) := by decide +kernel
theorem dX10_readEnd_16 : decode cX10_readEnd 16 = .ok (.getfield 14, 3) := by decide +kernel
theorem dX10_readEnd_19 : decode cX10_readEnd 19 = .ok (.aload_n 0, 1) := by decide +kernel
theorem dX10_readEnd_20 : decode cX10_readEnd 20 = .ok (.getfield 37, 3) := by decide +kernel
theorem dX10_readEnd_23 : decode cX10_readEnd 23 = .ok (.invokevirtual 60, 3) := by decide +kernel
theorem dX10_readEnd_26 : decode cX10_readEnd 26 = .ok (.bipush 59, 2) := by decide +kernel
theorem dX10_readEnd_28 : decode cX10_readEnd 28 = .ok (.if_icmp .ne 16, 3) := by decide +kernel
theorem dX10_readEnd_31 : decode cX10_readEnd 31 = .ok (.aload_n 0, 1) := by decide +kernel
theorem dX10_readEnd_32 : decode cX10_readEnd 32 = .ok (.dup, 1) := by decide +kernel
theorem dX10_readEnd_33 : decode cX10_readEnd 33 = .ok (.getfield 37, 3) := by decide +kernel
theorem dX10_readEnd_36 : decode cX10_readEnd 36 = .ok (.iconst 1, 1) := by decide +kernel
theorem dX10_readEnd_37 : decode cX10_readEnd 37 = .ok (.iadd, 1) := by decide +kernel
theorem dX10_readEnd_38 : decode cX10_readEnd 38 = .ok (.putfield 37, 3) := by decide +kernel
theorem dX10_readEnd_41 : decode cX10_readEnd 41 = .ok (.goto 12, 3) := by decide +kernel
theorem dX10_readEnd_44 : decode cX10_readEnd 44 = .ok (.aload_n 0, 1) := by decide +kernel
theorem dX10_readEnd_45 : decode cX10_readEnd 45 = .ok (.iconst 1, 1) := by decide +kernel
theorem dX10_readEnd_46 : decode cX10_readEnd 46 = .ok (.aload_n 0, 1) := by decide +kernel
theorem dX10_readEnd_47 : decode cX10_readEnd 47 = .ok (.getfield 37, 3) := by decide +kernel
theorem dX10_readEnd_50 : decode cX10_readEnd 50 = .ok (.invokevirtual 73, 3) := by decide +kernel
theorem dX10_readEnd_53 : decode cX10_readEnd 53 = .ok (.return_, 1) := by decide +kernel
theorem dX10_skipBlanks_0 : decode cX10_skipBlanks 0 = .ok (.aload_n 0, 1) := by decide +kernel
theorem dX10_skipBlanks_1 : decode cX10_skipBlanks 1 = .ok (.getfield 37, 3) := by decide +kernel
theorem dX10_skipBlanks_4 : decode cX10_skipBlanks 4 = .ok (.aload_n 0, 1) := by decide +kernel
theorem dX10_skipBlanks_5 : decode cX10_skipBlanks 5 = .ok (.getfield 27, 3) := by decide +kernel
theorem dX10_skipBlanks_8 : decode cX10_skipBlanks 8 = .ok (.if_icmp .ge 32, 3) := by decide +kernel
theorem dX10_skipBlanks_11 : decode cX10_skipBlanks 11 = .ok (.aload_n 0, 1) := by decide +kernel
theorem dX10_skipBlanks_12 : decode cX10_skipBlanks 12 = .ok (.getfield 14, 3) := by decide +kernel
theorem dX10_skipBlanks_15 : decode cX10_skipBlanks 15 = .ok (.aload_n 0, 1) := by decide +kernel
theorem dX10_skipBlanks_16 : decode cX10_skipBlanks 16 = .ok (.getfield 37, 3) := by decide +kernel
theorem dX10_skipBlanks_19 : decode cX10_skipBlanks 19 = .ok (.invokevirtual 60, 3) := by decide +kernel
theorem dX10_skipBlanks_22 : decode cX10_skipBlanks 22 = .ok (.bipush 32, 2) := by decide +kernel
theorem dX10_skipBlanks_24 : decode cX10_skipBlanks 24 = .ok (.if_icmp .ne 16, 3) := by decide +kernel
theorem dX10_skipBlanks_27 : decode cX10_skipBlanks 27 = .ok (.aload_n 0, 1) := by decide +kernel
theorem dX10_skipBlanks_28 : decode cX10_skipBlanks 28 = .ok (.dup, 1) := by decide +kernel
theorem dX10_skipBlanks_29 : decode cX10_skipBlanks 29 = .ok (.getfield 37, 3) := by decide +kernel
theorem dX10_skipBlanks_32 : decode cX10_skipBlanks 32 = .ok (.iconst 1, 1) := by decide +kernel
theorem dX10_skipBlanks_33 : decode cX10_skipBlanks 33 = .ok (.iadd, 1) := by decide +kernel
theorem dX10_skipBlanks_34 : decode cX10_skipBlanks 34 = .ok (.putfield 37, 3) := by decide +kernel
theorem dX10_skipBlanks_37 : decode cX10_skipBlanks 37 = .ok (.goto (-37), 3) := by decide +kernel
theorem dX10_skipBlanks_40 : decode cX10_skipBlanks 40 = .ok (.return_, 1) := by decide +kernel
theorem dX10_isFigure_0 : decode cX10_isFigure 0 = .ok (.iload_n 0, 1) := by decide +kernel
theorem dX10_isFigure_1 : decode cX10_isFigure 1 = .ok (.bipush 48, 2) := by decide +kernel
theorem dX10_isFigure_3 : decode cX10_isFigure 3 = .ok (.if_icmp .lt 13, 3) := by decide +kernel
theorem dX10_isFigure_6 : decode cX10_isFigure 6 = .ok (.iload_n 0, 1) := by decide +kernel
theorem dX10_isFigure_7 : decode cX10_isFigure 7 = .ok (.bipush 57, 2) := by decide +kernel
theorem dX10_isFigure_9 : decode cX10_isFigure 9 = .ok (.if_icmp .gt 7, 3) := by decide +kernel
theorem dX10_isFigure_12 : decode cX10_isFigure 12 = .ok (.iconst 1, 1) := by decide +kernel
theorem dX10_isFigure_13 : decode cX10_isFigure 13 = .ok (.goto 4, 3) := by decide +kernel
theorem dX10_isFigure_16 : decode cX10_isFigure 16 = .ok (.iconst 0, 1) := by decide +kernel
theorem dX10_isFigure_17 : decode cX10_isFigure 17 = .ok (.ireturn, 1) := by decide +kernel
theorem dX10_blame_0 : decode cX10_blame 0 = .ok (.aload_n 0, 1) := by decide +kernel
theorem dX10_blame_1 : decode cX10_blame 1 = .ok (.getfield 34, 3) := by decide +kernel
theorem dX10_blame_4 : decode cX10_blame 4 = .ok (.ifCond .ne 13, 3) := by decide +kernel
theorem dX10_blame_7 : decode cX10_blame 7 = .ok (.aload_n 0, 1) := by decide +kernel
theorem dX10_blame_8 : decode cX10_blame 8 = .ok (.iload_n 1, 1) := by decide +kernel
theorem dX10_blame_9 : decode cX10_blame 9 = .ok (.putfield 34, 3) := by decide +kernel
theorem dX10_blame_12 : decode cX10_blame 12 = .ok (.aload_n 0, 1) := by decide +kernel
theorem dX10_blame_13 : decode cX10_blame 13 = .ok (.iload_n 2, 1) := by decide +kernel
theorem dX10_blame_14 : decode cX10_blame 14 = .ok (.putfield 31, 3) := by decide +kernel
theorem dX10_blame_17 : decode cX10_blame 17 = .ok (.return_, 1) := by decide +kernel
theorem dX11_init_0 : decode cX11_init 0 = .ok (.aload_n 0, 1) := by decide +kernel
theorem dX11_init_1 : decode cX11_init 1 = .ok (.invokespecial 1, 3) := by decide +kernel
theorem dX11_init_4 : decode cX11_init 4 = .ok (.aload_n 0, 1) := by decide +kernel
theorem dX11_init_5 : decode cX11_init 5 = .ok (.new 7, 3) := by decide +kernel
theorem dX11_init_8 : decode cX11_init 8 = .ok (.dup, 1) := by decide +kernel
theorem dX11_init_9 : decode cX11_init 9 = .ok (.invokespecial 9, 3) := by decide +kernel
theorem dX11_init_12 : decode cX11_init 12 = .ok (.putfield 10, 3) := by decide +kernel
theorem dX11_init_15 : decode cX11_init 15 = .ok (.aload_n 0, 1) := by decide +kernel
theorem dX11_init_16 : decode cX11_init 16 = .ok (.new 16, 3) := by decide +kernel
theorem dX11_init_19 : decode cX11_init 19 = .ok (.dup, 1) := by decide +kernel
theorem dX11_init_20 : decode cX11_init 20 = .ok (.invokespecial 18, 3) := by decide +kernel
theorem dX11_init_23 : decode cX11_init 23 = .ok (.putfield 19, 3) := by decide +kernel
theorem dX11_init_26 : decode cX11_init 26 = .ok (.aload_n 0, 1) := by decide +kernel
theorem dX11_init_27 : decode cX11_init 27 = .ok (.new 23, 3) := by decide +kernel
theorem dX11_init_30 : decode cX11_init 30 = .ok (.dup, 1) := by decide +kernel
theorem dX11_init_31 : decode cX11_init 31 = .ok (.invokespecial 25, 3) := by decide +kernel
theorem dX11_init_34 : decode cX11_init 34 = .ok (.putfield 26, 3) := by decide +kernel
theorem dX11_init_37 : decode cX11_init 37 = .ok (.aload_n 0, 1) := by decide +kernel
theorem dX11_init_38 : decode cX11_init 38 = .ok (.new 23, 3) := by decide +kernel
theorem dX11_init_41 : decode cX11_init 41 = .ok (.dup, 1) := by decide +kernel
theorem dX11_init_42 : decode cX11_init 42 = .ok (.invokespecial 25, 3) := by decide +kernel
theorem dX11_init_45 : decode cX11_init 45 = .ok (.putfield 30, 3) := by decide +kernel
theorem dX11_init_48 : decode cX11_init 48 = .ok (.aload_n 0, 1) := by decide +kernel
theorem dX11_init_49 : decode cX11_init 49 = .ok (.new 33, 3) := by decide +kernel
theorem dX11_init_52 : decode cX11_init 52 = .ok (.dup, 1) := by decide +kernel
theorem dX11_init_53 : decode cX11_init 53 = .ok (.invokespecial 35, 3) := by decide +kernel
theorem dX11_init_56 : decode cX11_init 56 = .ok (.putfield 36, 3) := by decide +kernel
theorem dX11_init_59 : decode cX11_init 59 = .ok (.aload_n 0, 1) := by decide +kernel
theorem dX11_init_60 : decode cX11_init 60 = .ok (.new 40, 3) := by decide +kernel
theorem dX11_init_63 : decode cX11_init 63 = .ok (.dup, 1) := by decide +kernel
theorem dX11_init_64 : decode cX11_init 64 = .ok (.iconst 2, 1) := by decide +kernel
theorem dX11_init_65 : decode cX11_init 65 = .ok (.invokespecial 42, 3) := by decide +kernel
theorem dX11_init_68 : decode cX11_init 68 = .ok (.putfield 45, 3) := by decide +kernel
theorem dX11_init_71 : decode cX11_init 71 = .ok (.aload_n 0, 1) := by decide +kernel
theorem dX11_init_72 : decode cX11_init 72 = .ok (.new 49, 3) := by decide +kernel
theorem dX11_init_75 : decode cX11_init 75 = .ok (.dup, 1) := by decide +kernel
theorem dX11_init_76 : decode cX11_init 76 = .ok (.iconst 2, 1) := by decide +kernel
theorem dX11_init_77 : decode cX11_init 77 = .ok (.invokespecial 51, 3) := by decide +kernel
theorem dX11_init_80 : decode cX11_init 80 = .ok (.putfield 52, 3) := by decide +kernel
theorem dX11_init_83 : decode cX11_init 83 = .ok (.aload_n 0, 1) := by decide +kernel
theorem dX11_init_84 : decode cX11_init 84 = .ok (.new 49, 3) := by decide +kernel
theorem dX11_init_87 : decode cX11_init 87 = .ok (.dup, 1) := by decide +kernel
theorem dX11_init_88 : decode cX11_init 88 = .ok (.iconst 2, 1) := by decide +kernel
theorem dX11_init_89 : decode cX11_init 89 = .ok (.invokespecial 51, 3) := by decide +kernel
theorem dX11_init_92 : decode cX11_init 92 = .ok (.putfield 56, 3) := by decide +kernel
theorem dX11_init_95 : decode cX11_init 95 = .ok (.aload_n 0, 1) := by decide +kernel
theorem dX11_init_96 : decode cX11_init 96 = .ok (.new 59, 3) := by decide +kernel
theorem dX11_init_99 : decode cX11_init 99 = .ok (.dup, 1) := by decide +kernel
theorem dX11_init_100 : decode cX11_init 100 = .ok (.invokespecial 61, 3) := by decide +kernel
theorem dX11_init_103 : decode cX11_init 103 = .ok (.putfield 62, 3) := by decide +kernel
theorem dX11_init_106 : decode cX11_init 106 = .ok (.aload_n 0, 1) := by decide +kernel
theorem dX11_init_107 : decode cX11_init 107 = .ok (.new 66, 3) := by decide +kernel
theorem dX11_init_110 : decode cX11_init 110 = .ok (.dup, 1) := by decide +kernel
theorem dX11_init_111 : decode cX11_init 111 = .ok (.invokespecial 68, 3) := by decide +kernel
theorem dX11_init_114 : decode cX11_init 114 = .ok (.putfield 69, 3) := by decide +kernel
theorem dX11_init_117 : decode cX11_init 117 = .ok (.aload_n 0, 1) := by decide +kernel
theorem dX11_init_118 : decode cX11_init 118 = .ok (.new 73, 3) := by decide +kernel
theorem dX11_init_121 : decode cX11_init 121 = .ok (.dup, 1) := by decide +kernel
theorem dX11_init_122 : decode cX11_init 122 = .ok (.invokespecial 75, 3) := by decide +kernel
theorem dX11_init_125 : decode cX11_init 125 = .ok (.putfield 76, 3) := by decide +kernel
theorem dX11_init_128 : decode cX11_init 128 = .ok (.aload_n 0, 1) := by decide +kernel
theorem dX11_init_129 : decode cX11_init 129 = .ok (.new 80, 3) := by decide +kernel
theorem dX11_init_132 : decode cX11_init 132 = .ok (.dup, 1) := by decide +kernel
theorem dX11_init_133 : decode cX11_init 133 = .ok (.invokespecial 82, 3) := by decide +kernel
theorem dX11_init_136 : decode cX11_init 136 = .ok (.putfield 83, 3) := by decide +kernel
theorem dX11_init_139 : decode cX11_init 139 = .ok (.aload_n 0, 1) := by decide +kernel
theorem dX11_init_140 : decode cX11_init 140 = .ok (.new 87, 3) := by decide +kernel
theorem dX11_init_143 : decode cX11_init 143 = .ok (.dup, 1) := by decide +kernel
theorem dX11_init_144 : decode cX11_init 144 = .ok (.invokespecial 89, 3) := by decide +kernel
theorem dX11_init_147 : decode cX11_init 147 = .ok (.putfield 90, 3) := by decide +kernel
theorem dX11_init_150 : decode cX11_init 150 = .ok (.aload_n 0, 1) := by decide +kernel
theorem dX11_init_151 : decode cX11_init 151 = .ok (.iconst 0, 1) := by decide +kernel
theorem dX11_init_152 : decode cX11_init 152 = .ok (.putfield 94, 3) := by decide +kernel
theorem dX11_init_155 : decode cX11_init 155 = .ok (.aload_n 0, 1) := by decide +kernel
theorem dX11_init_156 : decode cX11_init 156 = .ok (.getfield 26, 3) := by decide +kernel
theorem dX11_init_159 : decode cX11_init 159 = .ok (.new 16, 3) := by decide +kernel
theorem dX11_init_162 : decode cX11_init 162 = .ok (.dup, 1) := by decide +kernel
theorem dX11_init_163 : decode cX11_init 163 = .ok (.invokespecial 18, 3) := by decide +kernel
theorem dX11_init_166 : decode cX11_init 166 = .ok (.invokevirtual 98, 3) := by decide +kernel
theorem dX11_init_169 : decode cX11_init 169 = .ok (.return_, 1) := by decide +kernel
theorem dX11_feed_0 : decode cX11_feed 0 = .ok (.iload_n 1, 1) := by decide +kernel
theorem dX11_feed_1 : decode cX11_feed 1 = .ok (.iconst 0, 1) := by decide +kernel
theorem dX11_feed_2 : decode cX11_feed 2 = .ok (.sipush 255, 3) := by decide +kernel
theorem dX11_feed_5 : decode cX11_feed 5 = .ok (.invokestatic 102, 3) := by decide +kernel
theorem dX11_feed_8 : decode cX11_feed 8 = .ok (.ifCond .ne 6, 3) := by decide +kernel
theorem dX11_feed_11 : decode cX11_feed 11 = .ok (.ldc 106, 2) := by decide +kernel
theorem dX11_feed_13 : decode cX11_feed 13 = .ok (.ireturn, 1) := by decide +kernel
theorem dX11_feed_14 : decode cX11_feed 14 = .ok (.aload_n 0, 1) := by decide +kernel
theorem dX11_feed_15 : decode cX11_feed 15 = .ok (.getfield 10, 3) := by decide +kernel
theorem dX11_feed_18 : decode cX11_feed 18 = .ok (.getfield 107, 3) := by decide +kernel
theorem dX11_feed_21 : decode cX11_feed 21 = .ok (.sipush 200, 3) := by decide +kernel
theorem dX11_feed_24 : decode cX11_feed 24 = .ok (.if_icmp .lt 6, 3) := by decide +kernel
theorem dX11_feed_27 : decode cX11_feed 27 = .ok (.ldc 110, 2) := by decide +kernel
theorem dX11_feed_29 : decode cX11_feed 29 = .ok (.ireturn, 1) := by decide +kernel
theorem dX11_feed_30 : decode cX11_feed 30 = .ok (.aload_n 0, 1) := by decide +kernel
theorem dX11_feed_31 : decode cX11_feed 31 = .ok (.getfield 10, 3) := by decide +kernel
theorem dX11_feed_34 : decode cX11_feed 34 = .ok (.iload_n 1, 1) := by decide +kernel
theorem dX11_feed_35 : decode cX11_feed 35 = .ok (.invokevirtual 111, 3) := by decide +kernel
theorem dX11_feed_38 : decode cX11_feed 38 = .ok (.ireturn, 1) := by decide +kernel
theorem dX11_house_0 : decode cX11_house 0 = .ok (.aload_n 0, 1) := by decide +kernel
theorem dX11_house_1 : decode cX11_house 1 = .ok (.getfield 10, 3) := by decide +kernel
theorem dX11_house_4 : decode cX11_house 4 = .ok (.invokevirtual 115, 3) := by decide +kernel
theorem dX11_house_7 : decode cX11_house 7 = .ok (.istore_n 1, 1) := by decide +kernel
theorem dX11_house_8 : decode cX11_house 8 = .ok (.aload_n 0, 1) := by decide +kernel
theorem dX11_house_9 : decode cX11_house 9 = .ok (.getfield 10, 3) := by decide +kernel
theorem dX11_house_12 : decode cX11_house 12 = .ok (.iconst 0, 1) := by decide +kernel
theorem dX11_house_13 : decode cX11_house 13 = .ok (.putfield 107, 3) := by decide +kernel
theorem dX11_house_16 : decode cX11_house 16 = .ok (.iload_n 1, 1) := by decide +kernel
theorem dX11_house_17 : decode cX11_house 17 = .ok (.ifCond .eq 8, 3) := by decide +kernel
theorem dX11_house_20 : decode cX11_house 20 = .ok (.bipush (-10), 2) := by decide +kernel
theorem dX11_house_22 : decode cX11_house 22 = .ok (.iload_n 1, 1) := by decide +kernel
theorem dX11_house_23 : decode cX11_house 23 = .ok (.isub, 1) := by decide +kernel
theorem dX11_house_24 : decode cX11_house 24 = .ok (.ireturn, 1) := by decide +kernel
theorem dX11_house_25 : decode cX11_house 25 = .ok (.aload_n 0, 1) := by decide +kernel
theorem dX11_house_26 : decode cX11_house 26 = .ok (.getfield 19, 3) := by decide +kernel
theorem dX11_house_29 : decode cX11_house 29 = .ok (.aload_n 0, 1) := by decide +kernel
theorem dX11_house_30 : decode cX11_house 30 = .ok (.getfield 10, 3) := by decide +kernel
theorem dX11_house_33 : decode cX11_house 33 = .ok (.getfield 119, 3) := by decide +kernel
theorem dX11_house_36 : decode cX11_house 36 = .ok (.invokevirtual 122, 3) := by decide +kernel
theorem dX11_house_39 : decode cX11_house 39 = .ok (.aload_n 0, 1) := by decide +kernel
theorem dX11_house_40 : decode cX11_house 40 = .ok (.getfield 26, 3) := by decide +kernel
theorem dX11_house_43 : decode cX11_house 43 = .ok (.aload_n 0, 1) := by decide +kernel
theorem dX11_house_44 : decode cX11_house 44 = .ok (.getfield 19, 3) := by decide +kernel
theorem dX11_house_47 : decode cX11_house 47 = .ok (.invokevirtual 98, 3) := by decide +kernel
theorem dX11_house_50 : decode cX11_house 50 = .ok (.aload_n 0, 1) := by decide +kernel
theorem dX11_house_51 : decode cX11_house 51 = .ok (.getfield 36, 3) := by decide +kernel
theorem dX11_house_54 : decode cX11_house 54 = .ok (.iconst 0, 1) := by decide +kernel
theorem dX11_house_55 : decode cX11_house 55 = .ok (.putfield 125, 3) := by decide +kernel
theorem dX11_house_58 : decode cX11_house 58 = .ok (.aload_n 0, 1) := by decide +kernel
theorem dX11_house_59 : decode cX11_house 59 = .ok (.getfield 56, 3) := by decide +kernel
theorem dX11_house_62 : decode cX11_house 62 = .ok (.iconst 0, 1) := by decide +kernel
theorem dX11_house_63 : decode cX11_house 63 = .ok (.invokevirtual 128, 3) := by decide +kernel
theorem dX11_house_66 : decode cX11_house 66 = .ok (.aload_n 0, 1) := by decide +kernel
theorem dX11_house_67 : decode cX11_house 67 = .ok (.getfield 62, 3) := by decide +kernel
theorem dX11_house_70 : decode cX11_house 70 = .ok (.iconst 0, 1) := by decide +kernel
theorem dX11_house_71 : decode cX11_house 71 = .ok (.putfield 131, 3) := by decide +kernel
theorem dX11_house_74 : decode cX11_house 74 = .ok (.aload_n 0, 1) := by decide +kernel
theorem dX11_house_75 : decode cX11_house 75 = .ok (.getfield 69, 3) := by decide +kernel
theorem dX11_house_78 : decode cX11_house 78 = .ok (.iconst 0, 1) := by decide +kernel
theorem dX11_house_79 : decode cX11_house 79 = .ok (.putfield 132, 3) := by decide +kernel
theorem dX11_house_82 : decode cX11_house 82 = .ok (.aload_n 0, 1) := by decide +kernel
theorem dX11_house_83 : decode cX11_house 83 = .ok (.getfield 19, 3) := by decide +kernel
theorem dX11_house_86 : decode cX11_house 86 = .ok (.getfield 135, 3) := by decide +kernel
theorem dX11_house_89 : decode cX11_house 89 = .ok (.ireturn, 1) := by decide +kernel
theorem dX11_fault_0 : decode cX11_fault 0 = .ok (.aload_n 0, 1) := by decide +kernel
theorem dX11_fault_1 : decode cX11_fault 1 = .ok (.getfield 10, 3) := by decide +kernel
theorem dX11_fault_4 : decode cX11_fault 4 = .ok (.getfield 138, 3) := by decide +kernel
theorem dX11_fault_7 : decode cX11_fault 7 = .ok (.ireturn, 1) := by decide +kernel
theorem dX11_told_0 : decode cX11_told 0 = .ok (.iload_n 1, 1) := by decide +kernel
theorem dX11_told_1 : decode cX11_told 1 = .ok (.tableswitch 142 0 9 #[55, 63, 71, 79, 87, 95, 103, 118, 126, 134], 55) := by decide +kernel
theorem dX11_told_56 : decode cX11_told 56 = .ok (.aload_n 0, 1) := by decide +kernel
theorem dX11_told_57 : decode cX11_told 57 = .ok (.getfield 19, 3) := by decide +kernel
theorem dX11_told_60 : decode cX11_told 60 = .ok (.getfield 135, 3) := by decide +kernel
theorem dX11_told_63 : decode cX11_told 63 = .ok (.ireturn, 1) := by decide +kernel
theorem dX11_told_64 : decode cX11_told 64 = .ok (.aload_n 0, 1) := by decide +kernel
theorem dX11_told_65 : decode cX11_told 65 = .ok (.getfield 10, 3) := by decide +kernel
theorem dX11_told_68 : decode cX11_told 68 = .ok (.getfield 107, 3) := by decide +kernel
theorem dX11_told_71 : decode cX11_told 71 = .ok (.ireturn, 1) := by decide +kernel
theorem dX11_told_72 : decode cX11_told 72 = .ok (.aload_n 0, 1) := by decide +kernel
theorem dX11_told_73 : decode cX11_told 73 = .ok (.getfield 26, 3) := by decide +kernel
theorem dX11_told_76 : decode cX11_told 76 = .ok (.getfield 141, 3) := by decide +kernel
theorem dX11_told_79 : decode cX11_told 79 = .ok (.ireturn, 1) := by decide +kernel
theorem dX11_told_80 : decode cX11_told 80 = .ok (.aload_n 0, 1) := by decide +kernel
theorem dX11_told_81 : decode cX11_told 81 = .ok (.getfield 26, 3) := by decide +kernel
theorem dX11_told_84 : decode cX11_told 84 = .ok (.getfield 144, 3) := by decide +kernel
theorem dX11_told_87 : decode cX11_told 87 = .ok (.ireturn, 1) := by decide +kernel
theorem dX11_told_88 : decode cX11_told 88 = .ok (.aload_n 0, 1) := by decide +kernel
theorem dX11_told_89 : decode cX11_told 89 = .ok (.getfield 26, 3) := by decide +kernel
theorem dX11_told_92 : decode cX11_told 92 = .ok (.getfield 147, 3) := by decide +kernel
theorem dX11_told_95 : decode cX11_told 95 = .ok (.ireturn, 1) := by decide +kernel
theorem dX11_told_96 : decode cX11_told 96 = .ok (.aload_n 0, 1) := by decide +kernel
theorem dX11_told_97 : decode cX11_told 97 = .ok (.getfield 19, 3) := by decide +kernel
theorem dX11_told_100 : decode cX11_told 100 = .ok (.getfield 150, 3) := by decide +kernel
theorem dX11_told_103 : decode cX11_told 103 = .ok (.ireturn, 1) := by decide +kernel
theorem dX11_told_104 : decode cX11_told 104 = .ok (.aload_n 0, 1) := by decide +kernel
theorem dX11_told_105 : decode cX11_told 105 = .ok (.getfield 26, 3) := by decide +kernel
theorem dX11_told_108 : decode cX11_told 108 = .ok (.aload_n 0, 1) := by decide +kernel
theorem dX11_told_109 : decode cX11_told 109 = .ok (.getfield 19, 3) := by decide +kernel
theorem dX11_told_112 : decode cX11_told 112 = .ok (.getfield 135, 3) := by decide +kernel
theorem dX11_told_115 : decode cX11_told 115 = .ok (.invokevirtual 153, 3) := by decide +kernel
theorem dX11_told_118 : decode cX11_told 118 = .ok (.ireturn, 1) := by decide +kernel
theorem dX11_told_119 : decode cX11_told 119 = .ok (.aload_n 0, 1) := by decide +kernel
theorem dX11_told_120 : decode cX11_told 120 = .ok (.getfield 62, 3) := by decide +kernel
theorem dX11_told_123 : decode cX11_told 123 = .ok (.getfield 131, 3) := by decide +kernel
theorem dX11_told_126 : decode cX11_told 126 = .ok (.ireturn, 1) := by decide +kernel
theorem dX11_told_127 : decode cX11_told 127 = .ok (.aload_n 0, 1) := by decide +kernel
theorem dX11_told_128 : decode cX11_told 128 = .ok (.getfield 69, 3) := by decide +kernel
theorem dX11_told_131 : decode cX11_told 131 = .ok (.getfield 132, 3) := by decide +kernel
theorem dX11_told_134 : decode cX11_told 134 = .ok (.ireturn, 1) := by decide +kernel
theorem dX11_told_135 : decode cX11_told 135 = .ok (.aload_n 0, 1) := by decide +kernel
theorem dX11_told_136 : decode cX11_told 136 = .ok (.getfield 36, 3) := by decide +kernel
theorem dX11_told_139 : decode cX11_told 139 = .ok (.getfield 125, 3) := by decide +kernel
theorem dX11_told_142 : decode cX11_told 142 = .ok (.ireturn, 1) := by decide +kernel
theorem dX11_told_143 : decode cX11_told 143 = .ok (.ldc 106, 2) := by decide +kernel
theorem dX11_told_145 : decode cX11_told 145 = .ok (.ireturn, 1) := by decide +kernel
theorem dX11_person_0 : decode cX11_person 0 = .ok (.aload_n 0, 1) := by decide +kernel
theorem dX11_person_1 : decode cX11_person 1 = .ok (.iload_n 1, 1) := by decide +kernel
theorem dX11_person_2 : decode cX11_person 2 = .ok (.invokevirtual 156, 3) := by decide +kernel
theorem dX11_person_5 : decode cX11_person 5 = .ok (.ifCond .ne 6, 3) := by decide +kernel
theorem dX11_person_8 : decode cX11_person 8 = .ok (.ldc 160, 2) := by decide +kernel
theorem dX11_person_10 : decode cX11_person 10 = .ok (.ireturn, 1) := by decide +kernel
theorem dX11_person_11 : decode cX11_person 11 = .ok (.iload_n 2, 1) := by decide +kernel
theorem dX11_person_12 : decode cX11_person 12 = .ok (.tableswitch 64 0 2 #[28, 40, 52], 28) := by decide +kernel
theorem dX11_person_40 : decode cX11_person 40 = .ok (.aload_n 0, 1) := by decide +kernel
theorem dX11_person_41 : decode cX11_person 41 = .ok (.getfield 26, 3) := by decide +kernel
theorem dX11_person_44 : decode cX11_person 44 = .ok (.getfield 161, 3) := by decide +kernel
theorem dX11_person_47 : decode cX11_person 47 = .ok (.iload_n 1, 1) := by decide +kernel
theorem dX11_person_48 : decode cX11_person 48 = .ok (.invokevirtual 164, 3) := by decide +kernel
theorem dX11_person_51 : decode cX11_person 51 = .ok (.ireturn, 1) := by decide +kernel
theorem dX11_person_52 : decode cX11_person 52 = .ok (.aload_n 0, 1) := by decide +kernel
theorem dX11_person_53 : decode cX11_person 53 = .ok (.getfield 19, 3) := by decide +kernel
theorem dX11_person_56 : decode cX11_person 56 = .ok (.getfield 167, 3) := by decide +kernel
theorem dX11_person_59 : decode cX11_person 59 = .ok (.iload_n 1, 1) := by decide +kernel
theorem dX11_person_60 : decode cX11_person 60 = .ok (.invokevirtual 164, 3) := by decide +kernel
theorem dX11_person_63 : decode cX11_person 63 = .ok (.ireturn, 1) := by decide +kernel
theorem dX11_person_64 : decode cX11_person 64 = .ok (.aload_n 0, 1) := by decide +kernel
theorem dX11_person_65 : decode cX11_person 65 = .ok (.getfield 26, 3) := by decide +kernel
theorem dX11_person_68 : decode cX11_person 68 = .ok (.getfield 170, 3) := by decide +kernel
theorem dX11_person_71 : decode cX11_person 71 = .ok (.iload_n 1, 1) := by decide +kernel
theorem dX11_person_72 : decode cX11_person 72 = .ok (.invokevirtual 164, 3) := by decide +kernel
theorem dX11_person_75 : decode cX11_person 75 = .ok (.ireturn, 1) := by decide +kernel
theorem dX11_person_76 : decode cX11_person 76 = .ok (.ldc 106, 2) := by decide +kernel
theorem dX11_person_78 : decode cX11_person 78 = .ok (.ireturn, 1) := by decide +kernel
theorem dX11_doing_0 : decode cX11_doing 0 = .ok (.iload_n 1, 1) := by decide +kernel
theorem dX11_doing_1 : decode cX11_doing 1 = .ok (.invokestatic 173, 3) := by decide +kernel
theorem dX11_doing_4 : decode cX11_doing 4 = .ok (.ifCond .ne 6, 3) := by decide +kernel
theorem dX11_doing_7 : decode cX11_doing 7 = .ok (.ldc 160, 2) := by decide +kernel
theorem dX11_doing_9 : decode cX11_doing 9 = .ok (.ireturn, 1) := by decide +kernel
theorem dX11_doing_10 : decode cX11_doing 10 = .ok (.iload_n 2, 1) := by decide +kernel
theorem dX11_doing_11 : decode cX11_doing 11 = .ok (.lookupswitch 49 #[(0, 25), (1, 37)], 25) := by decide +kernel
theorem dX11_doing_36 : decode cX11_doing 36 = .ok (.aload_n 0, 1) := by decide +kernel
theorem dX11_doing_37 : decode cX11_doing 37 = .ok (.getfield 19, 3) := by decide +kernel
theorem dX11_doing_40 : decode cX11_doing 40 = .ok (.getfield 176, 3) := by decide +kernel
theorem dX11_doing_43 : decode cX11_doing 43 = .ok (.iload_n 1, 1) := by decide +kernel
theorem dX11_doing_44 : decode cX11_doing 44 = .ok (.invokevirtual 164, 3) := by decide +kernel
theorem dX11_doing_47 : decode cX11_doing 47 = .ok (.ireturn, 1) := by decide +kernel
theorem dX11_doing_48 : decode cX11_doing 48 = .ok (.aload_n 0, 1) := by decide +kernel
theorem dX11_doing_49 : decode cX11_doing 49 = .ok (.getfield 26, 3) := by decide +kernel
theorem dX11_doing_52 : decode cX11_doing 52 = .ok (.getfield 179, 3) := by decide +kernel
theorem dX11_doing_55 : decode cX11_doing 55 = .ok (.iload_n 1, 1) := by decide +kernel
theorem dX11_doing_56 : decode cX11_doing 56 = .ok (.invokevirtual 164, 3) := by decide +kernel
theorem dX11_doing_59 : decode cX11_doing 59 = .ok (.ireturn, 1) := by decide +kernel
theorem dX11_doing_60 : decode cX11_doing 60 = .ok (.ldc 106, 2) := by decide +kernel
theorem dX11_doing_62 : decode cX11_doing 62 = .ok (.ireturn, 1) := by decide +kernel
theorem dX11_act_0 : decode cX11_act 0 = .ok (.iload_n 1, 1) := by decide +kernel
theorem dX11_act_1 : decode cX11_act 1 = .ok (.invokestatic 173, 3) := by decide +kernel
theorem dX11_act_4 : decode cX11_act 4 = .ok (.ifCond .eq 11, 3) := by decide +kernel
theorem dX11_act_7 : decode cX11_act 7 = .ok (.aload_n 0, 1) := by decide +kernel
theorem dX11_act_8 : decode cX11_act 8 = .ok (.iload_n 2, 1) := by decide +kernel
theorem dX11_act_9 : decode cX11_act 9 = .ok (.invokevirtual 156, 3) := by decide +kernel
theorem dX11_act_12 : decode cX11_act 12 = .ok (.ifCond .ne 6, 3) := by decide +kernel
theorem dX11_act_15 : decode cX11_act 15 = .ok (.ldc 160, 2) := by decide +kernel
theorem dX11_act_17 : decode cX11_act 17 = .ok (.ireturn, 1) := by decide +kernel
theorem dX11_act_18 : decode cX11_act 18 = .ok (.aload_n 0, 1) := by decide +kernel
theorem dX11_act_19 : decode cX11_act 19 = .ok (.getfield 19, 3) := by decide +kernel
theorem dX11_act_22 : decode cX11_act 22 = .ok (.getfield 176, 3) := by decide +kernel
theorem dX11_act_25 : decode cX11_act 25 = .ok (.iload_n 1, 1) := by decide +kernel
theorem dX11_act_26 : decode cX11_act 26 = .ok (.invokevirtual 164, 3) := by decide +kernel
theorem dX11_act_29 : decode cX11_act 29 = .ok (.aload_n 0, 1) := by decide +kernel
theorem dX11_act_30 : decode cX11_act 30 = .ok (.getfield 26, 3) := by decide +kernel
theorem dX11_act_33 : decode cX11_act 33 = .ok (.getfield 147, 3) := by decide +kernel
theorem dX11_act_36 : decode cX11_act 36 = .ok (.if_icmp .le 6, 3) := by decide +kernel
theorem dX11_act_39 : decode cX11_act 39 = .ok (.ldc 182, 2) := by decide +kernel
theorem dX11_act_41 : decode cX11_act 41 = .ok (.ireturn, 1) := by decide +kernel
theorem dX11_act_42 : decode cX11_act 42 = .ok (.aload_n 0, 1) := by decide +kernel
theorem dX11_act_43 : decode cX11_act 43 = .ok (.getfield 26, 3) := by decide +kernel
theorem dX11_act_46 : decode cX11_act 46 = .ok (.getfield 141, 3) := by decide +kernel
theorem dX11_act_49 : decode cX11_act 49 = .ok (.ldc 183, 2) := by decide +kernel
theorem dX11_act_51 : decode cX11_act 51 = .ok (.if_icmp .le 6, 3) := by decide +kernel
theorem dX11_act_54 : decode cX11_act 54 = .ok (.ldc 110, 2) := by decide +kernel
theorem dX11_act_56 : decode cX11_act 56 = .ok (.ireturn, 1) := by decide +kernel
theorem dX11_act_57 : decode cX11_act 57 = .ok (.aload_n 0, 1) := by decide +kernel
theorem dX11_act_58 : decode cX11_act 58 = .ok (.iload_n 1, 1) := by decide +kernel
theorem dX11_act_59 : decode cX11_act 59 = .ok (.iload_n 2, 1) := by decide +kernel
theorem dX11_act_60 : decode cX11_act 60 = .ok (.invokevirtual 184, 3) := by decide +kernel
theorem dX11_act_63 : decode cX11_act 63 = .ok (.ireturn, 1) := by decide +kernel
theorem dX11_sit_0 : decode cX11_sit 0 = .ok (.aload_n 0, 1) := by decide +kernel
theorem dX11_sit_1 : decode cX11_sit 1 = .ok (.iload_n 1, 1) := by decide +kernel
theorem dX11_sit_2 : decode cX11_sit 2 = .ok (.invokevirtual 188, 3) := by decide +kernel
theorem dX11_sit_5 : decode cX11_sit 5 = .ok (.istore_n 2, 1) := by decide +kernel
theorem dX11_sit_6 : decode cX11_sit 6 = .ok (.iload_n 2, 1) := by decide +kernel
theorem dX11_sit_7 : decode cX11_sit 7 = .ok (.ifCond .eq 5, 3) := by decide +kernel
theorem dX11_sit_10 : decode cX11_sit 10 = .ok (.iload_n 2, 1) := by decide +kernel
theorem dX11_sit_11 : decode cX11_sit 11 = .ok (.ireturn, 1) := by decide +kernel
theorem dX11_sit_12 : decode cX11_sit 12 = .ok (.iconst 0, 1) := by decide +kernel
theorem dX11_sit_13 : decode cX11_sit 13 = .ok (.istore_n 3, 1) := by decide +kernel
theorem dX11_sit_14 : decode cX11_sit 14 = .ok (.iload_n 3, 1) := by decide +kernel
theorem dX11_sit_15 : decode cX11_sit 15 = .ok (.iload_n 1, 1) := by decide +kernel
theorem dX11_sit_16 : decode cX11_sit 16 = .ok (.if_icmp .ge 16, 3) := by decide +kernel
theorem dX11_sit_19 : decode cX11_sit 19 = .ok (.aload_n 0, 1) := by decide +kernel
theorem dX11_sit_20 : decode cX11_sit 20 = .ok (.iconst (-1), 1) := by decide +kernel
theorem dX11_sit_21 : decode cX11_sit 21 = .ok (.iconst (-1), 1) := by decide +kernel
theorem dX11_sit_22 : decode cX11_sit 22 = .ok (.invokevirtual 184, 3) := by decide +kernel
theorem dX11_sit_25 : decode cX11_sit 25 = .ok (.pop, 1) := by decide +kernel
theorem dX11_sit_26 : decode cX11_sit 26 = .ok (.iinc 3 1, 3) := by decide +kernel
theorem dX11_sit_29 : decode cX11_sit 29 = .ok (.goto (-15), 3) := by decide +kernel
theorem dX11_sit_32 : decode cX11_sit 32 = .ok (.aload_n 0, 1) := by decide +kernel
theorem dX11_sit_33 : decode cX11_sit 33 = .ok (.getfield 26, 3) := by decide +kernel
theorem dX11_sit_36 : decode cX11_sit 36 = .ok (.getfield 144, 3) := by decide +kernel
theorem dX11_sit_39 : decode cX11_sit 39 = .ok (.ireturn, 1) := by decide +kernel
theorem dX11_drift_0 : decode cX11_drift 0 = .ok (.aload_n 0, 1) := by decide +kernel
theorem dX11_drift_1 : decode cX11_drift 1 = .ok (.iload_n 1, 1) := by decide +kernel
theorem dX11_drift_2 : decode cX11_drift 2 = .ok (.invokevirtual 188, 3) := by decide +kernel
theorem dX11_drift_5 : decode cX11_drift 5 = .ok (.istore_n 2, 1) := by decide +kernel
theorem dX11_drift_6 : decode cX11_drift 6 = .ok (.iload_n 2, 1) := by decide +kernel
theorem dX11_drift_7 : decode cX11_drift 7 = .ok (.ifCond .eq 5, 3) := by decide +kernel
theorem dX11_drift_10 : decode cX11_drift 10 = .ok (.iload_n 2, 1) := by decide +kernel
theorem dX11_drift_11 : decode cX11_drift 11 = .ok (.ireturn, 1) := by decide +kernel
theorem dX11_drift_12 : decode cX11_drift 12 = .ok (.iconst 0, 1) := by decide +kernel
theorem dX11_drift_13 : decode cX11_drift 13 = .ok (.istore_n 3, 1) := by decide +kernel
theorem dX11_drift_14 : decode cX11_drift 14 = .ok (.iload_n 3, 1) := by decide +kernel
theorem dX11_drift_15 : decode cX11_drift 15 = .ok (.iload_n 1, 1) := by decide +kernel
theorem dX11_drift_16 : decode cX11_drift 16 = .ok (.if_icmp .ge 13, 3) := by decide +kernel
theorem dX11_drift_19 : decode cX11_drift 19 = .ok (.aload_n 0, 1) := by decide +kernel
theorem dX11_drift_20 : decode cX11_drift 20 = .ok (.invokevirtual 191, 3) := by decide +kernel
theorem dX11_drift_23 : decode cX11_drift 23 = .ok (.iinc 3 1, 3) := by decide +kernel
theorem dX11_drift_26 : decode cX11_drift 26 = .ok (.goto (-12), 3) := by decide +kernel
theorem dX11_drift_29 : decode cX11_drift 29 = .ok (.aload_n 0, 1) := by decide +kernel
theorem dX11_drift_30 : decode cX11_drift 30 = .ok (.getfield 26, 3) := by decide +kernel
theorem dX11_drift_33 : decode cX11_drift 33 = .ok (.getfield 144, 3) := by decide +kernel
theorem dX11_drift_36 : decode cX11_drift 36 = .ok (.ireturn, 1) := by decide +kernel
theorem dX11_stack_0 : decode cX11_stack 0 = .ok (.iload_n 1, 1) := by decide +kernel
theorem dX11_stack_1 : decode cX11_stack 1 = .ok (.iconst 0, 1) := by decide +kernel
theorem dX11_stack_2 : decode cX11_stack 2 = .ok (.sipush 999, 3) := by decide +kernel
theorem dX11_stack_5 : decode cX11_stack 5 = .ok (.invokestatic 102, 3) := by decide +kernel
theorem dX11_stack_8 : decode cX11_stack 8 = .ok (.ifCond .ne 6, 3) := by decide +kernel
theorem dX11_stack_11 : decode cX11_stack 11 = .ok (.ldc 106, 2) := by decide +kernel
theorem dX11_stack_13 : decode cX11_stack 13 = .ok (.ireturn, 1) := by decide +kernel
theorem dX11_stack_14 : decode cX11_stack 14 = .ok (.aload_n 0, 1) := by decide +kernel
theorem dX11_stack_15 : decode cX11_stack 15 = .ok (.getfield 26, 3) := by decide +kernel
theorem dX11_stack_18 : decode cX11_stack 18 = .ok (.sipush 9999, 3) := by decide +kernel
theorem dX11_stack_21 : decode cX11_stack 21 = .ok (.aload_n 0, 1) := by decide +kernel
theorem dX11_stack_22 : decode cX11_stack 22 = .ok (.getfield 26, 3) := by decide +kernel
theorem dX11_stack_25 : decode cX11_stack 25 = .ok (.getfield 147, 3) := by decide +kernel
theorem dX11_stack_28 : decode cX11_stack 28 = .ok (.iload_n 1, 1) := by decide +kernel
theorem dX11_stack_29 : decode cX11_stack 29 = .ok (.iadd, 1) := by decide +kernel
theorem dX11_stack_30 : decode cX11_stack 30 = .ok (.invokestatic 194, 3) := by decide +kernel
theorem dX11_stack_33 : decode cX11_stack 33 = .ok (.putfield 147, 3) := by decide +kernel
theorem dX11_stack_36 : decode cX11_stack 36 = .ok (.aload_n 0, 1) := by decide +kernel
theorem dX11_stack_37 : decode cX11_stack 37 = .ok (.getfield 26, 3) := by decide +kernel
theorem dX11_stack_40 : decode cX11_stack 40 = .ok (.getfield 147, 3) := by decide +kernel
theorem dX11_stack_43 : decode cX11_stack 43 = .ok (.ireturn, 1) := by decide +kernel
theorem dX11_law_0 : decode cX11_law 0 = .ok (.iload_n 1, 1) := by decide +kernel
theorem dX11_law_1 : decode cX11_law 1 = .ok (.invokestatic 173, 3) := by decide +kernel
theorem dX11_law_4 : decode cX11_law 4 = .ok (.ifCond .eq 13, 3) := by decide +kernel
theorem dX11_law_7 : decode cX11_law 7 = .ok (.iload_n 2, 1) := by decide +kernel
theorem dX11_law_8 : decode cX11_law 8 = .ok (.iconst 0, 1) := by decide +kernel
theorem dX11_law_9 : decode cX11_law 9 = .ok (.bipush 6, 2) := by decide +kernel
theorem dX11_law_11 : decode cX11_law 11 = .ok (.invokestatic 102, 3) := by decide +kernel
theorem dX11_law_14 : decode cX11_law 14 = .ok (.ifCond .ne 6, 3) := by decide +kernel
theorem dX11_law_17 : decode cX11_law 17 = .ok (.ldc 160, 2) := by decide +kernel
theorem dX11_law_19 : decode cX11_law 19 = .ok (.ireturn, 1) := by decide +kernel
theorem dX11_law_20 : decode cX11_law 20 = .ok (.aload_n 0, 1) := by decide +kernel
theorem dX11_law_21 : decode cX11_law 21 = .ok (.getfield 26, 3) := by decide +kernel
theorem dX11_law_24 : decode cX11_law 24 = .ok (.getfield 179, 3) := by decide +kernel
theorem dX11_law_27 : decode cX11_law 27 = .ok (.iload_n 1, 1) := by decide +kernel
theorem dX11_law_28 : decode cX11_law 28 = .ok (.invokevirtual 164, 3) := by decide +kernel
theorem dX11_law_31 : decode cX11_law 31 = .ok (.istore_n 3, 1) := by decide +kernel
theorem dX11_law_32 : decode cX11_law 32 = .ok (.aload_n 0, 1) := by decide +kernel
theorem dX11_law_33 : decode cX11_law 33 = .ok (.getfield 26, 3) := by decide +kernel
theorem dX11_law_36 : decode cX11_law 36 = .ok (.getfield 179, 3) := by decide +kernel
theorem dX11_law_39 : decode cX11_law 39 = .ok (.iload_n 1, 1) := by decide +kernel
theorem dX11_law_40 : decode cX11_law 40 = .ok (.iload_n 2, 1) := by decide +kernel
theorem dX11_law_41 : decode cX11_law 41 = .ok (.invokevirtual 199, 3) := by decide +kernel
theorem dX11_law_44 : decode cX11_law 44 = .ok (.iload_n 3, 1) := by decide +kernel
theorem dX11_law_45 : decode cX11_law 45 = .ok (.ireturn, 1) := by decide +kernel
theorem dX11_undo_0 : decode cX11_undo 0 = .ok (.iload_n 1, 1) := by decide +kernel
theorem dX11_undo_1 : decode cX11_undo 1 = .ok (.iconst 1, 1) := by decide +kernel
theorem dX11_undo_2 : decode cX11_undo 2 = .ok (.bipush 30, 2) := by decide +kernel
theorem dX11_undo_4 : decode cX11_undo 4 = .ok (.invokestatic 102, 3) := by decide +kernel
theorem dX11_undo_7 : decode cX11_undo 7 = .ok (.ifCond .ne 6, 3) := by decide +kernel
theorem dX11_undo_10 : decode cX11_undo 10 = .ok (.ldc 106, 2) := by decide +kernel
theorem dX11_undo_12 : decode cX11_undo 12 = .ok (.ireturn, 1) := by decide +kernel
theorem dX11_undo_13 : decode cX11_undo 13 = .ok (.aload_n 0, 1) := by decide +kernel
theorem dX11_undo_14 : decode cX11_undo 14 = .ok (.getfield 36, 3) := by decide +kernel
theorem dX11_undo_17 : decode cX11_undo 17 = .ok (.getfield 125, 3) := by decide +kernel
theorem dX11_undo_20 : decode cX11_undo 20 = .ok (.iload_n 1, 1) := by decide +kernel
theorem dX11_undo_21 : decode cX11_undo 21 = .ok (.if_icmp .ge 6, 3) := by decide +kernel
theorem dX11_undo_24 : decode cX11_undo 24 = .ok (.ldc 182, 2) := by decide +kernel
theorem dX11_undo_26 : decode cX11_undo 26 = .ok (.ireturn, 1) := by decide +kernel
theorem dX11_undo_27 : decode cX11_undo 27 = .ok (.aload_n 0, 1) := by decide +kernel
theorem dX11_undo_28 : decode cX11_undo 28 = .ok (.getfield 26, 3) := by decide +kernel
theorem dX11_undo_31 : decode cX11_undo 31 = .ok (.aload_n 0, 1) := by decide +kernel
theorem dX11_undo_32 : decode cX11_undo 32 = .ok (.getfield 36, 3) := by decide +kernel
theorem dX11_undo_35 : decode cX11_undo 35 = .ok (.iload_n 1, 1) := by decide +kernel
theorem dX11_undo_36 : decode cX11_undo 36 = .ok (.invokevirtual 203, 3) := by decide +kernel
theorem dX11_undo_39 : decode cX11_undo 39 = .ok (.invokevirtual 207, 3) := by decide +kernel
theorem dX11_undo_42 : decode cX11_undo 42 = .ok (.aload_n 0, 1) := by decide +kernel
theorem dX11_undo_43 : decode cX11_undo 43 = .ok (.getfield 26, 3) := by decide +kernel
theorem dX11_undo_46 : decode cX11_undo 46 = .ok (.getfield 141, 3) := by decide +kernel
theorem dX11_undo_49 : decode cX11_undo 49 = .ok (.ireturn, 1) := by decide +kernel
theorem dX11_freezes_0 : decode cX11_freezes 0 = .ok (.iload_n 1, 1) := by decide +kernel
theorem dX11_freezes_1 : decode cX11_freezes 1 = .ok (.iconst 0, 1) := by decide +kernel
theorem dX11_freezes_2 : decode cX11_freezes 2 = .ok (.iconst 1, 1) := by decide +kernel
theorem dX11_freezes_3 : decode cX11_freezes 3 = .ok (.invokestatic 102, 3) := by decide +kernel
theorem dX11_freezes_6 : decode cX11_freezes 6 = .ok (.ifCond .ne 6, 3) := by decide +kernel
theorem dX11_freezes_9 : decode cX11_freezes 9 = .ok (.ldc 106, 2) := by decide +kernel
theorem dX11_freezes_11 : decode cX11_freezes 11 = .ok (.ireturn, 1) := by decide +kernel
theorem dX11_freezes_12 : decode cX11_freezes 12 = .ok (.iconst (-1), 1) := by decide +kernel
theorem dX11_freezes_13 : decode cX11_freezes 13 = .ok (.istore_n 2, 1) := by decide +kernel
theorem dX11_freezes_14 : decode cX11_freezes 14 = .ok (.iconst (-1), 1) := by decide +kernel
theorem dX11_freezes_15 : decode cX11_freezes 15 = .ok (.istore_n 3, 1) := by decide +kernel
theorem dX11_freezes_16 : decode cX11_freezes 16 = .ok (.iconst 0, 1) := by decide +kernel
theorem dX11_freezes_17 : decode cX11_freezes 17 = .ok (.istore 4, 2) := by decide +kernel
theorem dX11_freezes_19 : decode cX11_freezes 19 = .ok (.iload 4, 2) := by decide +kernel
theorem dX11_freezes_21 : decode cX11_freezes 21 = .ok (.aload_n 0, 1) := by decide +kernel
theorem dX11_freezes_22 : decode cX11_freezes 22 = .ok (.getfield 19, 3) := by decide +kernel
theorem dX11_freezes_25 : decode cX11_freezes 25 = .ok (.getfield 135, 3) := by decide +kernel
theorem dX11_freezes_28 : decode cX11_freezes 28 = .ok (.if_icmp .ge 40, 3) := by decide +kernel
theorem dX11_freezes_31 : decode cX11_freezes 31 = .ok (.aload_n 0, 1) := by decide +kernel
theorem dX11_freezes_32 : decode cX11_freezes 32 = .ok (.iload 4, 2) := by decide +kernel
theorem dX11_freezes_34 : decode cX11_freezes 34 = .ok (.invokevirtual 210, 3) := by decide +kernel
theorem dX11_freezes_37 : decode cX11_freezes 37 = .ok (.istore 5, 2) := by decide +kernel
theorem dX11_freezes_39 : decode cX11_freezes 39 = .ok (.iload 5, 2) := by decide +kernel
theorem dX11_freezes_41 : decode cX11_freezes 41 = .ok (.iconst (-1), 1) := by decide +kernel
theorem dX11_freezes_42 : decode cX11_freezes 42 = .ok (.if_icmp .eq 20, 3) := by decide +kernel
theorem dX11_freezes_45 : decode cX11_freezes 45 = .ok (.iload_n 2, 1) := by decide +kernel
theorem dX11_freezes_46 : decode cX11_freezes 46 = .ok (.iconst (-1), 1) := by decide +kernel
theorem dX11_freezes_47 : decode cX11_freezes 47 = .ok (.if_icmp .eq 9, 3) := by decide +kernel
theorem dX11_freezes_50 : decode cX11_freezes 50 = .ok (.iload 5, 2) := by decide +kernel
theorem dX11_freezes_52 : decode cX11_freezes 52 = .ok (.iload_n 2, 1) := by decide +kernel
theorem dX11_freezes_53 : decode cX11_freezes 53 = .ok (.if_icmp .ge 9, 3) := by decide +kernel
theorem dX11_freezes_56 : decode cX11_freezes 56 = .ok (.iload 5, 2) := by decide +kernel
theorem dX11_freezes_58 : decode cX11_freezes 58 = .ok (.istore_n 2, 1) := by decide +kernel
theorem dX11_freezes_59 : decode cX11_freezes 59 = .ok (.iload 4, 2) := by decide +kernel
theorem dX11_freezes_61 : decode cX11_freezes 61 = .ok (.istore_n 3, 1) := by decide +kernel
theorem dX11_freezes_62 : decode cX11_freezes 62 = .ok (.iinc 4 1, 3) := by decide +kernel
theorem dX11_freezes_65 : decode cX11_freezes 65 = .ok (.goto (-46), 3) := by decide +kernel
theorem dX11_freezes_68 : decode cX11_freezes 68 = .ok (.iload_n 1, 1) := by decide +kernel
theorem dX11_freezes_69 : decode cX11_freezes 69 = .ok (.ifCond .ne 7, 3) := by decide +kernel
theorem dX11_freezes_72 : decode cX11_freezes 72 = .ok (.iload_n 2, 1) := by decide +kernel
theorem dX11_freezes_73 : decode cX11_freezes 73 = .ok (.goto 4, 3) := by decide +kernel
theorem dX11_freezes_76 : decode cX11_freezes 76 = .ok (.iload_n 3, 1) := by decide +kernel
theorem dX11_freezes_77 : decode cX11_freezes 77 = .ok (.ireturn, 1) := by decide +kernel
theorem dX11_favour_0 : decode cX11_favour 0 = .ok (.aload_n 0, 1) := by decide +kernel
theorem dX11_favour_1 : decode cX11_favour 1 = .ok (.iload_n 1, 1) := by decide +kernel
theorem dX11_favour_2 : decode cX11_favour 2 = .ok (.invokevirtual 156, 3) := by decide +kernel
theorem dX11_favour_5 : decode cX11_favour 5 = .ok (.ifCond .ne 6, 3) := by decide +kernel
theorem dX11_favour_8 : decode cX11_favour 8 = .ok (.ldc 160, 2) := by decide +kernel
theorem dX11_favour_10 : decode cX11_favour 10 = .ok (.ireturn, 1) := by decide +kernel
theorem dX11_favour_11 : decode cX11_favour 11 = .ok (.iload_n 2, 1) := by decide +kernel
theorem dX11_favour_12 : decode cX11_favour 12 = .ok (.iconst 1, 1) := by decide +kernel
theorem dX11_favour_13 : decode cX11_favour 13 = .ok (.iconst 3, 1) := by decide +kernel
theorem dX11_favour_14 : decode cX11_favour 14 = .ok (.invokestatic 102, 3) := by decide +kernel
theorem dX11_favour_17 : decode cX11_favour 17 = .ok (.ifCond .ne 6, 3) := by decide +kernel
theorem dX11_favour_20 : decode cX11_favour 20 = .ok (.ldc 106, 2) := by decide +kernel
theorem dX11_favour_22 : decode cX11_favour 22 = .ok (.ireturn, 1) := by decide +kernel
theorem dX11_favour_23 : decode cX11_favour 23 = .ok (.aload_n 0, 1) := by decide +kernel
theorem dX11_favour_24 : decode cX11_favour 24 = .ok (.getfield 76, 3) := by decide +kernel
theorem dX11_favour_27 : decode cX11_favour 27 = .ok (.aload_n 0, 1) := by decide +kernel
theorem dX11_favour_28 : decode cX11_favour 28 = .ok (.getfield 19, 3) := by decide +kernel
theorem dX11_favour_31 : decode cX11_favour 31 = .ok (.aload_n 0, 1) := by decide +kernel
theorem dX11_favour_32 : decode cX11_favour 32 = .ok (.getfield 26, 3) := by decide +kernel
theorem dX11_favour_35 : decode cX11_favour 35 = .ok (.iload_n 2, 1) := by decide +kernel
theorem dX11_favour_36 : decode cX11_favour 36 = .ok (.iload_n 1, 1) := by decide +kernel
theorem dX11_favour_37 : decode cX11_favour 37 = .ok (.invokevirtual 213, 3) := by decide +kernel
theorem dX11_favour_40 : decode cX11_favour 40 = .ok (.aload_n 0, 1) := by decide +kernel
theorem dX11_favour_41 : decode cX11_favour 41 = .ok (.getfield 76, 3) := by decide +kernel
theorem dX11_favour_44 : decode cX11_favour 44 = .ok (.iload_n 3, 1) := by decide +kernel
theorem dX11_favour_45 : decode cX11_favour 45 = .ok (.invokevirtual 217, 3) := by decide +kernel
theorem dX11_favour_48 : decode cX11_favour 48 = .ok (.ireturn, 1) := by decide +kernel
theorem dX11_allWarm_0 : decode cX11_allWarm 0 = .ok (.iload_n 1, 1) := by decide +kernel
theorem dX11_allWarm_1 : decode cX11_allWarm 1 = .ok (.iconst 1, 1) := by decide +kernel
theorem dX11_allWarm_2 : decode cX11_allWarm 2 = .ok (.iconst 3, 1) := by decide +kernel
theorem dX11_allWarm_3 : decode cX11_allWarm 3 = .ok (.invokestatic 102, 3) := by decide +kernel
theorem dX11_allWarm_6 : decode cX11_allWarm 6 = .ok (.ifCond .ne 6, 3) := by decide +kernel
theorem dX11_allWarm_9 : decode cX11_allWarm 9 = .ok (.ldc 106, 2) := by decide +kernel
theorem dX11_allWarm_11 : decode cX11_allWarm 11 = .ok (.ireturn, 1) := by decide +kernel
theorem dX11_allWarm_12 : decode cX11_allWarm 12 = .ok (.aload_n 0, 1) := by decide +kernel
theorem dX11_allWarm_13 : decode cX11_allWarm 13 = .ok (.getfield 19, 3) := by decide +kernel
theorem dX11_allWarm_16 : decode cX11_allWarm 16 = .ok (.getfield 135, 3) := by decide +kernel
theorem dX11_allWarm_19 : decode cX11_allWarm 19 = .ok (.ifCond .ne 6, 3) := by decide +kernel
theorem dX11_allWarm_22 : decode cX11_allWarm 22 = .ok (.ldc 182, 2) := by decide +kernel
theorem dX11_allWarm_24 : decode cX11_allWarm 24 = .ok (.ireturn, 1) := by decide +kernel
theorem dX11_allWarm_25 : decode cX11_allWarm 25 = .ok (.aload_n 0, 1) := by decide +kernel
theorem dX11_allWarm_26 : decode cX11_allWarm 26 = .ok (.getfield 76, 3) := by decide +kernel
theorem dX11_allWarm_29 : decode cX11_allWarm 29 = .ok (.aload_n 0, 1) := by decide +kernel
theorem dX11_allWarm_30 : decode cX11_allWarm 30 = .ok (.getfield 19, 3) := by decide +kernel
theorem dX11_allWarm_33 : decode cX11_allWarm 33 = .ok (.aload_n 0, 1) := by decide +kernel
theorem dX11_allWarm_34 : decode cX11_allWarm 34 = .ok (.getfield 26, 3) := by decide +kernel
theorem dX11_allWarm_37 : decode cX11_allWarm 37 = .ok (.iload_n 1, 1) := by decide +kernel
theorem dX11_allWarm_38 : decode cX11_allWarm 38 = .ok (.iconst (-1), 1) := by decide +kernel
theorem dX11_allWarm_39 : decode cX11_allWarm 39 = .ok (.invokevirtual 213, 3) := by decide +kernel
theorem dX11_allWarm_42 : decode cX11_allWarm 42 = .ok (.aload_n 0, 1) := by decide +kernel
theorem dX11_allWarm_43 : decode cX11_allWarm 43 = .ok (.getfield 76, 3) := by decide +kernel
theorem dX11_allWarm_46 : decode cX11_allWarm 46 = .ok (.iload_n 2, 1) := by decide +kernel
theorem dX11_allWarm_47 : decode cX11_allWarm 47 = .ok (.invokevirtual 217, 3) := by decide +kernel
theorem dX11_allWarm_50 : decode cX11_allWarm 50 = .ok (.ireturn, 1) := by decide +kernel
theorem dX11_duel_0 : decode cX11_duel 0 = .ok (.aload_n 0, 1) := by decide +kernel
theorem dX11_duel_1 : decode cX11_duel 1 = .ok (.iload_n 1, 1) := by decide +kernel
theorem dX11_duel_2 : decode cX11_duel 2 = .ok (.invokevirtual 156, 3) := by decide +kernel
theorem dX11_duel_5 : decode cX11_duel 5 = .ok (.ifCond .eq 16, 3) := by decide +kernel
theorem dX11_duel_8 : decode cX11_duel 8 = .ok (.aload_n 0, 1) := by decide +kernel
theorem dX11_duel_9 : decode cX11_duel 9 = .ok (.iload_n 2, 1) := by decide +kernel
theorem dX11_duel_10 : decode cX11_duel 10 = .ok (.invokevirtual 156, 3) := by decide +kernel
theorem dX11_duel_13 : decode cX11_duel 13 = .ok (.ifCond .eq 8, 3) := by decide +kernel
theorem dX11_duel_16 : decode cX11_duel 16 = .ok (.iload_n 1, 1) := by decide +kernel
theorem dX11_duel_17 : decode cX11_duel 17 = .ok (.iload_n 2, 1) := by decide +kernel
theorem dX11_duel_18 : decode cX11_duel 18 = .ok (.if_icmp .ne 6, 3) := by decide +kernel
theorem dX11_duel_21 : decode cX11_duel 21 = .ok (.ldc 160, 2) := by decide +kernel
theorem dX11_duel_23 : decode cX11_duel 23 = .ok (.ireturn, 1) := by decide +kernel
theorem dX11_duel_24 : decode cX11_duel 24 = .ok (.iload_n 3, 1) := by decide +kernel
theorem dX11_duel_25 : decode cX11_duel 25 = .ok (.iconst 1, 1) := by decide +kernel
theorem dX11_duel_26 : decode cX11_duel 26 = .ok (.iconst 4, 1) := by decide +kernel
theorem dX11_duel_27 : decode cX11_duel 27 = .ok (.invokestatic 102, 3) := by decide +kernel
theorem dX11_duel_30 : decode cX11_duel 30 = .ok (.ifCond .eq 13, 3) := by decide +kernel
theorem dX11_duel_33 : decode cX11_duel 33 = .ok (.iload 4, 2) := by decide +kernel
theorem dX11_duel_35 : decode cX11_duel 35 = .ok (.iconst 0, 1) := by decide +kernel
theorem dX11_duel_36 : decode cX11_duel 36 = .ok (.iconst 1, 1) := by decide +kernel
theorem dX11_duel_37 : decode cX11_duel 37 = .ok (.invokestatic 102, 3) := by decide +kernel
theorem dX11_duel_40 : decode cX11_duel 40 = .ok (.ifCond .ne 6, 3) := by decide +kernel
theorem dX11_duel_43 : decode cX11_duel 43 = .ok (.ldc 106, 2) := by decide +kernel
theorem dX11_duel_45 : decode cX11_duel 45 = .ok (.ireturn, 1) := by decide +kernel
theorem dX11_duel_46 : decode cX11_duel 46 = .ok (.aload_n 0, 1) := by decide +kernel
theorem dX11_duel_47 : decode cX11_duel 47 = .ok (.getfield 83, 3) := by decide +kernel
theorem dX11_duel_50 : decode cX11_duel 50 = .ok (.aload_n 0, 1) := by decide +kernel
theorem dX11_duel_51 : decode cX11_duel 51 = .ok (.getfield 19, 3) := by decide +kernel
theorem dX11_duel_54 : decode cX11_duel 54 = .ok (.aload_n 0, 1) := by decide +kernel
theorem dX11_duel_55 : decode cX11_duel 55 = .ok (.getfield 26, 3) := by decide +kernel
theorem dX11_duel_58 : decode cX11_duel 58 = .ok (.iload_n 1, 1) := by decide +kernel
theorem dX11_duel_59 : decode cX11_duel 59 = .ok (.iload_n 2, 1) := by decide +kernel
theorem dX11_duel_60 : decode cX11_duel 60 = .ok (.iload_n 3, 1) := by decide +kernel
theorem dX11_duel_61 : decode cX11_duel 61 = .ok (.invokevirtual 220, 3) := by decide +kernel
theorem dX11_duel_64 : decode cX11_duel 64 = .ok (.iload 4, 2) := by decide +kernel
theorem dX11_duel_66 : decode cX11_duel 66 = .ok (.ifCond .ne 13, 3) := by decide +kernel
theorem dX11_duel_69 : decode cX11_duel 69 = .ok (.aload_n 0, 1) := by decide +kernel
theorem dX11_duel_70 : decode cX11_duel 70 = .ok (.getfield 83, 3) := by decide +kernel
theorem dX11_duel_73 : decode cX11_duel 73 = .ok (.getfield 224, 3) := by decide +kernel
theorem dX11_duel_76 : decode cX11_duel 76 = .ok (.goto 10, 3) := by decide +kernel
theorem dX11_duel_79 : decode cX11_duel 79 = .ok (.aload_n 0, 1) := by decide +kernel
theorem dX11_duel_80 : decode cX11_duel 80 = .ok (.getfield 83, 3) := by decide +kernel
theorem dX11_duel_83 : decode cX11_duel 83 = .ok (.getfield 227, 3) := by decide +kernel
theorem dX11_duel_86 : decode cX11_duel 86 = .ok (.ireturn, 1) := by decide +kernel
theorem dX11_forEver_0 : decode cX11_forEver 0 = .ok (.iload_n 1, 1) := by decide +kernel
theorem dX11_forEver_1 : decode cX11_forEver 1 = .ok (.iconst (-1), 1) := by decide +kernel
theorem dX11_forEver_2 : decode cX11_forEver 2 = .ok (.if_icmp .eq 14, 3) := by decide +kernel
theorem dX11_forEver_5 : decode cX11_forEver 5 = .ok (.aload_n 0, 1) := by decide +kernel
theorem dX11_forEver_6 : decode cX11_forEver 6 = .ok (.iload_n 1, 1) := by decide +kernel
theorem dX11_forEver_7 : decode cX11_forEver 7 = .ok (.invokevirtual 156, 3) := by decide +kernel
theorem dX11_forEver_10 : decode cX11_forEver 10 = .ok (.ifCond .ne 6, 3) := by decide +kernel
theorem dX11_forEver_13 : decode cX11_forEver 13 = .ok (.ldc 160, 2) := by decide +kernel
theorem dX11_forEver_15 : decode cX11_forEver 15 = .ok (.ireturn, 1) := by decide +kernel
theorem dX11_forEver_16 : decode cX11_forEver 16 = .ok (.aload_n 0, 1) := by decide +kernel
theorem dX11_forEver_17 : decode cX11_forEver 17 = .ok (.getfield 19, 3) := by decide +kernel
theorem dX11_forEver_20 : decode cX11_forEver 20 = .ok (.getfield 135, 3) := by decide +kernel
theorem dX11_forEver_23 : decode cX11_forEver 23 = .ok (.ifCond .ne 6, 3) := by decide +kernel
theorem dX11_forEver_26 : decode cX11_forEver 26 = .ok (.ldc 182, 2) := by decide +kernel
theorem dX11_forEver_28 : decode cX11_forEver 28 = .ok (.ireturn, 1) := by decide +kernel
theorem dX11_forEver_29 : decode cX11_forEver 29 = .ok (.aload_n 0, 1) := by decide +kernel
theorem dX11_forEver_30 : decode cX11_forEver 30 = .ok (.getfield 90, 3) := by decide +kernel
theorem dX11_forEver_33 : decode cX11_forEver 33 = .ok (.aload_n 0, 1) := by decide +kernel
theorem dX11_forEver_34 : decode cX11_forEver 34 = .ok (.getfield 19, 3) := by decide +kernel
theorem dX11_forEver_37 : decode cX11_forEver 37 = .ok (.getfield 135, 3) := by decide +kernel
theorem dX11_forEver_40 : decode cX11_forEver 40 = .ok (.aload_n 0, 1) := by decide +kernel
theorem dX11_forEver_41 : decode cX11_forEver 41 = .ok (.getfield 26, 3) := by decide +kernel
theorem dX11_forEver_44 : decode cX11_forEver 44 = .ok (.aload_n 0, 1) := by decide +kernel
theorem dX11_forEver_45 : decode cX11_forEver 45 = .ok (.getfield 69, 3) := by decide +kernel
theorem dX11_forEver_48 : decode cX11_forEver 48 = .ok (.invokevirtual 230, 3) := by decide +kernel
theorem dX11_forEver_51 : decode cX11_forEver 51 = .ok (.iload_n 1, 1) := by decide +kernel
theorem dX11_forEver_52 : decode cX11_forEver 52 = .ok (.iconst (-1), 1) := by decide +kernel
theorem dX11_forEver_53 : decode cX11_forEver 53 = .ok (.if_icmp .eq 14, 3) := by decide +kernel
theorem dX11_forEver_56 : decode cX11_forEver 56 = .ok (.aload_n 0, 1) := by decide +kernel
theorem dX11_forEver_57 : decode cX11_forEver 57 = .ok (.getfield 90, 3) := by decide +kernel
theorem dX11_forEver_60 : decode cX11_forEver 60 = .ok (.getfield 234, 3) := by decide +kernel
theorem dX11_forEver_63 : decode cX11_forEver 63 = .ok (.iconst (-1), 1) := by decide +kernel
theorem dX11_forEver_64 : decode cX11_forEver 64 = .ok (.if_icmp .ne 11, 3) := by decide +kernel
theorem dX11_forEver_67 : decode cX11_forEver 67 = .ok (.aload_n 0, 1) := by decide +kernel
theorem dX11_forEver_68 : decode cX11_forEver 68 = .ok (.getfield 90, 3) := by decide +kernel
theorem dX11_forEver_71 : decode cX11_forEver 71 = .ok (.getfield 234, 3) := by decide +kernel
theorem dX11_forEver_74 : decode cX11_forEver 74 = .ok (.ireturn, 1) := by decide +kernel
theorem dX11_forEver_75 : decode cX11_forEver 75 = .ok (.aload_n 0, 1) := by decide +kernel
theorem dX11_forEver_76 : decode cX11_forEver 76 = .ok (.getfield 90, 3) := by decide +kernel
theorem dX11_forEver_79 : decode cX11_forEver 79 = .ok (.iload_n 1, 1) := by decide +kernel
theorem dX11_forEver_80 : decode cX11_forEver 80 = .ok (.invokevirtual 237, 3) := by decide +kernel
theorem dX11_forEver_83 : decode cX11_forEver 83 = .ok (.ireturn, 1) := by decide +kernel
theorem dX11_fair_0 : decode cX11_fair 0 = .ok (.aload_n 0, 1) := by decide +kernel
theorem dX11_fair_1 : decode cX11_fair 1 = .ok (.getfield 19, 3) := by decide +kernel
theorem dX11_fair_4 : decode cX11_fair 4 = .ok (.getfield 135, 3) := by decide +kernel
theorem dX11_fair_7 : decode cX11_fair 7 = .ok (.ifCond .ne 6, 3) := by decide +kernel
theorem dX11_fair_10 : decode cX11_fair 10 = .ok (.ldc 182, 2) := by decide +kernel
theorem dX11_fair_12 : decode cX11_fair 12 = .ok (.ireturn, 1) := by decide +kernel
theorem dX11_fair_13 : decode cX11_fair 13 = .ok (.aload_n 0, 1) := by decide +kernel
theorem dX11_fair_14 : decode cX11_fair 14 = .ok (.getfield 90, 3) := by decide +kernel
theorem dX11_fair_17 : decode cX11_fair 17 = .ok (.aload_n 0, 1) := by decide +kernel
theorem dX11_fair_18 : decode cX11_fair 18 = .ok (.getfield 19, 3) := by decide +kernel
theorem dX11_fair_21 : decode cX11_fair 21 = .ok (.getfield 135, 3) := by decide +kernel
theorem dX11_fair_24 : decode cX11_fair 24 = .ok (.aload_n 0, 1) := by decide +kernel
theorem dX11_fair_25 : decode cX11_fair 25 = .ok (.getfield 26, 3) := by decide +kernel
theorem dX11_fair_28 : decode cX11_fair 28 = .ok (.aload_n 0, 1) := by decide +kernel
theorem dX11_fair_29 : decode cX11_fair 29 = .ok (.getfield 69, 3) := by decide +kernel
theorem dX11_fair_32 : decode cX11_fair 32 = .ok (.invokevirtual 230, 3) := by decide +kernel
theorem dX11_fair_35 : decode cX11_fair 35 = .ok (.aload_n 0, 1) := by decide +kernel
theorem dX11_fair_36 : decode cX11_fair 36 = .ok (.getfield 90, 3) := by decide +kernel
theorem dX11_fair_39 : decode cX11_fair 39 = .ok (.getfield 234, 3) := by decide +kernel
theorem dX11_fair_42 : decode cX11_fair 42 = .ok (.iconst (-1), 1) := by decide +kernel
theorem dX11_fair_43 : decode cX11_fair 43 = .ok (.if_icmp .ne 7, 3) := by decide +kernel
theorem dX11_fair_46 : decode cX11_fair 46 = .ok (.iconst (-1), 1) := by decide +kernel
theorem dX11_fair_47 : decode cX11_fair 47 = .ok (.goto 17, 3) := by decide +kernel
theorem dX11_fair_50 : decode cX11_fair 50 = .ok (.aload_n 0, 1) := by decide +kernel
theorem dX11_fair_51 : decode cX11_fair 51 = .ok (.getfield 90, 3) := by decide +kernel
theorem dX11_fair_54 : decode cX11_fair 54 = .ok (.aload_n 0, 1) := by decide +kernel
theorem dX11_fair_55 : decode cX11_fair 55 = .ok (.getfield 19, 3) := by decide +kernel
theorem dX11_fair_58 : decode cX11_fair 58 = .ok (.getfield 135, 3) := by decide +kernel
theorem dX11_fair_61 : decode cX11_fair 61 = .ok (.invokevirtual 240, 3) := by decide +kernel
theorem dX11_fair_64 : decode cX11_fair 64 = .ok (.ireturn, 1) := by decide +kernel
theorem dX11_left_0 : decode cX11_left 0 = .ok (.aload_n 0, 1) := by decide +kernel
theorem dX11_left_1 : decode cX11_left 1 = .ok (.iload_n 1, 1) := by decide +kernel
theorem dX11_left_2 : decode cX11_left 2 = .ok (.invokevirtual 156, 3) := by decide +kernel
theorem dX11_left_5 : decode cX11_left 5 = .ok (.ifCond .ne 6, 3) := by decide +kernel
theorem dX11_left_8 : decode cX11_left 8 = .ok (.ldc 160, 2) := by decide +kernel
theorem dX11_left_10 : decode cX11_left 10 = .ok (.ireturn, 1) := by decide +kernel
theorem dX11_left_11 : decode cX11_left 11 = .ok (.iconst 0, 1) := by decide +kernel
theorem dX11_left_12 : decode cX11_left 12 = .ok (.istore_n 3, 1) := by decide +kernel
theorem dX11_left_13 : decode cX11_left 13 = .ok (.iconst 0, 1) := by decide +kernel
theorem dX11_left_14 : decode cX11_left 14 = .ok (.istore 4, 2) := by decide +kernel
theorem dX11_left_16 : decode cX11_left 16 = .ok (.iload 4, 2) := by decide +kernel
theorem dX11_left_18 : decode cX11_left 18 = .ok (.bipush 6, 2) := by decide +kernel
theorem dX11_left_20 : decode cX11_left 20 = .ok (.if_icmp .ge 69, 3) := by decide +kernel
theorem dX11_left_23 : decode cX11_left 23 = .ok (.iconst 0, 1) := by decide +kernel
theorem dX11_left_24 : decode cX11_left 24 = .ok (.istore 5, 2) := by decide +kernel
theorem dX11_left_26 : decode cX11_left 26 = .ok (.iload 5, 2) := by decide +kernel
theorem dX11_left_28 : decode cX11_left 28 = .ok (.aload_n 0, 1) := by decide +kernel
theorem dX11_left_29 : decode cX11_left 29 = .ok (.getfield 19, 3) := by decide +kernel
theorem dX11_left_32 : decode cX11_left 32 = .ok (.getfield 135, 3) := by decide +kernel
theorem dX11_left_35 : decode cX11_left 35 = .ok (.if_icmp .ge 48, 3) := by decide +kernel
theorem dX11_left_38 : decode cX11_left 38 = .ok (.aload_n 0, 1) := by decide +kernel
theorem dX11_left_39 : decode cX11_left 39 = .ok (.getfield 26, 3) := by decide +kernel
theorem dX11_left_42 : decode cX11_left 42 = .ok (.iload 4, 2) := by decide +kernel
theorem dX11_left_44 : decode cX11_left 44 = .ok (.iload 5, 2) := by decide +kernel
theorem dX11_left_46 : decode cX11_left 46 = .ok (.aload_n 0, 1) := by decide +kernel
theorem dX11_left_47 : decode cX11_left 47 = .ok (.getfield 19, 3) := by decide +kernel
theorem dX11_left_50 : decode cX11_left 50 = .ok (.getfield 135, 3) := by decide +kernel
theorem dX11_left_53 : decode cX11_left 53 = .ok (.invokevirtual 243, 3) := by decide +kernel
theorem dX11_left_56 : decode cX11_left 56 = .ok (.iload_n 1, 1) := by decide +kernel
theorem dX11_left_57 : decode cX11_left 57 = .ok (.if_icmp .ne 20, 3) := by decide +kernel
theorem dX11_left_60 : decode cX11_left 60 = .ok (.iload_n 3, 1) := by decide +kernel
theorem dX11_left_61 : decode cX11_left 61 = .ok (.iload_n 2, 1) := by decide +kernel
theorem dX11_left_62 : decode cX11_left 62 = .ok (.if_icmp .ne 12, 3) := by decide +kernel
theorem dX11_left_65 : decode cX11_left 65 = .ok (.bipush 10, 2) := by decide +kernel
theorem dX11_left_67 : decode cX11_left 67 = .ok (.iload 4, 2) := by decide +kernel
theorem dX11_left_69 : decode cX11_left 69 = .ok (.imul, 1) := by decide +kernel
theorem dX11_left_70 : decode cX11_left 70 = .ok (.iload 5, 2) := by decide +kernel
theorem dX11_left_72 : decode cX11_left 72 = .ok (.iadd, 1) := by decide +kernel
theorem dX11_left_73 : decode cX11_left 73 = .ok (.ireturn, 1) := by decide +kernel
theorem dX11_left_74 : decode cX11_left 74 = .ok (.iinc 3 1, 3) := by decide +kernel
theorem dX11_left_77 : decode cX11_left 77 = .ok (.iinc 5 1, 3) := by decide +kernel
theorem dX11_left_80 : decode cX11_left 80 = .ok (.goto (-54), 3) := by decide +kernel
theorem dX11_left_83 : decode cX11_left 83 = .ok (.iinc 4 1, 3) := by decide +kernel
theorem dX11_left_86 : decode cX11_left 86 = .ok (.goto (-70), 3) := by decide +kernel
theorem dX11_left_89 : decode cX11_left 89 = .ok (.iload_n 2, 1) := by decide +kernel
theorem dX11_left_90 : decode cX11_left 90 = .ok (.iconst (-1), 1) := by decide +kernel
theorem dX11_left_91 : decode cX11_left 91 = .ok (.if_icmp .ne 7, 3) := by decide +kernel
theorem dX11_left_94 : decode cX11_left 94 = .ok (.iload_n 3, 1) := by decide +kernel
theorem dX11_left_95 : decode cX11_left 95 = .ok (.goto 4, 3) := by decide +kernel
theorem dX11_left_98 : decode cX11_left 98 = .ok (.iconst (-1), 1) := by decide +kernel
theorem dX11_left_99 : decode cX11_left 99 = .ok (.ireturn, 1) := by decide +kernel
theorem dX11_doers_0 : decode cX11_doers 0 = .ok (.aload_n 0, 1) := by decide +kernel
theorem dX11_doers_1 : decode cX11_doers 1 = .ok (.iload_n 1, 1) := by decide +kernel
theorem dX11_doers_2 : decode cX11_doers 2 = .ok (.invokevirtual 156, 3) := by decide +kernel
theorem dX11_doers_5 : decode cX11_doers 5 = .ok (.ifCond .ne 6, 3) := by decide +kernel
theorem dX11_doers_8 : decode cX11_doers 8 = .ok (.ldc 160, 2) := by decide +kernel
theorem dX11_doers_10 : decode cX11_doers 10 = .ok (.ireturn, 1) := by decide +kernel
theorem dX11_doers_11 : decode cX11_doers 11 = .ok (.iconst 0, 1) := by decide +kernel
theorem dX11_doers_12 : decode cX11_doers 12 = .ok (.istore_n 2, 1) := by decide +kernel
theorem dX11_doers_13 : decode cX11_doers 13 = .ok (.iconst 0, 1) := by decide +kernel
theorem dX11_doers_14 : decode cX11_doers 14 = .ok (.istore_n 3, 1) := by decide +kernel
theorem dX11_doers_15 : decode cX11_doers 15 = .ok (.iload_n 3, 1) := by decide +kernel
theorem dX11_doers_16 : decode cX11_doers 16 = .ok (.bipush 6, 2) := by decide +kernel
theorem dX11_doers_18 : decode cX11_doers 18 = .ok (.if_icmp .ge 58, 3) := by decide +kernel
theorem dX11_doers_21 : decode cX11_doers 21 = .ok (.iconst 0, 1) := by decide +kernel
theorem dX11_doers_22 : decode cX11_doers 22 = .ok (.istore 4, 2) := by decide +kernel
theorem dX11_doers_24 : decode cX11_doers 24 = .ok (.iload 4, 2) := by decide +kernel
theorem dX11_doers_26 : decode cX11_doers 26 = .ok (.aload_n 0, 1) := by decide +kernel
theorem dX11_doers_27 : decode cX11_doers 27 = .ok (.getfield 19, 3) := by decide +kernel
theorem dX11_doers_30 : decode cX11_doers 30 = .ok (.getfield 135, 3) := by decide +kernel
theorem dX11_doers_33 : decode cX11_doers 33 = .ok (.if_icmp .ge 37, 3) := by decide +kernel
theorem dX11_doers_36 : decode cX11_doers 36 = .ok (.aload_n 0, 1) := by decide +kernel
theorem dX11_doers_37 : decode cX11_doers 37 = .ok (.getfield 26, 3) := by decide +kernel
theorem dX11_doers_40 : decode cX11_doers 40 = .ok (.iload_n 3, 1) := by decide +kernel
theorem dX11_doers_41 : decode cX11_doers 41 = .ok (.iload 4, 2) := by decide +kernel
theorem dX11_doers_43 : decode cX11_doers 43 = .ok (.aload_n 0, 1) := by decide +kernel
theorem dX11_doers_44 : decode cX11_doers 44 = .ok (.getfield 19, 3) := by decide +kernel
theorem dX11_doers_47 : decode cX11_doers 47 = .ok (.getfield 135, 3) := by decide +kernel
theorem dX11_doers_50 : decode cX11_doers 50 = .ok (.invokevirtual 243, 3) := by decide +kernel
theorem dX11_doers_53 : decode cX11_doers 53 = .ok (.iload_n 1, 1) := by decide +kernel
theorem dX11_doers_54 : decode cX11_doers 54 = .ok (.if_icmp .ne 10, 3) := by decide +kernel
theorem dX11_doers_57 : decode cX11_doers 57 = .ok (.iload_n 2, 1) := by decide +kernel
theorem dX11_doers_58 : decode cX11_doers 58 = .ok (.iconst 1, 1) := by decide +kernel
theorem dX11_doers_59 : decode cX11_doers 59 = .ok (.iload 4, 2) := by decide +kernel
theorem dX11_doers_61 : decode cX11_doers 61 = .ok (.ishl, 1) := by decide +kernel
theorem dX11_doers_62 : decode cX11_doers 62 = .ok (.ior, 1) := by decide +kernel
theorem dX11_doers_63 : decode cX11_doers 63 = .ok (.istore_n 2, 1) := by decide +kernel
theorem dX11_doers_64 : decode cX11_doers 64 = .ok (.iinc 4 1, 3) := by decide +kernel
theorem dX11_doers_67 : decode cX11_doers 67 = .ok (.goto (-43), 3) := by decide +kernel
theorem dX11_doers_70 : decode cX11_doers 70 = .ok (.iinc 3 1, 3) := by decide +kernel
theorem dX11_doers_73 : decode cX11_doers 73 = .ok (.goto (-58), 3) := by decide +kernel
theorem dX11_doers_76 : decode cX11_doers 76 = .ok (.iload_n 2, 1) := by decide +kernel
theorem dX11_doers_77 : decode cX11_doers 77 = .ok (.ireturn, 1) := by decide +kernel
theorem dX11_chair_0 : decode cX11_chair 0 = .ok (.aload_n 0, 1) := by decide +kernel
theorem dX11_chair_1 : decode cX11_chair 1 = .ok (.iload_n 1, 1) := by decide +kernel
theorem dX11_chair_2 : decode cX11_chair 2 = .ok (.invokevirtual 156, 3) := by decide +kernel
theorem dX11_chair_5 : decode cX11_chair 5 = .ok (.ifCond .eq 11, 3) := by decide +kernel
theorem dX11_chair_8 : decode cX11_chair 8 = .ok (.aload_n 0, 1) := by decide +kernel
theorem dX11_chair_9 : decode cX11_chair 9 = .ok (.iload_n 1, 1) := by decide +kernel
theorem dX11_chair_10 : decode cX11_chair 10 = .ok (.invokevirtual 247, 3) := by decide +kernel
theorem dX11_chair_13 : decode cX11_chair 13 = .ok (.goto 5, 3) := by decide +kernel
theorem dX11_chair_16 : decode cX11_chair 16 = .ok (.ldc 160, 2) := by decide +kernel
theorem dX11_chair_18 : decode cX11_chair 18 = .ok (.ireturn, 1) := by decide +kernel
theorem dX11_note_0 : decode cX11_note 0 = .ok (.iload_n 1, 1) := by decide +kernel
theorem dX11_note_1 : decode cX11_note 1 = .ok (.invokestatic 173, 3) := by decide +kernel
theorem dX11_note_4 : decode cX11_note 4 = .ok (.ifCond .eq 28, 3) := by decide +kernel
theorem dX11_note_7 : decode cX11_note 7 = .ok (.aload_n 0, 1) := by decide +kernel
theorem dX11_note_8 : decode cX11_note 8 = .ok (.iload_n 2, 1) := by decide +kernel
theorem dX11_note_9 : decode cX11_note 9 = .ok (.invokevirtual 156, 3) := by decide +kernel
theorem dX11_note_12 : decode cX11_note 12 = .ok (.ifCond .eq 20, 3) := by decide +kernel
theorem dX11_note_15 : decode cX11_note 15 = .ok (.aload_n 0, 1) := by decide +kernel
theorem dX11_note_16 : decode cX11_note 16 = .ok (.iload_n 3, 1) := by decide +kernel
theorem dX11_note_17 : decode cX11_note 17 = .ok (.invokevirtual 156, 3) := by decide +kernel
theorem dX11_note_20 : decode cX11_note 20 = .ok (.ifCond .eq 12, 3) := by decide +kernel
theorem dX11_note_23 : decode cX11_note 23 = .ok (.aload_n 0, 1) := by decide +kernel
theorem dX11_note_24 : decode cX11_note 24 = .ok (.iload 4, 2) := by decide +kernel
theorem dX11_note_26 : decode cX11_note 26 = .ok (.invokevirtual 156, 3) := by decide +kernel
theorem dX11_note_29 : decode cX11_note 29 = .ok (.ifCond .ne 6, 3) := by decide +kernel
theorem dX11_note_32 : decode cX11_note 32 = .ok (.ldc 160, 2) := by decide +kernel
theorem dX11_note_34 : decode cX11_note 34 = .ok (.ireturn, 1) := by decide +kernel
theorem dX11_note_35 : decode cX11_note 35 = .ok (.aload_n 0, 1) := by decide +kernel
theorem dX11_note_36 : decode cX11_note 36 = .ok (.getfield 62, 3) := by decide +kernel
theorem dX11_note_39 : decode cX11_note 39 = .ok (.getfield 131, 3) := by decide +kernel
theorem dX11_note_42 : decode cX11_note 42 = .ok (.bipush 12, 2) := by decide +kernel
theorem dX11_note_44 : decode cX11_note 44 = .ok (.if_icmp .lt 8, 3) := by decide +kernel
theorem dX11_note_47 : decode cX11_note 47 = .ok (.ldc 110, 2) := by decide +kernel
theorem dX11_note_49 : decode cX11_note 49 = .ok (.goto 15, 3) := by decide +kernel
theorem dX11_note_52 : decode cX11_note 52 = .ok (.aload_n 0, 1) := by decide +kernel
theorem dX11_note_53 : decode cX11_note 53 = .ok (.getfield 62, 3) := by decide +kernel
theorem dX11_note_56 : decode cX11_note 56 = .ok (.iload_n 1, 1) := by decide +kernel
theorem dX11_note_57 : decode cX11_note 57 = .ok (.iload_n 2, 1) := by decide +kernel
theorem dX11_note_58 : decode cX11_note 58 = .ok (.iload_n 3, 1) := by decide +kernel
theorem dX11_note_59 : decode cX11_note 59 = .ok (.iload 4, 2) := by decide +kernel
theorem dX11_note_61 : decode cX11_note 61 = .ok (.invokevirtual 250, 3) := by decide +kernel
theorem dX11_note_64 : decode cX11_note 64 = .ok (.ireturn, 1) := by decide +kernel
theorem dX11_laws_0 : decode cX11_laws 0 = .ok (.iload_n 1, 1) := by decide +kernel
theorem dX11_laws_1 : decode cX11_laws 1 = .ok (.invokestatic 173, 3) := by decide +kernel
theorem dX11_laws_4 : decode cX11_laws 4 = .ok (.ifCond .eq 21, 3) := by decide +kernel
theorem dX11_laws_7 : decode cX11_laws 7 = .ok (.aload_n 0, 1) := by decide +kernel
theorem dX11_laws_8 : decode cX11_laws 8 = .ok (.getfield 62, 3) := by decide +kernel
theorem dX11_laws_11 : decode cX11_laws 11 = .ok (.iload_n 1, 1) := by decide +kernel
theorem dX11_laws_12 : decode cX11_laws 12 = .ok (.aload_n 0, 1) := by decide +kernel
theorem dX11_laws_13 : decode cX11_laws 13 = .ok (.getfield 19, 3) := by decide +kernel
theorem dX11_laws_16 : decode cX11_laws 16 = .ok (.getfield 135, 3) := by decide +kernel
theorem dX11_laws_19 : decode cX11_laws 19 = .ok (.invokevirtual 254, 3) := by decide +kernel
theorem dX11_laws_22 : decode cX11_laws 22 = .ok (.goto 5, 3) := by decide +kernel
theorem dX11_laws_25 : decode cX11_laws 25 = .ok (.ldc 160, 2) := by decide +kernel
theorem dX11_laws_27 : decode cX11_laws 27 = .ok (.ireturn, 1) := by decide +kernel
theorem dX11_tryNext_0 : decode cX11_tryNext 0 = .ok (.iload_n 1, 1) := by decide +kernel
theorem dX11_tryNext_1 : decode cX11_tryNext 1 = .ok (.invokestatic 173, 3) := by decide +kernel
theorem dX11_tryNext_4 : decode cX11_tryNext 4 = .ok (.ifCond .ne 6, 3) := by decide +kernel
theorem dX11_tryNext_7 : decode cX11_tryNext 7 = .ok (.ldc 160, 2) := by decide +kernel
theorem dX11_tryNext_9 : decode cX11_tryNext 9 = .ok (.ireturn, 1) := by decide +kernel
theorem dX11_tryNext_10 : decode cX11_tryNext 10 = .ok (.aload_n 0, 1) := by decide +kernel
theorem dX11_tryNext_11 : decode cX11_tryNext 11 = .ok (.getfield 19, 3) := by decide +kernel
theorem dX11_tryNext_14 : decode cX11_tryNext 14 = .ok (.getfield 135, 3) := by decide +kernel
theorem dX11_tryNext_17 : decode cX11_tryNext 17 = .ok (.ifCond .ne 6, 3) := by decide +kernel
theorem dX11_tryNext_20 : decode cX11_tryNext 20 = .ok (.ldc 182, 2) := by decide +kernel
theorem dX11_tryNext_22 : decode cX11_tryNext 22 = .ok (.ireturn, 1) := by decide +kernel
theorem dX11_tryNext_23 : decode cX11_tryNext 23 = .ok (.aload_n 0, 1) := by decide +kernel
theorem dX11_tryNext_24 : decode cX11_tryNext 24 = .ok (.getfield 62, 3) := by decide +kernel
theorem dX11_tryNext_27 : decode cX11_tryNext 27 = .ok (.iload_n 1, 1) := by decide +kernel
theorem dX11_tryNext_28 : decode cX11_tryNext 28 = .ok (.aload_n 0, 1) := by decide +kernel
theorem dX11_tryNext_29 : decode cX11_tryNext 29 = .ok (.getfield 19, 3) := by decide +kernel
theorem dX11_tryNext_32 : decode cX11_tryNext 32 = .ok (.getfield 135, 3) := by decide +kernel
theorem dX11_tryNext_35 : decode cX11_tryNext 35 = .ok (.invokevirtual 254, 3) := by decide +kernel
theorem dX11_tryNext_38 : decode cX11_tryNext 38 = .ok (.istore_n 2, 1) := by decide +kernel
theorem dX11_tryNext_39 : decode cX11_tryNext 39 = .ok (.iload_n 2, 1) := by decide +kernel
theorem dX11_tryNext_40 : decode cX11_tryNext 40 = .ok (.invokestatic 257, 3) := by decide +kernel
theorem dX11_tryNext_43 : decode cX11_tryNext 43 = .ok (.istore_n 3, 1) := by decide +kernel
theorem dX11_tryNext_44 : decode cX11_tryNext 44 = .ok (.iconst (-1), 1) := by decide +kernel
theorem dX11_tryNext_45 : decode cX11_tryNext 45 = .ok (.istore 4, 2) := by decide +kernel
theorem dX11_tryNext_47 : decode cX11_tryNext 47 = .ok (.iconst 0, 1) := by decide +kernel
theorem dX11_tryNext_48 : decode cX11_tryNext 48 = .ok (.istore 5, 2) := by decide +kernel
theorem dX11_tryNext_50 : decode cX11_tryNext 50 = .ok (.iload 5, 2) := by decide +kernel
theorem dX11_tryNext_52 : decode cX11_tryNext 52 = .ok (.aload_n 0, 1) := by decide +kernel
theorem dX11_tryNext_53 : decode cX11_tryNext 53 = .ok (.getfield 19, 3) := by decide +kernel
theorem dX11_tryNext_56 : decode cX11_tryNext 56 = .ok (.getfield 135, 3) := by decide +kernel
theorem dX11_tryNext_59 : decode cX11_tryNext 59 = .ok (.if_icmp .ge 31, 3) := by decide +kernel
theorem dX11_tryNext_62 : decode cX11_tryNext 62 = .ok (.aload_n 0, 1) := by decide +kernel
theorem dX11_tryNext_63 : decode cX11_tryNext 63 = .ok (.iload_n 2, 1) := by decide +kernel
theorem dX11_tryNext_64 : decode cX11_tryNext 64 = .ok (.iload 5, 2) := by decide +kernel
theorem dX11_tryNext_66 : decode cX11_tryNext 66 = .ok (.invokevirtual 262, 3) := by decide +kernel
theorem dX11_tryNext_69 : decode cX11_tryNext 69 = .ok (.istore 6, 2) := by decide +kernel
theorem dX11_tryNext_71 : decode cX11_tryNext 71 = .ok (.iload 6, 2) := by decide +kernel
theorem dX11_tryNext_73 : decode cX11_tryNext 73 = .ok (.iload_n 3, 1) := by decide +kernel
theorem dX11_tryNext_74 : decode cX11_tryNext 74 = .ok (.if_icmp .ge 10, 3) := by decide +kernel
theorem dX11_tryNext_77 : decode cX11_tryNext 77 = .ok (.iload 6, 2) := by decide +kernel
theorem dX11_tryNext_79 : decode cX11_tryNext 79 = .ok (.istore_n 3, 1) := by decide +kernel
theorem dX11_tryNext_80 : decode cX11_tryNext 80 = .ok (.iload 5, 2) := by decide +kernel
theorem dX11_tryNext_82 : decode cX11_tryNext 82 = .ok (.istore 4, 2) := by decide +kernel
theorem dX11_tryNext_84 : decode cX11_tryNext 84 = .ok (.iinc 5 1, 3) := by decide +kernel
theorem dX11_tryNext_87 : decode cX11_tryNext 87 = .ok (.goto (-37), 3) := by decide +kernel
theorem dX11_tryNext_90 : decode cX11_tryNext 90 = .ok (.iload 4, 2) := by decide +kernel
theorem dX11_tryNext_92 : decode cX11_tryNext 92 = .ok (.ireturn, 1) := by decide +kernel
theorem dX11_write_0 : decode cX11_write 0 = .ok (.iload_n 1, 1) := by decide +kernel
theorem dX11_write_1 : decode cX11_write 1 = .ok (.invokestatic 173, 3) := by decide +kernel
theorem dX11_write_4 : decode cX11_write 4 = .ok (.ifCond .eq 11, 3) := by decide +kernel
theorem dX11_write_7 : decode cX11_write 7 = .ok (.aload_n 0, 1) := by decide +kernel
theorem dX11_write_8 : decode cX11_write 8 = .ok (.iload_n 2, 1) := by decide +kernel
theorem dX11_write_9 : decode cX11_write 9 = .ok (.invokevirtual 156, 3) := by decide +kernel
theorem dX11_write_12 : decode cX11_write 12 = .ok (.ifCond .ne 6, 3) := by decide +kernel
theorem dX11_write_15 : decode cX11_write 15 = .ok (.ldc 160, 2) := by decide +kernel
theorem dX11_write_17 : decode cX11_write 17 = .ok (.ireturn, 1) := by decide +kernel
theorem dX11_write_18 : decode cX11_write 18 = .ok (.aload_n 0, 1) := by decide +kernel
theorem dX11_write_19 : decode cX11_write 19 = .ok (.getfield 69, 3) := by decide +kernel
theorem dX11_write_22 : decode cX11_write 22 = .ok (.getfield 132, 3) := by decide +kernel
theorem dX11_write_25 : decode cX11_write 25 = .ok (.bipush 20, 2) := by decide +kernel
theorem dX11_write_27 : decode cX11_write 27 = .ok (.if_icmp .lt 8, 3) := by decide +kernel
theorem dX11_write_30 : decode cX11_write 30 = .ok (.ldc 110, 2) := by decide +kernel
theorem dX11_write_32 : decode cX11_write 32 = .ok (.goto 12, 3) := by decide +kernel
theorem dX11_write_35 : decode cX11_write 35 = .ok (.aload_n 0, 1) := by decide +kernel
theorem dX11_write_36 : decode cX11_write 36 = .ok (.getfield 69, 3) := by decide +kernel
theorem dX11_write_39 : decode cX11_write 39 = .ok (.iload_n 1, 1) := by decide +kernel
theorem dX11_write_40 : decode cX11_write 40 = .ok (.iload_n 2, 1) := by decide +kernel
theorem dX11_write_41 : decode cX11_write 41 = .ok (.invokevirtual 265, 3) := by decide +kernel
theorem dX11_write_44 : decode cX11_write 44 = .ok (.ireturn, 1) := by decide +kernel
theorem dX11_judge_0 : decode cX11_judge 0 = .ok (.iload_n 1, 1) := by decide +kernel
theorem dX11_judge_1 : decode cX11_judge 1 = .ok (.iconst 0, 1) := by decide +kernel
theorem dX11_judge_2 : decode cX11_judge 2 = .ok (.iconst 1, 1) := by decide +kernel
theorem dX11_judge_3 : decode cX11_judge 3 = .ok (.invokestatic 102, 3) := by decide +kernel
theorem dX11_judge_6 : decode cX11_judge 6 = .ok (.ifCond .ne 6, 3) := by decide +kernel
theorem dX11_judge_9 : decode cX11_judge 9 = .ok (.ldc 106, 2) := by decide +kernel
theorem dX11_judge_11 : decode cX11_judge 11 = .ok (.ireturn, 1) := by decide +kernel
theorem dX11_judge_12 : decode cX11_judge 12 = .ok (.aload_n 0, 1) := by decide +kernel
theorem dX11_judge_13 : decode cX11_judge 13 = .ok (.getfield 19, 3) := by decide +kernel
theorem dX11_judge_16 : decode cX11_judge 16 = .ok (.getfield 135, 3) := by decide +kernel
theorem dX11_judge_19 : decode cX11_judge 19 = .ok (.ifCond .ne 6, 3) := by decide +kernel
theorem dX11_judge_22 : decode cX11_judge 22 = .ok (.ldc 182, 2) := by decide +kernel
theorem dX11_judge_24 : decode cX11_judge 24 = .ok (.ireturn, 1) := by decide +kernel
theorem dX11_judge_25 : decode cX11_judge 25 = .ok (.aload_n 0, 1) := by decide +kernel
theorem dX11_judge_26 : decode cX11_judge 26 = .ok (.getfield 30, 3) := by decide +kernel
theorem dX11_judge_29 : decode cX11_judge 29 = .ok (.aload_n 0, 1) := by decide +kernel
theorem dX11_judge_30 : decode cX11_judge 30 = .ok (.getfield 26, 3) := by decide +kernel
theorem dX11_judge_33 : decode cX11_judge 33 = .ok (.invokevirtual 207, 3) := by decide +kernel
theorem dX11_judge_36 : decode cX11_judge 36 = .ok (.aload_n 0, 1) := by decide +kernel
theorem dX11_judge_37 : decode cX11_judge 37 = .ok (.invokevirtual 267, 3) := by decide +kernel
theorem dX11_judge_40 : decode cX11_judge 40 = .ok (.istore_n 2, 1) := by decide +kernel
theorem dX11_judge_41 : decode cX11_judge 41 = .ok (.iload_n 1, 1) := by decide +kernel
theorem dX11_judge_42 : decode cX11_judge 42 = .ok (.ifCond .ne 7, 3) := by decide +kernel
theorem dX11_judge_45 : decode cX11_judge 45 = .ok (.iload_n 2, 1) := by decide +kernel
theorem dX11_judge_46 : decode cX11_judge 46 = .ok (.goto 10, 3) := by decide +kernel
theorem dX11_judge_49 : decode cX11_judge 49 = .ok (.aload_n 0, 1) := by decide +kernel
theorem dX11_judge_50 : decode cX11_judge 50 = .ok (.getfield 30, 3) := by decide +kernel
theorem dX11_judge_53 : decode cX11_judge 53 = .ok (.getfield 144, 3) := by decide +kernel
theorem dX11_judge_56 : decode cX11_judge 56 = .ok (.ireturn, 1) := by decide +kernel
theorem dX11_tear_0 : decode cX11_tear 0 = .ok (.aload_n 0, 1) := by decide +kernel
theorem dX11_tear_1 : decode cX11_tear 1 = .ok (.getfield 62, 3) := by decide +kernel
theorem dX11_tear_4 : decode cX11_tear 4 = .ok (.getfield 131, 3) := by decide +kernel
theorem dX11_tear_7 : decode cX11_tear 7 = .ok (.aload_n 0, 1) := by decide +kernel
theorem dX11_tear_8 : decode cX11_tear 8 = .ok (.getfield 69, 3) := by decide +kernel
theorem dX11_tear_11 : decode cX11_tear 11 = .ok (.getfield 132, 3) := by decide +kernel
theorem dX11_tear_14 : decode cX11_tear 14 = .ok (.iadd, 1) := by decide +kernel
theorem dX11_tear_15 : decode cX11_tear 15 = .ok (.istore_n 1, 1) := by decide +kernel
theorem dX11_tear_16 : decode cX11_tear 16 = .ok (.aload_n 0, 1) := by decide +kernel
theorem dX11_tear_17 : decode cX11_tear 17 = .ok (.getfield 62, 3) := by decide +kernel
theorem dX11_tear_20 : decode cX11_tear 20 = .ok (.iconst 0, 1) := by decide +kernel
theorem dX11_tear_21 : decode cX11_tear 21 = .ok (.putfield 131, 3) := by decide +kernel
theorem dX11_tear_24 : decode cX11_tear 24 = .ok (.aload_n 0, 1) := by decide +kernel
theorem dX11_tear_25 : decode cX11_tear 25 = .ok (.getfield 69, 3) := by decide +kernel
theorem dX11_tear_28 : decode cX11_tear 28 = .ok (.iconst 0, 1) := by decide +kernel
theorem dX11_tear_29 : decode cX11_tear 29 = .ok (.putfield 132, 3) := by decide +kernel
theorem dX11_tear_32 : decode cX11_tear 32 = .ok (.iload_n 1, 1) := by decide +kernel
theorem dX11_tear_33 : decode cX11_tear 33 = .ok (.ireturn, 1) := by decide +kernel
theorem dX11_seed_0 : decode cX11_seed 0 = .ok (.iload_n 1, 1) := by decide +kernel
theorem dX11_seed_1 : decode cX11_seed 1 = .ok (.ifCond .ge 6, 3) := by decide +kernel
theorem dX11_seed_4 : decode cX11_seed 4 = .ok (.ldc 106, 2) := by decide +kernel
theorem dX11_seed_6 : decode cX11_seed 6 = .ok (.ireturn, 1) := by decide +kernel
theorem dX11_seed_7 : decode cX11_seed 7 = .ok (.aload_n 0, 1) := by decide +kernel
theorem dX11_seed_8 : decode cX11_seed 8 = .ok (.getfield 94, 3) := by decide +kernel
theorem dX11_seed_11 : decode cX11_seed 11 = .ok (.istore_n 2, 1) := by decide +kernel
theorem dX11_seed_12 : decode cX11_seed 12 = .ok (.aload_n 0, 1) := by decide +kernel
theorem dX11_seed_13 : decode cX11_seed 13 = .ok (.iload_n 1, 1) := by decide +kernel
theorem dX11_seed_14 : decode cX11_seed 14 = .ok (.putfield 94, 3) := by decide +kernel
theorem dX11_seed_17 : decode cX11_seed 17 = .ok (.iload_n 2, 1) := by decide +kernel
theorem dX11_seed_18 : decode cX11_seed 18 = .ok (.ireturn, 1) := by decide +kernel
theorem dX11_keep_0 : decode cX11_keep 0 = .ok (.iload_n 1, 1) := by decide +kernel
theorem dX11_keep_1 : decode cX11_keep 1 = .ok (.iconst 0, 1) := by decide +kernel
theorem dX11_keep_2 : decode cX11_keep 2 = .ok (.iconst 1, 1) := by decide +kernel
theorem dX11_keep_3 : decode cX11_keep 3 = .ok (.invokestatic 102, 3) := by decide +kernel
theorem dX11_keep_6 : decode cX11_keep 6 = .ok (.ifCond .ne 6, 3) := by decide +kernel
theorem dX11_keep_9 : decode cX11_keep 9 = .ok (.ldc 160, 2) := by decide +kernel
theorem dX11_keep_11 : decode cX11_keep 11 = .ok (.ireturn, 1) := by decide +kernel
theorem dX11_keep_12 : decode cX11_keep 12 = .ok (.aload_n 0, 1) := by decide +kernel
theorem dX11_keep_13 : decode cX11_keep 13 = .ok (.getfield 45, 3) := by decide +kernel
theorem dX11_keep_16 : decode cX11_keep 16 = .ok (.iload_n 1, 1) := by decide +kernel
theorem dX11_keep_17 : decode cX11_keep 17 = .ok (.invokevirtual 270, 3) := by decide +kernel
theorem dX11_keep_20 : decode cX11_keep 20 = .ok (.aload_n 0, 1) := by decide +kernel
theorem dX11_keep_21 : decode cX11_keep 21 = .ok (.getfield 26, 3) := by decide +kernel
theorem dX11_keep_24 : decode cX11_keep 24 = .ok (.invokevirtual 207, 3) := by decide +kernel
theorem dX11_keep_27 : decode cX11_keep 27 = .ok (.aload_n 0, 1) := by decide +kernel
theorem dX11_keep_28 : decode cX11_keep 28 = .ok (.getfield 52, 3) := by decide +kernel
theorem dX11_keep_31 : decode cX11_keep 31 = .ok (.iload_n 1, 1) := by decide +kernel
theorem dX11_keep_32 : decode cX11_keep 32 = .ok (.aload_n 0, 1) := by decide +kernel
theorem dX11_keep_33 : decode cX11_keep 33 = .ok (.getfield 94, 3) := by decide +kernel
theorem dX11_keep_36 : decode cX11_keep 36 = .ok (.invokevirtual 199, 3) := by decide +kernel
theorem dX11_keep_39 : decode cX11_keep 39 = .ok (.aload_n 0, 1) := by decide +kernel
theorem dX11_keep_40 : decode cX11_keep 40 = .ok (.getfield 56, 3) := by decide +kernel
theorem dX11_keep_43 : decode cX11_keep 43 = .ok (.iload_n 1, 1) := by decide +kernel
theorem dX11_keep_44 : decode cX11_keep 44 = .ok (.iconst 1, 1) := by decide +kernel
theorem dX11_keep_45 : decode cX11_keep 45 = .ok (.invokevirtual 199, 3) := by decide +kernel
theorem dX11_keep_48 : decode cX11_keep 48 = .ok (.aload_n 0, 1) := by decide +kernel
theorem dX11_keep_49 : decode cX11_keep 49 = .ok (.getfield 36, 3) := by decide +kernel
theorem dX11_keep_52 : decode cX11_keep 52 = .ok (.iconst 0, 1) := by decide +kernel
theorem dX11_keep_53 : decode cX11_keep 53 = .ok (.putfield 125, 3) := by decide +kernel
theorem dX11_keep_56 : decode cX11_keep 56 = .ok (.iconst 1, 1) := by decide +kernel
theorem dX11_keep_57 : decode cX11_keep 57 = .ok (.ireturn, 1) := by decide +kernel
theorem dX11_goBack_0 : decode cX11_goBack 0 = .ok (.iload_n 1, 1) := by decide +kernel
theorem dX11_goBack_1 : decode cX11_goBack 1 = .ok (.iconst 0, 1) := by decide +kernel
theorem dX11_goBack_2 : decode cX11_goBack 2 = .ok (.iconst 1, 1) := by decide +kernel
theorem dX11_goBack_3 : decode cX11_goBack 3 = .ok (.invokestatic 102, 3) := by decide +kernel
theorem dX11_goBack_6 : decode cX11_goBack 6 = .ok (.ifCond .ne 6, 3) := by decide +kernel
theorem dX11_goBack_9 : decode cX11_goBack 9 = .ok (.ldc 160, 2) := by decide +kernel
theorem dX11_goBack_11 : decode cX11_goBack 11 = .ok (.ireturn, 1) := by decide +kernel
theorem dX11_goBack_12 : decode cX11_goBack 12 = .ok (.aload_n 0, 1) := by decide +kernel
theorem dX11_goBack_13 : decode cX11_goBack 13 = .ok (.getfield 56, 3) := by decide +kernel
theorem dX11_goBack_16 : decode cX11_goBack 16 = .ok (.iload_n 1, 1) := by decide +kernel
theorem dX11_goBack_17 : decode cX11_goBack 17 = .ok (.invokevirtual 164, 3) := by decide +kernel
theorem dX11_goBack_20 : decode cX11_goBack 20 = .ok (.ifCond .ne 6, 3) := by decide +kernel
theorem dX11_goBack_23 : decode cX11_goBack 23 = .ok (.ldc 182, 2) := by decide +kernel
theorem dX11_goBack_25 : decode cX11_goBack 25 = .ok (.ireturn, 1) := by decide +kernel
theorem dX11_goBack_26 : decode cX11_goBack 26 = .ok (.aload_n 0, 1) := by decide +kernel
theorem dX11_goBack_27 : decode cX11_goBack 27 = .ok (.getfield 26, 3) := by decide +kernel
theorem dX11_goBack_30 : decode cX11_goBack 30 = .ok (.aload_n 0, 1) := by decide +kernel
theorem dX11_goBack_31 : decode cX11_goBack 31 = .ok (.getfield 45, 3) := by decide +kernel
theorem dX11_goBack_34 : decode cX11_goBack 34 = .ok (.iload_n 1, 1) := by decide +kernel
theorem dX11_goBack_35 : decode cX11_goBack 35 = .ok (.invokevirtual 270, 3) := by decide +kernel
theorem dX11_goBack_38 : decode cX11_goBack 38 = .ok (.invokevirtual 207, 3) := by decide +kernel
theorem dX11_goBack_41 : decode cX11_goBack 41 = .ok (.aload_n 0, 1) := by decide +kernel
theorem dX11_goBack_42 : decode cX11_goBack 42 = .ok (.aload_n 0, 1) := by decide +kernel
theorem dX11_goBack_43 : decode cX11_goBack 43 = .ok (.getfield 52, 3) := by decide +kernel
theorem dX11_goBack_46 : decode cX11_goBack 46 = .ok (.iload_n 1, 1) := by decide +kernel
theorem dX11_goBack_47 : decode cX11_goBack 47 = .ok (.invokevirtual 164, 3) := by decide +kernel
theorem dX11_goBack_50 : decode cX11_goBack 50 = .ok (.putfield 94, 3) := by decide +kernel
theorem dX11_goBack_53 : decode cX11_goBack 53 = .ok (.aload_n 0, 1) := by decide +kernel
theorem dX11_goBack_54 : decode cX11_goBack 54 = .ok (.getfield 36, 3) := by decide +kernel
theorem dX11_goBack_57 : decode cX11_goBack 57 = .ok (.iconst 0, 1) := by decide +kernel
theorem dX11_goBack_58 : decode cX11_goBack 58 = .ok (.putfield 125, 3) := by decide +kernel
theorem dX11_goBack_61 : decode cX11_goBack 61 = .ok (.iconst 1, 1) := by decide +kernel
theorem dX11_goBack_62 : decode cX11_goBack 62 = .ok (.ireturn, 1) := by decide +kernel
theorem dX11_within_0 : decode cX11_within 0 = .ok (.iload_n 0, 1) := by decide +kernel
theorem dX11_within_1 : decode cX11_within 1 = .ok (.iload_n 1, 1) := by decide +kernel
theorem dX11_within_2 : decode cX11_within 2 = .ok (.if_icmp .lt 12, 3) := by decide +kernel
theorem dX11_within_5 : decode cX11_within 5 = .ok (.iload_n 0, 1) := by decide +kernel
theorem dX11_within_6 : decode cX11_within 6 = .ok (.iload_n 2, 1) := by decide +kernel
theorem dX11_within_7 : decode cX11_within 7 = .ok (.if_icmp .gt 7, 3) := by decide +kernel
theorem dX11_within_10 : decode cX11_within 10 = .ok (.iconst 1, 1) := by decide +kernel
theorem dX11_within_11 : decode cX11_within 11 = .ok (.goto 4, 3) := by decide +kernel
theorem dX11_within_14 : decode cX11_within 14 = .ok (.iconst 0, 1) := by decide +kernel
theorem dX11_within_15 : decode cX11_within 15 = .ok (.ireturn, 1) := by decide +kernel
theorem dX11_isPerson_0 : decode cX11_isPerson 0 = .ok (.iload_n 1, 1) := by decide +kernel
theorem dX11_isPerson_1 : decode cX11_isPerson 1 = .ok (.ifCond .lt 18, 3) := by decide +kernel
theorem dX11_isPerson_4 : decode cX11_isPerson 4 = .ok (.iload_n 1, 1) := by decide +kernel
theorem dX11_isPerson_5 : decode cX11_isPerson 5 = .ok (.aload_n 0, 1) := by decide +kernel
theorem dX11_isPerson_6 : decode cX11_isPerson 6 = .ok (.getfield 19, 3) := by decide +kernel
theorem dX11_isPerson_9 : decode cX11_isPerson 9 = .ok (.getfield 135, 3) := by decide +kernel
theorem dX11_isPerson_12 : decode cX11_isPerson 12 = .ok (.if_icmp .ge 7, 3) := by decide +kernel
theorem dX11_isPerson_15 : decode cX11_isPerson 15 = .ok (.iconst 1, 1) := by decide +kernel
theorem dX11_isPerson_16 : decode cX11_isPerson 16 = .ok (.goto 4, 3) := by decide +kernel
theorem dX11_isPerson_19 : decode cX11_isPerson 19 = .ok (.iconst 0, 1) := by decide +kernel
theorem dX11_isPerson_20 : decode cX11_isPerson 20 = .ok (.ireturn, 1) := by decide +kernel
theorem dX11_isDoing_0 : decode cX11_isDoing 0 = .ok (.iload_n 0, 1) := by decide +kernel
theorem dX11_isDoing_1 : decode cX11_isDoing 1 = .ok (.ifCond .lt 13, 3) := by decide +kernel
theorem dX11_isDoing_4 : decode cX11_isDoing 4 = .ok (.iload_n 0, 1) := by decide +kernel
theorem dX11_isDoing_5 : decode cX11_isDoing 5 = .ok (.bipush 6, 2) := by decide +kernel
theorem dX11_isDoing_7 : decode cX11_isDoing 7 = .ok (.if_icmp .ge 7, 3) := by decide +kernel
theorem dX11_isDoing_10 : decode cX11_isDoing 10 = .ok (.iconst 1, 1) := by decide +kernel
theorem dX11_isDoing_11 : decode cX11_isDoing 11 = .ok (.goto 4, 3) := by decide +kernel
theorem dX11_isDoing_14 : decode cX11_isDoing 14 = .ok (.iconst 0, 1) := by decide +kernel
theorem dX11_isDoing_15 : decode cX11_isDoing 15 = .ok (.ireturn, 1) := by decide +kernel
theorem dX11_refusalOfHours_0 : decode cX11_refusalOfHours 0 = .ok (.iload_n 1, 1) := by decide +kernel
theorem dX11_refusalOfHours_1 : decode cX11_refusalOfHours 1 = .ok (.iconst 1, 1) := by decide +kernel
theorem dX11_refusalOfHours_2 : decode cX11_refusalOfHours 2 = .ok (.bipush 99, 2) := by decide +kernel
theorem dX11_refusalOfHours_4 : decode cX11_refusalOfHours 4 = .ok (.invokestatic 102, 3) := by decide +kernel
theorem dX11_refusalOfHours_7 : decode cX11_refusalOfHours 7 = .ok (.ifCond .ne 6, 3) := by decide +kernel
theorem dX11_refusalOfHours_10 : decode cX11_refusalOfHours 10 = .ok (.ldc 106, 2) := by decide +kernel
theorem dX11_refusalOfHours_12 : decode cX11_refusalOfHours 12 = .ok (.ireturn, 1) := by decide +kernel
theorem dX11_refusalOfHours_13 : decode cX11_refusalOfHours 13 = .ok (.aload_n 0, 1) := by decide +kernel
theorem dX11_refusalOfHours_14 : decode cX11_refusalOfHours 14 = .ok (.getfield 19, 3) := by decide +kernel
theorem dX11_refusalOfHours_17 : decode cX11_refusalOfHours 17 = .ok (.getfield 135, 3) := by decide +kernel
theorem dX11_refusalOfHours_20 : decode cX11_refusalOfHours 20 = .ok (.ifCond .ne 6, 3) := by decide +kernel
theorem dX11_refusalOfHours_23 : decode cX11_refusalOfHours 23 = .ok (.ldc 182, 2) := by decide +kernel
theorem dX11_refusalOfHours_25 : decode cX11_refusalOfHours 25 = .ok (.ireturn, 1) := by decide +kernel
theorem dX11_refusalOfHours_26 : decode cX11_refusalOfHours 26 = .ok (.aload_n 0, 1) := by decide +kernel
theorem dX11_refusalOfHours_27 : decode cX11_refusalOfHours 27 = .ok (.getfield 26, 3) := by decide +kernel
theorem dX11_refusalOfHours_30 : decode cX11_refusalOfHours 30 = .ok (.getfield 141, 3) := by decide +kernel
theorem dX11_refusalOfHours_33 : decode cX11_refusalOfHours 33 = .ok (.ldc 183, 2) := by decide +kernel
theorem dX11_refusalOfHours_35 : decode cX11_refusalOfHours 35 = .ok (.if_icmp .le 8, 3) := by decide +kernel
theorem dX11_refusalOfHours_38 : decode cX11_refusalOfHours 38 = .ok (.ldc 110, 2) := by decide +kernel
theorem dX11_refusalOfHours_40 : decode cX11_refusalOfHours 40 = .ok (.goto 4, 3) := by decide +kernel
theorem dX11_refusalOfHours_43 : decode cX11_refusalOfHours 43 = .ok (.iconst 0, 1) := by decide +kernel
theorem dX11_refusalOfHours_44 : decode cX11_refusalOfHours 44 = .ok (.ireturn, 1) := by decide +kernel
theorem dX11_spendHour_0 : decode cX11_spendHour 0 = .ok (.aload_n 0, 1) := by decide +kernel
theorem dX11_spendHour_1 : decode cX11_spendHour 1 = .ok (.getfield 36, 3) := by decide +kernel
theorem dX11_spendHour_4 : decode cX11_spendHour 4 = .ok (.aload_n 0, 1) := by decide +kernel
theorem dX11_spendHour_5 : decode cX11_spendHour 5 = .ok (.getfield 26, 3) := by decide +kernel
theorem dX11_spendHour_8 : decode cX11_spendHour 8 = .ok (.invokevirtual 272, 3) := by decide +kernel
theorem dX11_spendHour_11 : decode cX11_spendHour 11 = .ok (.aload_n 0, 1) := by decide +kernel
theorem dX11_spendHour_12 : decode cX11_spendHour 12 = .ok (.getfield 26, 3) := by decide +kernel
theorem dX11_spendHour_15 : decode cX11_spendHour 15 = .ok (.aload_n 0, 1) := by decide +kernel
theorem dX11_spendHour_16 : decode cX11_spendHour 16 = .ok (.getfield 19, 3) := by decide +kernel
theorem dX11_spendHour_19 : decode cX11_spendHour 19 = .ok (.iload_n 1, 1) := by decide +kernel
theorem dX11_spendHour_20 : decode cX11_spendHour 20 = .ok (.iload_n 2, 1) := by decide +kernel
theorem dX11_spendHour_21 : decode cX11_spendHour 21 = .ok (.invokevirtual 275, 3) := by decide +kernel
theorem dX11_spendHour_24 : decode cX11_spendHour 24 = .ok (.aload_n 0, 1) := by decide +kernel
theorem dX11_spendHour_25 : decode cX11_spendHour 25 = .ok (.getfield 26, 3) := by decide +kernel
theorem dX11_spendHour_28 : decode cX11_spendHour 28 = .ok (.getfield 144, 3) := by decide +kernel
theorem dX11_spendHour_31 : decode cX11_spendHour 31 = .ok (.ireturn, 1) := by decide +kernel
theorem dX11_driftHour_0 : decode cX11_driftHour 0 = .ok (.aload_n 0, 1) := by decide +kernel
theorem dX11_driftHour_1 : decode cX11_driftHour 1 = .ok (.bipush 8, 2) := by decide +kernel
theorem dX11_driftHour_3 : decode cX11_driftHour 3 = .ok (.invokevirtual 279, 3) := by decide +kernel
theorem dX11_driftHour_6 : decode cX11_driftHour 6 = .ok (.istore_n 1, 1) := by decide +kernel
theorem dX11_driftHour_7 : decode cX11_driftHour 7 = .ok (.iload_n 1, 1) := by decide +kernel
theorem dX11_driftHour_8 : decode cX11_driftHour 8 = .ok (.invokestatic 173, 3) := by decide +kernel
theorem dX11_driftHour_11 : decode cX11_driftHour 11 = .ok (.ifCond .ne 11, 3) := by decide +kernel
theorem dX11_driftHour_14 : decode cX11_driftHour 14 = .ok (.aload_n 0, 1) := by decide +kernel
theorem dX11_driftHour_15 : decode cX11_driftHour 15 = .ok (.iconst (-1), 1) := by decide +kernel
theorem dX11_driftHour_16 : decode cX11_driftHour 16 = .ok (.iconst (-1), 1) := by decide +kernel
theorem dX11_driftHour_17 : decode cX11_driftHour 17 = .ok (.invokevirtual 184, 3) := by decide +kernel
theorem dX11_driftHour_20 : decode cX11_driftHour 20 = .ok (.pop, 1) := by decide +kernel
theorem dX11_driftHour_21 : decode cX11_driftHour 21 = .ok (.return_, 1) := by decide +kernel
theorem dX11_driftHour_22 : decode cX11_driftHour 22 = .ok (.aload_n 0, 1) := by decide +kernel
theorem dX11_driftHour_23 : decode cX11_driftHour 23 = .ok (.aload_n 0, 1) := by decide +kernel
theorem dX11_driftHour_24 : decode cX11_driftHour 24 = .ok (.getfield 19, 3) := by decide +kernel
theorem dX11_driftHour_27 : decode cX11_driftHour 27 = .ok (.getfield 135, 3) := by decide +kernel
theorem dX11_driftHour_30 : decode cX11_driftHour 30 = .ok (.invokevirtual 279, 3) := by decide +kernel
theorem dX11_driftHour_33 : decode cX11_driftHour 33 = .ok (.istore_n 2, 1) := by decide +kernel
theorem dX11_driftHour_34 : decode cX11_driftHour 34 = .ok (.aload_n 0, 1) := by decide +kernel
theorem dX11_driftHour_35 : decode cX11_driftHour 35 = .ok (.getfield 19, 3) := by decide +kernel
theorem dX11_driftHour_38 : decode cX11_driftHour 38 = .ok (.getfield 176, 3) := by decide +kernel
theorem dX11_driftHour_41 : decode cX11_driftHour 41 = .ok (.iload_n 1, 1) := by decide +kernel
theorem dX11_driftHour_42 : decode cX11_driftHour 42 = .ok (.invokevirtual 164, 3) := by decide +kernel
theorem dX11_driftHour_45 : decode cX11_driftHour 45 = .ok (.aload_n 0, 1) := by decide +kernel
theorem dX11_driftHour_46 : decode cX11_driftHour 46 = .ok (.getfield 26, 3) := by decide +kernel
theorem dX11_driftHour_49 : decode cX11_driftHour 49 = .ok (.getfield 147, 3) := by decide +kernel
theorem dX11_driftHour_52 : decode cX11_driftHour 52 = .ok (.if_icmp .gt 13, 3) := by decide +kernel
theorem dX11_driftHour_55 : decode cX11_driftHour 55 = .ok (.aload_n 0, 1) := by decide +kernel
theorem dX11_driftHour_56 : decode cX11_driftHour 56 = .ok (.iload_n 1, 1) := by decide +kernel
theorem dX11_driftHour_57 : decode cX11_driftHour 57 = .ok (.iload_n 2, 1) := by decide +kernel
theorem dX11_driftHour_58 : decode cX11_driftHour 58 = .ok (.invokevirtual 184, 3) := by decide +kernel
theorem dX11_driftHour_61 : decode cX11_driftHour 61 = .ok (.pop, 1) := by decide +kernel
theorem dX11_driftHour_62 : decode cX11_driftHour 62 = .ok (.goto 10, 3) := by decide +kernel
theorem dX11_driftHour_65 : decode cX11_driftHour 65 = .ok (.aload_n 0, 1) := by decide +kernel
theorem dX11_driftHour_66 : decode cX11_driftHour 66 = .ok (.iconst (-1), 1) := by decide +kernel
theorem dX11_driftHour_67 : decode cX11_driftHour 67 = .ok (.iconst (-1), 1) := by decide +kernel
theorem dX11_driftHour_68 : decode cX11_driftHour 68 = .ok (.invokevirtual 184, 3) := by decide +kernel
theorem dX11_driftHour_71 : decode cX11_driftHour 71 = .ok (.pop, 1) := by decide +kernel
theorem dX11_driftHour_72 : decode cX11_driftHour 72 = .ok (.return_, 1) := by decide +kernel
theorem dX11_draw_0 : decode cX11_draw 0 = .ok (.aload_n 0, 1) := by decide +kernel
theorem dX11_draw_1 : decode cX11_draw 1 = .ok (.aload_n 0, 1) := by decide +kernel
theorem dX11_draw_2 : decode cX11_draw 2 = .ok (.getfield 94, 3) := by decide +kernel
theorem dX11_draw_5 : decode cX11_draw 5 = .ok (.i2l, 1) := by decide +kernel
theorem dX11_draw_6 : decode cX11_draw 6 = .ok (.ldc2_w 282, 3) := by decide +kernel
theorem dX11_draw_9 : decode cX11_draw 9 = .ok (.lmul, 1) := by decide +kernel
theorem dX11_draw_10 : decode cX11_draw 10 = .ok (.ldc2_w 284, 3) := by decide +kernel
theorem dX11_draw_13 : decode cX11_draw 13 = .ok (.ladd, 1) := by decide +kernel
theorem dX11_draw_14 : decode cX11_draw 14 = .ok (.ldc2_w 286, 3) := by decide +kernel
theorem dX11_draw_17 : decode cX11_draw 17 = .ok (.land, 1) := by decide +kernel
theorem dX11_draw_18 : decode cX11_draw 18 = .ok (.l2i, 1) := by decide +kernel
theorem dX11_draw_19 : decode cX11_draw 19 = .ok (.putfield 94, 3) := by decide +kernel
theorem dX11_draw_22 : decode cX11_draw 22 = .ok (.iload_n 1, 1) := by decide +kernel
theorem dX11_draw_23 : decode cX11_draw 23 = .ok (.ifCond .le 16, 3) := by decide +kernel
theorem dX11_draw_26 : decode cX11_draw 26 = .ok (.aload_n 0, 1) := by decide +kernel
theorem dX11_draw_27 : decode cX11_draw 27 = .ok (.getfield 94, 3) := by decide +kernel
theorem dX11_draw_30 : decode cX11_draw 30 = .ok (.ldc_w 288, 3) := by decide +kernel
theorem dX11_draw_33 : decode cX11_draw 33 = .ok (.idiv, 1) := by decide +kernel
theorem dX11_draw_34 : decode cX11_draw 34 = .ok (.iload_n 1, 1) := by decide +kernel
theorem dX11_draw_35 : decode cX11_draw 35 = .ok (.irem, 1) := by decide +kernel
theorem dX11_draw_36 : decode cX11_draw 36 = .ok (.goto 4, 3) := by decide +kernel
theorem dX11_draw_39 : decode cX11_draw 39 = .ok (.iconst 0, 1) := by decide +kernel
theorem dX11_draw_40 : decode cX11_draw 40 = .ok (.ireturn, 1) := by decide +kernel
theorem dX11_hoursInDraught_0 : decode cX11_hoursInDraught 0 = .ok (.aload_n 0, 1) := by decide +kernel
theorem dX11_hoursInDraught_1 : decode cX11_hoursInDraught 1 = .ok (.getfield 26, 3) := by decide +kernel
theorem dX11_hoursInDraught_4 : decode cX11_hoursInDraught 4 = .ok (.getfield 161, 3) := by decide +kernel
theorem dX11_hoursInDraught_7 : decode cX11_hoursInDraught 7 = .ok (.iload_n 1, 1) := by decide +kernel
theorem dX11_hoursInDraught_8 : decode cX11_hoursInDraught 8 = .ok (.invokevirtual 164, 3) := by decide +kernel
theorem dX11_hoursInDraught_11 : decode cX11_hoursInDraught 11 = .ok (.istore_n 2, 1) := by decide +kernel
theorem dX11_hoursInDraught_12 : decode cX11_hoursInDraught 12 = .ok (.aload_n 0, 1) := by decide +kernel
theorem dX11_hoursInDraught_13 : decode cX11_hoursInDraught 13 = .ok (.getfield 19, 3) := by decide +kernel
theorem dX11_hoursInDraught_16 : decode cX11_hoursInDraught 16 = .ok (.getfield 167, 3) := by decide +kernel
theorem dX11_hoursInDraught_19 : decode cX11_hoursInDraught 19 = .ok (.iload_n 1, 1) := by decide +kernel
theorem dX11_hoursInDraught_20 : decode cX11_hoursInDraught 20 = .ok (.invokevirtual 164, 3) := by decide +kernel
theorem dX11_hoursInDraught_23 : decode cX11_hoursInDraught 23 = .ok (.istore_n 3, 1) := by decide +kernel
theorem dX11_hoursInDraught_24 : decode cX11_hoursInDraught 24 = .ok (.iload_n 2, 1) := by decide +kernel
theorem dX11_hoursInDraught_25 : decode cX11_hoursInDraught 25 = .ok (.ifCond .ne 5, 3) := by decide +kernel
theorem dX11_hoursInDraught_28 : decode cX11_hoursInDraught 28 = .ok (.iconst 0, 1) := by decide +kernel
theorem dX11_hoursInDraught_29 : decode cX11_hoursInDraught 29 = .ok (.ireturn, 1) := by decide +kernel
theorem dX11_hoursInDraught_30 : decode cX11_hoursInDraught 30 = .ok (.iload_n 3, 1) := by decide +kernel
theorem dX11_hoursInDraught_31 : decode cX11_hoursInDraught 31 = .ok (.ifCond .le 13, 3) := by decide +kernel
theorem dX11_hoursInDraught_34 : decode cX11_hoursInDraught 34 = .ok (.iload_n 2, 1) := by decide +kernel
theorem dX11_hoursInDraught_35 : decode cX11_hoursInDraught 35 = .ok (.iload_n 3, 1) := by decide +kernel
theorem dX11_hoursInDraught_36 : decode cX11_hoursInDraught 36 = .ok (.iadd, 1) := by decide +kernel
theorem dX11_hoursInDraught_37 : decode cX11_hoursInDraught 37 = .ok (.iconst 1, 1) := by decide +kernel
theorem dX11_hoursInDraught_38 : decode cX11_hoursInDraught 38 = .ok (.isub, 1) := by decide +kernel
theorem dX11_hoursInDraught_39 : decode cX11_hoursInDraught 39 = .ok (.iload_n 3, 1) := by decide +kernel
theorem dX11_hoursInDraught_40 : decode cX11_hoursInDraught 40 = .ok (.idiv, 1) := by decide +kernel
theorem dX11_hoursInDraught_41 : decode cX11_hoursInDraught 41 = .ok (.goto 4, 3) := by decide +kernel
theorem dX11_hoursInDraught_44 : decode cX11_hoursInDraught 44 = .ok (.iconst (-1), 1) := by decide +kernel
theorem dX11_hoursInDraught_45 : decode cX11_hoursInDraught 45 = .ok (.ireturn, 1) := by decide +kernel
theorem dX11_hoursUndisturbed_0 : decode cX11_hoursUndisturbed 0 = .ok (.iload_n 1, 1) := by decide +kernel
theorem dX11_hoursUndisturbed_1 : decode cX11_hoursUndisturbed 1 = .ok (.aload_n 0, 1) := by decide +kernel
theorem dX11_hoursUndisturbed_2 : decode cX11_hoursUndisturbed 2 = .ok (.getfield 26, 3) := by decide +kernel
theorem dX11_hoursUndisturbed_5 : decode cX11_hoursUndisturbed 5 = .ok (.getfield 144, 3) := by decide +kernel
theorem dX11_hoursUndisturbed_8 : decode cX11_hoursUndisturbed 8 = .ok (.if_icmp .ne 19, 3) := by decide +kernel
theorem dX11_hoursUndisturbed_11 : decode cX11_hoursUndisturbed 11 = .ok (.aload_n 0, 1) := by decide +kernel
theorem dX11_hoursUndisturbed_12 : decode cX11_hoursUndisturbed 12 = .ok (.getfield 26, 3) := by decide +kernel
theorem dX11_hoursUndisturbed_15 : decode cX11_hoursUndisturbed 15 = .ok (.getfield 161, 3) := by decide +kernel
theorem dX11_hoursUndisturbed_18 : decode cX11_hoursUndisturbed 18 = .ok (.iload_n 1, 1) := by decide +kernel
theorem dX11_hoursUndisturbed_19 : decode cX11_hoursUndisturbed 19 = .ok (.invokevirtual 164, 3) := by decide +kernel
theorem dX11_hoursUndisturbed_22 : decode cX11_hoursUndisturbed 22 = .ok (.ifCond .le 5, 3) := by decide +kernel
theorem dX11_hoursUndisturbed_25 : decode cX11_hoursUndisturbed 25 = .ok (.iconst (-1), 1) := by decide +kernel
theorem dX11_hoursUndisturbed_26 : decode cX11_hoursUndisturbed 26 = .ok (.ireturn, 1) := by decide +kernel
theorem dX11_hoursUndisturbed_27 : decode cX11_hoursUndisturbed 27 = .ok (.aload_n 0, 1) := by decide +kernel
theorem dX11_hoursUndisturbed_28 : decode cX11_hoursUndisturbed 28 = .ok (.iload_n 1, 1) := by decide +kernel
theorem dX11_hoursUndisturbed_29 : decode cX11_hoursUndisturbed 29 = .ok (.invokevirtual 247, 3) := by decide +kernel
theorem dX11_hoursUndisturbed_32 : decode cX11_hoursUndisturbed 32 = .ok (.ireturn, 1) := by decide +kernel
theorem dX11_greatestPart_0 : decode cX11_greatestPart 0 = .ok (.iconst 0, 1) := by decide +kernel
theorem dX11_greatestPart_1 : decode cX11_greatestPart 1 = .ok (.istore_n 3, 1) := by decide +kernel
theorem dX11_greatestPart_2 : decode cX11_greatestPart 2 = .ok (.iconst 0, 1) := by decide +kernel
theorem dX11_greatestPart_3 : decode cX11_greatestPart 3 = .ok (.istore 4, 2) := by decide +kernel
theorem dX11_greatestPart_5 : decode cX11_greatestPart 5 = .ok (.iload 4, 2) := by decide +kernel
theorem dX11_greatestPart_7 : decode cX11_greatestPart 7 = .ok (.aload_n 0, 1) := by decide +kernel
theorem dX11_greatestPart_8 : decode cX11_greatestPart 8 = .ok (.getfield 19, 3) := by decide +kernel
theorem dX11_greatestPart_11 : decode cX11_greatestPart 11 = .ok (.getfield 135, 3) := by decide +kernel
theorem dX11_greatestPart_14 : decode cX11_greatestPart 14 = .ok (.if_icmp .ge 72, 3) := by decide +kernel
theorem dX11_greatestPart_17 : decode cX11_greatestPart 17 = .ok (.iconst 0, 1) := by decide +kernel
theorem dX11_greatestPart_18 : decode cX11_greatestPart 18 = .ok (.istore 5, 2) := by decide +kernel
theorem dX11_greatestPart_20 : decode cX11_greatestPart 20 = .ok (.iconst 0, 1) := by decide +kernel
theorem dX11_greatestPart_21 : decode cX11_greatestPart 21 = .ok (.istore 6, 2) := by decide +kernel
theorem dX11_greatestPart_23 : decode cX11_greatestPart 23 = .ok (.iload 6, 2) := by decide +kernel
theorem dX11_greatestPart_25 : decode cX11_greatestPart 25 = .ok (.bipush 7, 2) := by decide +kernel
theorem dX11_greatestPart_27 : decode cX11_greatestPart 27 = .ok (.if_icmp .ge 46, 3) := by decide +kernel
theorem dX11_greatestPart_30 : decode cX11_greatestPart 30 = .ok (.iload_n 1, 1) := by decide +kernel
theorem dX11_greatestPart_31 : decode cX11_greatestPart 31 = .ok (.iload 6, 2) := by decide +kernel
theorem dX11_greatestPart_33 : decode cX11_greatestPart 33 = .ok (.ishr, 1) := by decide +kernel
theorem dX11_greatestPart_34 : decode cX11_greatestPart 34 = .ok (.iconst 1, 1) := by decide +kernel
theorem dX11_greatestPart_35 : decode cX11_greatestPart 35 = .ok (.iand, 1) := by decide +kernel
theorem dX11_greatestPart_36 : decode cX11_greatestPart 36 = .ok (.ifCond .eq 31, 3) := by decide +kernel
theorem dX11_greatestPart_39 : decode cX11_greatestPart 39 = .ok (.iload 6, 2) := by decide +kernel
theorem dX11_greatestPart_41 : decode cX11_greatestPart 41 = .ok (.iload_n 2, 1) := by decide +kernel
theorem dX11_greatestPart_42 : decode cX11_greatestPart 42 = .ok (.aload_n 0, 1) := by decide +kernel
theorem dX11_greatestPart_43 : decode cX11_greatestPart 43 = .ok (.getfield 26, 3) := by decide +kernel
theorem dX11_greatestPart_46 : decode cX11_greatestPart 46 = .ok (.getfield 144, 3) := by decide +kernel
theorem dX11_greatestPart_49 : decode cX11_greatestPart 49 = .ok (.aload_n 0, 1) := by decide +kernel
theorem dX11_greatestPart_50 : decode cX11_greatestPart 50 = .ok (.getfield 19, 3) := by decide +kernel
theorem dX11_greatestPart_53 : decode cX11_greatestPart 53 = .ok (.getfield 135, 3) := by decide +kernel
theorem dX11_greatestPart_56 : decode cX11_greatestPart 56 = .ok (.invokestatic 289, 3) := by decide +kernel
theorem dX11_greatestPart_59 : decode cX11_greatestPart 59 = .ok (.iload 4, 2) := by decide +kernel
theorem dX11_greatestPart_61 : decode cX11_greatestPart 61 = .ok (.if_icmp .ne 6, 3) := by decide +kernel
theorem dX11_greatestPart_64 : decode cX11_greatestPart 64 = .ok (.iinc 5 1, 3) := by decide +kernel
theorem dX11_greatestPart_67 : decode cX11_greatestPart 67 = .ok (.iinc 6 1, 3) := by decide +kernel
theorem dX11_greatestPart_70 : decode cX11_greatestPart 70 = .ok (.goto (-47), 3) := by decide +kernel
theorem dX11_greatestPart_73 : decode cX11_greatestPart 73 = .ok (.iload_n 3, 1) := by decide +kernel
theorem dX11_greatestPart_74 : decode cX11_greatestPart 74 = .ok (.iload 5, 2) := by decide +kernel
theorem dX11_greatestPart_76 : decode cX11_greatestPart 76 = .ok (.invokestatic 292, 3) := by decide +kernel
theorem dX11_greatestPart_79 : decode cX11_greatestPart 79 = .ok (.istore_n 3, 1) := by decide +kernel
theorem dX11_greatestPart_80 : decode cX11_greatestPart 80 = .ok (.iinc 4 1, 3) := by decide +kernel
theorem dX11_greatestPart_83 : decode cX11_greatestPart 83 = .ok (.goto (-78), 3) := by decide +kernel
theorem dX11_greatestPart_86 : decode cX11_greatestPart 86 = .ok (.iload_n 3, 1) := by decide +kernel
theorem dX11_greatestPart_87 : decode cX11_greatestPart 87 = .ok (.ireturn, 1) := by decide +kernel
theorem dX11_firstUnpaid_0 : decode cX11_firstUnpaid 0 = .ok (.iconst 0, 1) := by decide +kernel
theorem dX11_firstUnpaid_1 : decode cX11_firstUnpaid 1 = .ok (.istore_n 1, 1) := by decide +kernel
theorem dX11_firstUnpaid_2 : decode cX11_firstUnpaid 2 = .ok (.iload_n 1, 1) := by decide +kernel
theorem dX11_firstUnpaid_3 : decode cX11_firstUnpaid 3 = .ok (.aload_n 0, 1) := by decide +kernel
theorem dX11_firstUnpaid_4 : decode cX11_firstUnpaid 4 = .ok (.getfield 69, 3) := by decide +kernel
theorem dX11_firstUnpaid_7 : decode cX11_firstUnpaid 7 = .ok (.getfield 132, 3) := by decide +kernel
theorem dX11_firstUnpaid_10 : decode cX11_firstUnpaid 10 = .ok (.if_icmp .ge 67, 3) := by decide +kernel
theorem dX11_firstUnpaid_13 : decode cX11_firstUnpaid 13 = .ok (.aload_n 0, 1) := by decide +kernel
theorem dX11_firstUnpaid_14 : decode cX11_firstUnpaid 14 = .ok (.getfield 69, 3) := by decide +kernel
theorem dX11_firstUnpaid_17 : decode cX11_firstUnpaid 17 = .ok (.getfield 295, 3) := by decide +kernel
theorem dX11_firstUnpaid_20 : decode cX11_firstUnpaid 20 = .ok (.iload_n 1, 1) := by decide +kernel
theorem dX11_firstUnpaid_21 : decode cX11_firstUnpaid 21 = .ok (.invokevirtual 164, 3) := by decide +kernel
theorem dX11_firstUnpaid_24 : decode cX11_firstUnpaid 24 = .ok (.istore_n 2, 1) := by decide +kernel
theorem dX11_firstUnpaid_25 : decode cX11_firstUnpaid 25 = .ok (.aload_n 0, 1) := by decide +kernel
theorem dX11_firstUnpaid_26 : decode cX11_firstUnpaid 26 = .ok (.getfield 19, 3) := by decide +kernel
theorem dX11_firstUnpaid_29 : decode cX11_firstUnpaid 29 = .ok (.getfield 176, 3) := by decide +kernel
theorem dX11_firstUnpaid_32 : decode cX11_firstUnpaid 32 = .ok (.iload_n 2, 1) := by decide +kernel
theorem dX11_firstUnpaid_33 : decode cX11_firstUnpaid 33 = .ok (.invokevirtual 164, 3) := by decide +kernel
theorem dX11_firstUnpaid_36 : decode cX11_firstUnpaid 36 = .ok (.aload_n 0, 1) := by decide +kernel
theorem dX11_firstUnpaid_37 : decode cX11_firstUnpaid 37 = .ok (.getfield 30, 3) := by decide +kernel
theorem dX11_firstUnpaid_40 : decode cX11_firstUnpaid 40 = .ok (.getfield 147, 3) := by decide +kernel
theorem dX11_firstUnpaid_43 : decode cX11_firstUnpaid 43 = .ok (.if_icmp .le 5, 3) := by decide +kernel
theorem dX11_firstUnpaid_46 : decode cX11_firstUnpaid 46 = .ok (.iload_n 1, 1) := by decide +kernel
theorem dX11_firstUnpaid_47 : decode cX11_firstUnpaid 47 = .ok (.ireturn, 1) := by decide +kernel
theorem dX11_firstUnpaid_48 : decode cX11_firstUnpaid 48 = .ok (.aload_n 0, 1) := by decide +kernel
theorem dX11_firstUnpaid_49 : decode cX11_firstUnpaid 49 = .ok (.getfield 30, 3) := by decide +kernel
theorem dX11_firstUnpaid_52 : decode cX11_firstUnpaid 52 = .ok (.aload_n 0, 1) := by decide +kernel
theorem dX11_firstUnpaid_53 : decode cX11_firstUnpaid 53 = .ok (.getfield 19, 3) := by decide +kernel
theorem dX11_firstUnpaid_56 : decode cX11_firstUnpaid 56 = .ok (.iload_n 2, 1) := by decide +kernel
theorem dX11_firstUnpaid_57 : decode cX11_firstUnpaid 57 = .ok (.aload_n 0, 1) := by decide +kernel
theorem dX11_firstUnpaid_58 : decode cX11_firstUnpaid 58 = .ok (.getfield 69, 3) := by decide +kernel
theorem dX11_firstUnpaid_61 : decode cX11_firstUnpaid 61 = .ok (.getfield 298, 3) := by decide +kernel
theorem dX11_firstUnpaid_64 : decode cX11_firstUnpaid 64 = .ok (.iload_n 1, 1) := by decide +kernel
theorem dX11_firstUnpaid_65 : decode cX11_firstUnpaid 65 = .ok (.invokevirtual 164, 3) := by decide +kernel
theorem dX11_firstUnpaid_68 : decode cX11_firstUnpaid 68 = .ok (.invokevirtual 275, 3) := by decide +kernel
theorem dX11_firstUnpaid_71 : decode cX11_firstUnpaid 71 = .ok (.iinc 1 1, 3) := by decide +kernel
theorem dX11_firstUnpaid_74 : decode cX11_firstUnpaid 74 = .ok (.goto (-72), 3) := by decide +kernel
theorem dX11_firstUnpaid_77 : decode cX11_firstUnpaid 77 = .ok (.iconst (-1), 1) := by decide +kernel
theorem dX11_firstUnpaid_78 : decode cX11_firstUnpaid 78 = .ok (.ireturn, 1) := by decide +kernel
theorem dJ6_bitCount_0f7a4_0 : decode cJ6_bitCount_0f7a4 0 = .ok (.iload_n 0, 1) := by decide +kernel
theorem dJ6_bitCount_0f7a4_1 : decode cJ6_bitCount_0f7a4 1 = .ok (.iload_n 0, 1) := by decide +kernel
theorem dJ6_bitCount_0f7a4_2 : decode cJ6_bitCount_0f7a4 2 = .ok (.iconst 1, 1) := by decide +kernel
theorem dJ6_bitCount_0f7a4_3 : decode cJ6_bitCount_0f7a4 3 = .ok (.iushr, 1) := by decide +kernel
theorem dJ6_bitCount_0f7a4_4 : decode cJ6_bitCount_0f7a4 4 = .ok (.ldc_w 265, 3) := by decide +kernel
theorem dJ6_bitCount_0f7a4_7 : decode cJ6_bitCount_0f7a4 7 = .ok (.iand, 1) := by decide +kernel
theorem dJ6_bitCount_0f7a4_8 : decode cJ6_bitCount_0f7a4 8 = .ok (.isub, 1) := by decide +kernel
theorem dJ6_bitCount_0f7a4_9 : decode cJ6_bitCount_0f7a4 9 = .ok (.istore_n 0, 1) := by decide +kernel
theorem dJ6_bitCount_0f7a4_10 : decode cJ6_bitCount_0f7a4 10 = .ok (.iload_n 0, 1) := by decide +kernel
theorem dJ6_bitCount_0f7a4_11 : decode cJ6_bitCount_0f7a4 11 = .ok (.ldc_w 266, 3) := by decide +kernel
theorem dJ6_bitCount_0f7a4_14 : decode cJ6_bitCount_0f7a4 14 = .ok (.iand, 1) := by decide +kernel
theorem dJ6_bitCount_0f7a4_15 : decode cJ6_bitCount_0f7a4 15 = .ok (.iload_n 0, 1) := by decide +kernel
theorem dJ6_bitCount_0f7a4_16 : decode cJ6_bitCount_0f7a4 16 = .ok (.iconst 2, 1) := by decide +kernel
theorem dJ6_bitCount_0f7a4_17 : decode cJ6_bitCount_0f7a4 17 = .ok (.iushr, 1) := by decide +kernel
theorem dJ6_bitCount_0f7a4_18 : decode cJ6_bitCount_0f7a4 18 = .ok (.ldc_w 266, 3) := by decide +kernel
theorem dJ6_bitCount_0f7a4_21 : decode cJ6_bitCount_0f7a4 21 = .ok (.iand, 1) := by decide +kernel
theorem dJ6_bitCount_0f7a4_22 : decode cJ6_bitCount_0f7a4 22 = .ok (.iadd, 1) := by decide +kernel
theorem dJ6_bitCount_0f7a4_23 : decode cJ6_bitCount_0f7a4 23 = .ok (.istore_n 0, 1) := by decide +kernel
theorem dJ6_bitCount_0f7a4_24 : decode cJ6_bitCount_0f7a4 24 = .ok (.iload_n 0, 1) := by decide +kernel
theorem dJ6_bitCount_0f7a4_25 : decode cJ6_bitCount_0f7a4 25 = .ok (.iload_n 0, 1) := by decide +kernel
theorem dJ6_bitCount_0f7a4_26 : decode cJ6_bitCount_0f7a4 26 = .ok (.iconst 4, 1) := by decide +kernel
theorem dJ6_bitCount_0f7a4_27 : decode cJ6_bitCount_0f7a4 27 = .ok (.iushr, 1) := by decide +kernel
theorem dJ6_bitCount_0f7a4_28 : decode cJ6_bitCount_0f7a4 28 = .ok (.iadd, 1) := by decide +kernel
theorem dJ6_bitCount_0f7a4_29 : decode cJ6_bitCount_0f7a4 29 = .ok (.ldc_w 267, 3) := by decide +kernel
theorem dJ6_bitCount_0f7a4_32 : decode cJ6_bitCount_0f7a4 32 = .ok (.iand, 1) := by decide +kernel
theorem dJ6_bitCount_0f7a4_33 : decode cJ6_bitCount_0f7a4 33 = .ok (.istore_n 0, 1) := by decide +kernel
theorem dJ6_bitCount_0f7a4_34 : decode cJ6_bitCount_0f7a4 34 = .ok (.iload_n 0, 1) := by decide +kernel
theorem dJ6_bitCount_0f7a4_35 : decode cJ6_bitCount_0f7a4 35 = .ok (.iload_n 0, 1) := by decide +kernel
theorem dJ6_bitCount_0f7a4_36 : decode cJ6_bitCount_0f7a4 36 = .ok (.bipush 8, 2) := by decide +kernel
theorem dJ6_bitCount_0f7a4_38 : decode cJ6_bitCount_0f7a4 38 = .ok (.iushr, 1) := by decide +kernel
theorem dJ6_bitCount_0f7a4_39 : decode cJ6_bitCount_0f7a4 39 = .ok (.iadd, 1) := by decide +kernel
theorem dJ6_bitCount_0f7a4_40 : decode cJ6_bitCount_0f7a4 40 = .ok (.istore_n 0, 1) := by decide +kernel
theorem dJ6_bitCount_0f7a4_41 : decode cJ6_bitCount_0f7a4 41 = .ok (.iload_n 0, 1) := by decide +kernel
theorem dJ6_bitCount_0f7a4_42 : decode cJ6_bitCount_0f7a4 42 = .ok (.iload_n 0, 1) := by decide +kernel
theorem dJ6_bitCount_0f7a4_43 : decode cJ6_bitCount_0f7a4 43 = .ok (.bipush 16, 2) := by decide +kernel
theorem dJ6_bitCount_0f7a4_45 : decode cJ6_bitCount_0f7a4 45 = .ok (.iushr, 1) := by decide +kernel
theorem dJ6_bitCount_0f7a4_46 : decode cJ6_bitCount_0f7a4 46 = .ok (.iadd, 1) := by decide +kernel
theorem dJ6_bitCount_0f7a4_47 : decode cJ6_bitCount_0f7a4 47 = .ok (.istore_n 0, 1) := by decide +kernel
theorem dJ6_bitCount_0f7a4_48 : decode cJ6_bitCount_0f7a4 48 = .ok (.iload_n 0, 1) := by decide +kernel
theorem dJ6_bitCount_0f7a4_49 : decode cJ6_bitCount_0f7a4 49 = .ok (.bipush 63, 2) := by decide +kernel
theorem dJ6_bitCount_0f7a4_51 : decode cJ6_bitCount_0f7a4 51 = .ok (.iand, 1) := by decide +kernel
theorem dJ6_bitCount_0f7a4_52 : decode cJ6_bitCount_0f7a4 52 = .ok (.ireturn, 1) := by decide +kernel
