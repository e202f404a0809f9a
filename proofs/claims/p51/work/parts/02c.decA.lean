theorem dX0_init_0 : decode cX0_init 0 = .ok (.aload_n 0, 1) := by decide +kernel
theorem dX0_init_1 : decode cX0_init 1 = .ok (.invokespecial 3, 3) := by decide +kernel
theorem dX0_init_4 : decode cX0_init 4 = .ok (.aload_n 0, 1) := by decide +kernel
theorem dX0_init_5 : decode cX0_init 5 = .ok (.new 9, 3) := by decide +kernel
theorem dX0_init_8 : decode cX0_init 8 = .ok (.dup, 1) := by decide +kernel
theorem dX0_init_9 : decode cX0_init 9 = .ok (.bipush 16, 2) := by decide +kernel
theorem dX0_init_11 : decode cX0_init 11 = .ok (.invokespecial 11, 3) := by decide +kernel
theorem dX0_init_14 : decode cX0_init 14 = .ok (.putfield 14, 3) := by decide +kernel
theorem dX0_init_17 : decode cX0_init 17 = .ok (.aload_n 0, 1) := by decide +kernel
theorem dX0_init_18 : decode cX0_init 18 = .ok (.new 9, 3) := by decide +kernel
theorem dX0_init_21 : decode cX0_init 21 = .ok (.dup, 1) := by decide +kernel
theorem dX0_init_22 : decode cX0_init 22 = .ok (.bipush 16, 2) := by decide +kernel
theorem dX0_init_24 : decode cX0_init 24 = .ok (.invokespecial 11, 3) := by decide +kernel
theorem dX0_init_27 : decode cX0_init 27 = .ok (.putfield 20, 3) := by decide +kernel
theorem dX0_init_30 : decode cX0_init 30 = .ok (.return_, 1) := by decide +kernel
theorem dX0_countInside_0 : decode cX0_countInside 0 = .ok (.aload_n 1, 1) := by decide +kernel
theorem dX0_countInside_1 : decode cX0_countInside 1 = .ok (.iconst 3, 1) := by decide +kernel
theorem dX0_countInside_2 : decode cX0_countInside 2 = .ok (.invokestatic 23, 3) := by decide +kernel
theorem dX0_countInside_5 : decode cX0_countInside 5 = .ok (.istore_n 2, 1) := by decide +kernel
theorem dX0_countInside_6 : decode cX0_countInside 6 = .ok (.iconst 0, 1) := by decide +kernel
theorem dX0_countInside_7 : decode cX0_countInside 7 = .ok (.istore_n 3, 1) := by decide +kernel
theorem dX0_countInside_8 : decode cX0_countInside 8 = .ok (.aload_n 1, 1) := by decide +kernel
theorem dX0_countInside_9 : decode cX0_countInside 9 = .ok (.iconst 2, 1) := by decide +kernel
theorem dX0_countInside_10 : decode cX0_countInside 10 = .ok (.invokestatic 23, 3) := by decide +kernel
theorem dX0_countInside_13 : decode cX0_countInside 13 = .ok (.istore 4, 2) := by decide +kernel
theorem dX0_countInside_15 : decode cX0_countInside 15 = .ok (.iload 4, 2) := by decide +kernel
theorem dX0_countInside_17 : decode cX0_countInside 17 = .ok (.iload_n 2, 1) := by decide +kernel
theorem dX0_countInside_18 : decode cX0_countInside 18 = .ok (.if_icmp .gt 38, 3) := by decide +kernel
theorem dX0_countInside_21 : decode cX0_countInside 21 = .ok (.aload_n 1, 1) := by decide +kernel
theorem dX0_countInside_22 : decode cX0_countInside 22 = .ok (.iload 4, 2) := by decide +kernel
theorem dX0_countInside_24 : decode cX0_countInside 24 = .ok (.iconst 1, 1) := by decide +kernel
theorem dX0_countInside_25 : decode cX0_countInside 25 = .ok (.aload_n 0, 1) := by decide +kernel
theorem dX0_countInside_26 : decode cX0_countInside 26 = .ok (.getfield 14, 3) := by decide +kernel
theorem dX0_countInside_29 : decode cX0_countInside 29 = .ok (.invokestatic 29, 3) := by decide +kernel
theorem dX0_countInside_32 : decode cX0_countInside 32 = .ok (.aload_n 1, 1) := by decide +kernel
theorem dX0_countInside_33 : decode cX0_countInside 33 = .ok (.iload 4, 2) := by decide +kernel
theorem dX0_countInside_35 : decode cX0_countInside 35 = .ok (.iconst 0, 1) := by decide +kernel
theorem dX0_countInside_36 : decode cX0_countInside 36 = .ok (.aload_n 0, 1) := by decide +kernel
theorem dX0_countInside_37 : decode cX0_countInside 37 = .ok (.getfield 20, 3) := by decide +kernel
theorem dX0_countInside_40 : decode cX0_countInside 40 = .ok (.invokestatic 29, 3) := by decide +kernel
theorem dX0_countInside_43 : decode cX0_countInside 43 = .ok (.iload_n 3, 1) := by decide +kernel
theorem dX0_countInside_44 : decode cX0_countInside 44 = .ok (.aload_n 0, 1) := by decide +kernel
theorem dX0_countInside_45 : decode cX0_countInside 45 = .ok (.invokevirtual 33, 3) := by decide +kernel
theorem dX0_countInside_48 : decode cX0_countInside 48 = .ok (.iadd, 1) := by decide +kernel
theorem dX0_countInside_49 : decode cX0_countInside 49 = .ok (.istore_n 3, 1) := by decide +kernel
theorem dX0_countInside_50 : decode cX0_countInside 50 = .ok (.iinc 4 1, 3) := by decide +kernel
theorem dX0_countInside_53 : decode cX0_countInside 53 = .ok (.goto (-38), 3) := by decide +kernel
theorem dX0_countInside_56 : decode cX0_countInside 56 = .ok (.iload_n 3, 1) := by decide +kernel
theorem dX0_countInside_57 : decode cX0_countInside 57 = .ok (.ireturn, 1) := by decide +kernel
theorem dX0_cut_0 : decode cX0_cut 0 = .ok (.aload_n 3, 1) := by decide +kernel
theorem dX0_cut_1 : decode cX0_cut 1 = .ok (.invokevirtual 37, 3) := by decide +kernel
theorem dX0_cut_4 : decode cX0_cut 4 = .ok (.iconst 0, 1) := by decide +kernel
theorem dX0_cut_5 : decode cX0_cut 5 = .ok (.istore 4, 2) := by decide +kernel
theorem dX0_cut_7 : decode cX0_cut 7 = .ok (.iload 4, 2) := by decide +kernel
theorem dX0_cut_9 : decode cX0_cut 9 = .ok (.aload_n 0, 1) := by decide +kernel
theorem dX0_cut_10 : decode cX0_cut 10 = .ok (.invokevirtual 40, 3) := by decide +kernel
theorem dX0_cut_13 : decode cX0_cut 13 = .ok (.if_icmp .ge 193, 3) := by decide +kernel
theorem dX0_cut_16 : decode cX0_cut 16 = .ok (.aload_n 0, 1) := by decide +kernel
theorem dX0_cut_17 : decode cX0_cut 17 = .ok (.iload 4, 2) := by decide +kernel
theorem dX0_cut_19 : decode cX0_cut 19 = .ok (.invokestatic 43, 3) := by decide +kernel
theorem dX0_cut_22 : decode cX0_cut 22 = .ok (.ifCond .le 7, 3) := by decide +kernel
theorem dX0_cut_25 : decode cX0_cut 25 = .ok (.iconst 1, 1) := by decide +kernel
theorem dX0_cut_26 : decode cX0_cut 26 = .ok (.goto 4, 3) := by decide +kernel
theorem dX0_cut_29 : decode cX0_cut 29 = .ok (.iconst 0, 1) := by decide +kernel
theorem dX0_cut_30 : decode cX0_cut 30 = .ok (.istore 5, 2) := by decide +kernel
theorem dX0_cut_32 : decode cX0_cut 32 = .ok (.iload 5, 2) := by decide +kernel
theorem dX0_cut_34 : decode cX0_cut 34 = .ok (.ifCond .eq 8, 3) := by decide +kernel
theorem dX0_cut_37 : decode cX0_cut 37 = .ok (.iload 4, 2) := by decide +kernel
theorem dX0_cut_39 : decode cX0_cut 39 = .ok (.goto 9, 3) := by decide +kernel
theorem dX0_cut_42 : decode cX0_cut 42 = .ok (.aload_n 0, 1) := by decide +kernel
theorem dX0_cut_43 : decode cX0_cut 43 = .ok (.iload 4, 2) := by decide +kernel
theorem dX0_cut_45 : decode cX0_cut 45 = .ok (.invokevirtual 46, 3) := by decide +kernel
theorem dX0_cut_48 : decode cX0_cut 48 = .ok (.istore 6, 2) := by decide +kernel
theorem dX0_cut_50 : decode cX0_cut 50 = .ok (.iload 5, 2) := by decide +kernel
theorem dX0_cut_52 : decode cX0_cut 52 = .ok (.ifCond .eq 12, 3) := by decide +kernel
theorem dX0_cut_55 : decode cX0_cut 55 = .ok (.aload_n 0, 1) := by decide +kernel
theorem dX0_cut_56 : decode cX0_cut 56 = .ok (.iload 4, 2) := by decide +kernel
theorem dX0_cut_58 : decode cX0_cut 58 = .ok (.invokevirtual 46, 3) := by decide +kernel
theorem dX0_cut_61 : decode cX0_cut 61 = .ok (.goto 5, 3) := by decide +kernel
theorem dX0_cut_64 : decode cX0_cut 64 = .ok (.iload 4, 2) := by decide +kernel
theorem dX0_cut_66 : decode cX0_cut 66 = .ok (.istore 7, 2) := by decide +kernel
theorem dX0_cut_68 : decode cX0_cut 68 = .ok (.aload_n 0, 1) := by decide +kernel
theorem dX0_cut_69 : decode cX0_cut 69 = .ok (.iload 7, 2) := by decide +kernel
theorem dX0_cut_71 : decode cX0_cut 71 = .ok (.invokevirtual 50, 3) := by decide +kernel
theorem dX0_cut_74 : decode cX0_cut 74 = .ok (.aload_n 0, 1) := by decide +kernel
theorem dX0_cut_75 : decode cX0_cut 75 = .ok (.iload 6, 2) := by decide +kernel
theorem dX0_cut_77 : decode cX0_cut 77 = .ok (.invokevirtual 50, 3) := by decide +kernel
theorem dX0_cut_80 : decode cX0_cut 80 = .ok (.isub, 1) := by decide +kernel
theorem dX0_cut_81 : decode cX0_cut 81 = .ok (.istore 8, 2) := by decide +kernel
theorem dX0_cut_83 : decode cX0_cut 83 = .ok (.iload_n 1, 1) := by decide +kernel
theorem dX0_cut_84 : decode cX0_cut 84 = .ok (.aload_n 0, 1) := by decide +kernel
theorem dX0_cut_85 : decode cX0_cut 85 = .ok (.iload 6, 2) := by decide +kernel
theorem dX0_cut_87 : decode cX0_cut 87 = .ok (.invokevirtual 50, 3) := by decide +kernel
theorem dX0_cut_90 : decode cX0_cut 90 = .ok (.isub, 1) := by decide +kernel
theorem dX0_cut_91 : decode cX0_cut 91 = .ok (.istore 9, 2) := by decide +kernel
theorem dX0_cut_93 : decode cX0_cut 93 = .ok (.iload_n 2, 1) := by decide +kernel
theorem dX0_cut_94 : decode cX0_cut 94 = .ok (.ifCond .eq 23, 3) := by decide +kernel
theorem dX0_cut_97 : decode cX0_cut 97 = .ok (.iload 9, 2) := by decide +kernel
theorem dX0_cut_99 : decode cX0_cut 99 = .ok (.ifCond .lt 14, 3) := by decide +kernel
theorem dX0_cut_102 : decode cX0_cut 102 = .ok (.iload 9, 2) := by decide +kernel
theorem dX0_cut_104 : decode cX0_cut 104 = .ok (.iload 8, 2) := by decide +kernel
theorem dX0_cut_106 : decode cX0_cut 106 = .ok (.if_icmp .ge 7, 3) := by decide +kernel
theorem dX0_cut_109 : decode cX0_cut 109 = .ok (.iconst 1, 1) := by decide +kernel
theorem dX0_cut_110 : decode cX0_cut 110 = .ok (.goto 24, 3) := by decide +kernel
theorem dX0_cut_113 : decode cX0_cut 113 = .ok (.iconst 0, 1) := by decide +kernel
theorem dX0_cut_114 : decode cX0_cut 114 = .ok (.goto 20, 3) := by decide +kernel
theorem dX0_cut_117 : decode cX0_cut 117 = .ok (.iload 9, 2) := by decide +kernel
theorem dX0_cut_119 : decode cX0_cut 119 = .ok (.ifCond .le 14, 3) := by decide +kernel
theorem dX0_cut_122 : decode cX0_cut 122 = .ok (.iload 9, 2) := by decide +kernel
theorem dX0_cut_124 : decode cX0_cut 124 = .ok (.iload 8, 2) := by decide +kernel
theorem dX0_cut_126 : decode cX0_cut 126 = .ok (.if_icmp .gt 7, 3) := by decide +kernel
theorem dX0_cut_129 : decode cX0_cut 129 = .ok (.iconst 1, 1) := by decide +kernel
theorem dX0_cut_130 : decode cX0_cut 130 = .ok (.goto 4, 3) := by decide +kernel
theorem dX0_cut_133 : decode cX0_cut 133 = .ok (.iconst 0, 1) := by decide +kernel
theorem dX0_cut_134 : decode cX0_cut 134 = .ok (.istore 10, 2) := by decide +kernel
theorem dX0_cut_136 : decode cX0_cut 136 = .ok (.iload 10, 2) := by decide +kernel
theorem dX0_cut_138 : decode cX0_cut 138 = .ok (.ifCond .eq 62, 3) := by decide +kernel
theorem dX0_cut_141 : decode cX0_cut 141 = .ok (.iload 8, 2) := by decide +kernel
theorem dX0_cut_143 : decode cX0_cut 143 = .ok (.ifCond .le 57, 3) := by decide +kernel
theorem dX0_cut_146 : decode cX0_cut 146 = .ok (.aload_n 0, 1) := by decide +kernel
theorem dX0_cut_147 : decode cX0_cut 147 = .ok (.iload 7, 2) := by decide +kernel
theorem dX0_cut_149 : decode cX0_cut 149 = .ok (.invokevirtual 53, 3) := by decide +kernel
theorem dX0_cut_152 : decode cX0_cut 152 = .ok (.aload_n 0, 1) := by decide +kernel
theorem dX0_cut_153 : decode cX0_cut 153 = .ok (.iload 6, 2) := by decide +kernel
theorem dX0_cut_155 : decode cX0_cut 155 = .ok (.invokevirtual 53, 3) := by decide +kernel
theorem dX0_cut_158 : decode cX0_cut 158 = .ok (.isub, 1) := by decide +kernel
theorem dX0_cut_159 : decode cX0_cut 159 = .ok (.istore 11, 2) := by decide +kernel
theorem dX0_cut_161 : decode cX0_cut 161 = .ok (.aload_n 0, 1) := by decide +kernel
theorem dX0_cut_162 : decode cX0_cut 162 = .ok (.iload 6, 2) := by decide +kernel
theorem dX0_cut_164 : decode cX0_cut 164 = .ok (.invokevirtual 53, 3) := by decide +kernel
theorem dX0_cut_167 : decode cX0_cut 167 = .ok (.iload 8, 2) := by decide +kernel
theorem dX0_cut_169 : decode cX0_cut 169 = .ok (.imul, 1) := by decide +kernel
theorem dX0_cut_170 : decode cX0_cut 170 = .ok (.iload 9, 2) := by decide +kernel
theorem dX0_cut_172 : decode cX0_cut 172 = .ok (.iload 11, 2) := by decide +kernel
theorem dX0_cut_174 : decode cX0_cut 174 = .ok (.imul, 1) := by decide +kernel
theorem dX0_cut_175 : decode cX0_cut 175 = .ok (.iadd, 1) := by decide +kernel
theorem dX0_cut_176 : decode cX0_cut 176 = .ok (.istore 12, 2) := by decide +kernel
theorem dX0_cut_178 : decode cX0_cut 178 = .ok (.aload_n 3, 1) := by decide +kernel
theorem dX0_cut_179 : decode cX0_cut 179 = .ok (.iload 12, 2) := by decide +kernel
theorem dX0_cut_181 : decode cX0_cut 181 = .ok (.iload 8, 2) := by decide +kernel
theorem dX0_cut_183 : decode cX0_cut 183 = .ok (.invokestatic 56, 3) := by decide +kernel
theorem dX0_cut_186 : decode cX0_cut 186 = .ok (.iload 12, 2) := by decide +kernel
theorem dX0_cut_188 : decode cX0_cut 188 = .ok (.ineg, 1) := by decide +kernel
theorem dX0_cut_189 : decode cX0_cut 189 = .ok (.iload 8, 2) := by decide +kernel
theorem dX0_cut_191 : decode cX0_cut 191 = .ok (.invokestatic 56, 3) := by decide +kernel
theorem dX0_cut_194 : decode cX0_cut 194 = .ok (.isub, 1) := by decide +kernel
theorem dX0_cut_195 : decode cX0_cut 195 = .ok (.iconst 0, 1) := by decide +kernel
theorem dX0_cut_196 : decode cX0_cut 196 = .ok (.iconst 0, 1) := by decide +kernel
theorem dX0_cut_197 : decode cX0_cut 197 = .ok (.invokevirtual 62, 3) := by decide +kernel
theorem dX0_cut_200 : decode cX0_cut 200 = .ok (.iinc 4 1, 3) := by decide +kernel
theorem dX0_cut_203 : decode cX0_cut 203 = .ok (.goto (-196), 3) := by decide +kernel
theorem dX0_cut_206 : decode cX0_cut 206 = .ok (.return_, 1) := by decide +kernel
theorem dX0_countCommon_0 : decode cX0_countCommon 0 = .ok (.iconst 0, 1) := by decide +kernel
theorem dX0_countCommon_1 : decode cX0_countCommon 1 = .ok (.istore_n 1, 1) := by decide +kernel
theorem dX0_countCommon_2 : decode cX0_countCommon 2 = .ok (.iconst 0, 1) := by decide +kernel
theorem dX0_countCommon_3 : decode cX0_countCommon 3 = .ok (.istore_n 2, 1) := by decide +kernel
theorem dX0_countCommon_4 : decode cX0_countCommon 4 = .ok (.iload_n 2, 1) := by decide +kernel
theorem dX0_countCommon_5 : decode cX0_countCommon 5 = .ok (.iconst 1, 1) := by decide +kernel
theorem dX0_countCommon_6 : decode cX0_countCommon 6 = .ok (.iadd, 1) := by decide +kernel
theorem dX0_countCommon_7 : decode cX0_countCommon 7 = .ok (.aload_n 0, 1) := by decide +kernel
theorem dX0_countCommon_8 : decode cX0_countCommon 8 = .ok (.getfield 14, 3) := by decide +kernel
theorem dX0_countCommon_11 : decode cX0_countCommon 11 = .ok (.invokevirtual 40, 3) := by decide +kernel
theorem dX0_countCommon_14 : decode cX0_countCommon 14 = .ok (.if_icmp .ge 86, 3) := by decide +kernel
theorem dX0_countCommon_17 : decode cX0_countCommon 17 = .ok (.iconst 0, 1) := by decide +kernel
theorem dX0_countCommon_18 : decode cX0_countCommon 18 = .ok (.istore_n 3, 1) := by decide +kernel
theorem dX0_countCommon_19 : decode cX0_countCommon 19 = .ok (.iload_n 3, 1) := by decide +kernel
theorem dX0_countCommon_20 : decode cX0_countCommon 20 = .ok (.iconst 1, 1) := by decide +kernel
theorem dX0_countCommon_21 : decode cX0_countCommon 21 = .ok (.iadd, 1) := by decide +kernel
theorem dX0_countCommon_22 : decode cX0_countCommon 22 = .ok (.aload_n 0, 1) := by decide +kernel
theorem dX0_countCommon_23 : decode cX0_countCommon 23 = .ok (.getfield 20, 3) := by decide +kernel
theorem dX0_countCommon_26 : decode cX0_countCommon 26 = .ok (.invokevirtual 40, 3) := by decide +kernel
theorem dX0_countCommon_29 : decode cX0_countCommon 29 = .ok (.if_icmp .ge 65, 3) := by decide +kernel
theorem dX0_countCommon_32 : decode cX0_countCommon 32 = .ok (.aload_n 0, 1) := by decide +kernel
theorem dX0_countCommon_33 : decode cX0_countCommon 33 = .ok (.getfield 14, 3) := by decide +kernel
theorem dX0_countCommon_36 : decode cX0_countCommon 36 = .ok (.iload_n 2, 1) := by decide +kernel
theorem dX0_countCommon_37 : decode cX0_countCommon 37 = .ok (.invokestatic 66, 3) := by decide +kernel
theorem dX0_countCommon_40 : decode cX0_countCommon 40 = .ok (.aload_n 0, 1) := by decide +kernel
theorem dX0_countCommon_41 : decode cX0_countCommon 41 = .ok (.getfield 20, 3) := by decide +kernel
theorem dX0_countCommon_44 : decode cX0_countCommon 44 = .ok (.iload_n 3, 1) := by decide +kernel
theorem dX0_countCommon_45 : decode cX0_countCommon 45 = .ok (.invokestatic 66, 3) := by decide +kernel
theorem dX0_countCommon_48 : decode cX0_countCommon 48 = .ok (.invokestatic 69, 3) := by decide +kernel
theorem dX0_countCommon_51 : decode cX0_countCommon 51 = .ok (.istore 4, 2) := by decide +kernel
theorem dX0_countCommon_53 : decode cX0_countCommon 53 = .ok (.aload_n 0, 1) := by decide +kernel
theorem dX0_countCommon_54 : decode cX0_countCommon 54 = .ok (.getfield 14, 3) := by decide +kernel
theorem dX0_countCommon_57 : decode cX0_countCommon 57 = .ok (.iload_n 2, 1) := by decide +kernel
theorem dX0_countCommon_58 : decode cX0_countCommon 58 = .ok (.invokestatic 72, 3) := by decide +kernel
theorem dX0_countCommon_61 : decode cX0_countCommon 61 = .ok (.aload_n 0, 1) := by decide +kernel
theorem dX0_countCommon_62 : decode cX0_countCommon 62 = .ok (.getfield 20, 3) := by decide +kernel
theorem dX0_countCommon_65 : decode cX0_countCommon 65 = .ok (.iload_n 3, 1) := by decide +kernel
theorem dX0_countCommon_66 : decode cX0_countCommon 66 = .ok (.invokestatic 72, 3) := by decide +kernel
theorem dX0_countCommon_69 : decode cX0_countCommon 69 = .ok (.invokestatic 75, 3) := by decide +kernel
theorem dX0_countCommon_72 : decode cX0_countCommon 72 = .ok (.istore 5, 2) := by decide +kernel
theorem dX0_countCommon_74 : decode cX0_countCommon 74 = .ok (.iload_n 1, 1) := by decide +kernel
theorem dX0_countCommon_75 : decode cX0_countCommon 75 = .ok (.iload 5, 2) := by decide +kernel
theorem dX0_countCommon_77 : decode cX0_countCommon 77 = .ok (.iload 4, 2) := by decide +kernel
theorem dX0_countCommon_79 : decode cX0_countCommon 79 = .ok (.isub, 1) := by decide +kernel
theorem dX0_countCommon_80 : decode cX0_countCommon 80 = .ok (.iconst 1, 1) := by decide +kernel
theorem dX0_countCommon_81 : decode cX0_countCommon 81 = .ok (.iadd, 1) := by decide +kernel
theorem dX0_countCommon_82 : decode cX0_countCommon 82 = .ok (.iconst 0, 1) := by decide +kernel
theorem dX0_countCommon_83 : decode cX0_countCommon 83 = .ok (.invokestatic 69, 3) := by decide +kernel
theorem dX0_countCommon_86 : decode cX0_countCommon 86 = .ok (.iadd, 1) := by decide +kernel
theorem dX0_countCommon_87 : decode cX0_countCommon 87 = .ok (.istore_n 1, 1) := by decide +kernel
theorem dX0_countCommon_88 : decode cX0_countCommon 88 = .ok (.iinc 3 2, 3) := by decide +kernel
theorem dX0_countCommon_91 : decode cX0_countCommon 91 = .ok (.goto (-72), 3) := by decide +kernel
theorem dX0_countCommon_94 : decode cX0_countCommon 94 = .ok (.iinc 2 2, 3) := by decide +kernel
theorem dX0_countCommon_97 : decode cX0_countCommon 97 = .ok (.goto (-93), 3) := by decide +kernel
theorem dX0_countCommon_100 : decode cX0_countCommon 100 = .ok (.iload_n 1, 1) := by decide +kernel
theorem dX0_countCommon_101 : decode cX0_countCommon 101 = .ok (.ireturn, 1) := by decide +kernel
theorem dX0_firstInside_0 : decode cX0_firstInside 0 = .ok (.aload_n 0, 1) := by decide +kernel
theorem dX0_firstInside_1 : decode cX0_firstInside 1 = .ok (.iload_n 1, 1) := by decide +kernel
theorem dX0_firstInside_2 : decode cX0_firstInside 2 = .ok (.invokevirtual 53, 3) := by decide +kernel
theorem dX0_firstInside_5 : decode cX0_firstInside 5 = .ok (.iconst 2, 1) := by decide +kernel
theorem dX0_firstInside_6 : decode cX0_firstInside 6 = .ok (.invokestatic 56, 3) := by decide +kernel
theorem dX0_firstInside_9 : decode cX0_firstInside 9 = .ok (.iconst 1, 1) := by decide +kernel
theorem dX0_firstInside_10 : decode cX0_firstInside 10 = .ok (.iadd, 1) := by decide +kernel
theorem dX0_firstInside_11 : decode cX0_firstInside 11 = .ok (.ireturn, 1) := by decide +kernel
theorem dX0_lastInside_0 : decode cX0_lastInside 0 = .ok (.aload_n 0, 1) := by decide +kernel
theorem dX0_lastInside_1 : decode cX0_lastInside 1 = .ok (.iload_n 1, 1) := by decide +kernel
theorem dX0_lastInside_2 : decode cX0_lastInside 2 = .ok (.iconst 1, 1) := by decide +kernel
theorem dX0_lastInside_3 : decode cX0_lastInside 3 = .ok (.iadd, 1) := by decide +kernel
theorem dX0_lastInside_4 : decode cX0_lastInside 4 = .ok (.invokevirtual 53, 3) := by decide +kernel
theorem dX0_lastInside_7 : decode cX0_lastInside 7 = .ok (.iconst 1, 1) := by decide +kernel
theorem dX0_lastInside_8 : decode cX0_lastInside 8 = .ok (.iadd, 1) := by decide +kernel
theorem dX0_lastInside_9 : decode cX0_lastInside 9 = .ok (.iconst 2, 1) := by decide +kernel
theorem dX0_lastInside_10 : decode cX0_lastInside 10 = .ok (.invokestatic 56, 3) := by decide +kernel
theorem dX0_lastInside_13 : decode cX0_lastInside 13 = .ok (.iconst 1, 1) := by decide +kernel
theorem dX0_lastInside_14 : decode cX0_lastInside 14 = .ok (.isub, 1) := by decide +kernel
theorem dX0_lastInside_15 : decode cX0_lastInside 15 = .ok (.ireturn, 1) := by decide +kernel
theorem dX1_wrap_0 : decode cX1_wrap 0 = .ok (.aload_n 1, 1) := by decide +kernel
theorem dX1_wrap_1 : decode cX1_wrap 1 = .ok (.invokevirtual 7, 3) := by decide +kernel
theorem dX1_wrap_4 : decode cX1_wrap 4 = .ok (.iconst 0, 1) := by decide +kernel
theorem dX1_wrap_5 : decode cX1_wrap 5 = .ok (.istore_n 2, 1) := by decide +kernel
theorem dX1_wrap_6 : decode cX1_wrap 6 = .ok (.iload_n 2, 1) := by decide +kernel
theorem dX1_wrap_7 : decode cX1_wrap 7 = .ok (.aload_n 0, 1) := by decide +kernel
theorem dX1_wrap_8 : decode cX1_wrap 8 = .ok (.invokevirtual 12, 3) := by decide +kernel
theorem dX1_wrap_11 : decode cX1_wrap 11 = .ok (.if_icmp .ge 24, 3) := by decide +kernel
theorem dX1_wrap_14 : decode cX1_wrap 14 = .ok (.aload_n 1, 1) := by decide +kernel
theorem dX1_wrap_15 : decode cX1_wrap 15 = .ok (.iconst 1, 1) := by decide +kernel
theorem dX1_wrap_16 : decode cX1_wrap 16 = .ok (.aload_n 0, 1) := by decide +kernel
theorem dX1_wrap_17 : decode cX1_wrap 17 = .ok (.iload_n 2, 1) := by decide +kernel
theorem dX1_wrap_18 : decode cX1_wrap 18 = .ok (.invokevirtual 16, 3) := by decide +kernel
theorem dX1_wrap_21 : decode cX1_wrap 21 = .ok (.aload_n 0, 1) := by decide +kernel
theorem dX1_wrap_22 : decode cX1_wrap 22 = .ok (.iload_n 2, 1) := by decide +kernel
theorem dX1_wrap_23 : decode cX1_wrap 23 = .ok (.invokevirtual 20, 3) := by decide +kernel
theorem dX1_wrap_26 : decode cX1_wrap 26 = .ok (.invokestatic 23, 3) := by decide +kernel
theorem dX1_wrap_29 : decode cX1_wrap 29 = .ok (.iinc 2 1, 3) := by decide +kernel
theorem dX1_wrap_32 : decode cX1_wrap 32 = .ok (.goto (-26), 3) := by decide +kernel
theorem dX1_wrap_35 : decode cX1_wrap 35 = .ok (.aload_n 1, 1) := by decide +kernel
theorem dX1_wrap_36 : decode cX1_wrap 36 = .ok (.invokevirtual 12, 3) := by decide +kernel
theorem dX1_wrap_39 : decode cX1_wrap 39 = .ok (.istore_n 2, 1) := by decide +kernel
theorem dX1_wrap_40 : decode cX1_wrap 40 = .ok (.aload_n 0, 1) := by decide +kernel
theorem dX1_wrap_41 : decode cX1_wrap 41 = .ok (.invokevirtual 12, 3) := by decide +kernel
theorem dX1_wrap_44 : decode cX1_wrap 44 = .ok (.iconst 2, 1) := by decide +kernel
theorem dX1_wrap_45 : decode cX1_wrap 45 = .ok (.isub, 1) := by decide +kernel
theorem dX1_wrap_46 : decode cX1_wrap 46 = .ok (.istore_n 3, 1) := by decide +kernel
theorem dX1_wrap_47 : decode cX1_wrap 47 = .ok (.iload_n 3, 1) := by decide +kernel
theorem dX1_wrap_48 : decode cX1_wrap 48 = .ok (.ifCond .lt 24, 3) := by decide +kernel
theorem dX1_wrap_51 : decode cX1_wrap 51 = .ok (.aload_n 1, 1) := by decide +kernel
theorem dX1_wrap_52 : decode cX1_wrap 52 = .ok (.iload_n 2, 1) := by decide +kernel
theorem dX1_wrap_53 : decode cX1_wrap 53 = .ok (.aload_n 0, 1) := by decide +kernel
theorem dX1_wrap_54 : decode cX1_wrap 54 = .ok (.iload_n 3, 1) := by decide +kernel
theorem dX1_wrap_55 : decode cX1_wrap 55 = .ok (.invokevirtual 16, 3) := by decide +kernel
theorem dX1_wrap_58 : decode cX1_wrap 58 = .ok (.aload_n 0, 1) := by decide +kernel
theorem dX1_wrap_59 : decode cX1_wrap 59 = .ok (.iload_n 3, 1) := by decide +kernel
theorem dX1_wrap_60 : decode cX1_wrap 60 = .ok (.invokevirtual 20, 3) := by decide +kernel
theorem dX1_wrap_63 : decode cX1_wrap 63 = .ok (.invokestatic 23, 3) := by decide +kernel
theorem dX1_wrap_66 : decode cX1_wrap 66 = .ok (.iinc 3 (-1), 3) := by decide +kernel
theorem dX1_wrap_69 : decode cX1_wrap 69 = .ok (.goto (-22), 3) := by decide +kernel
theorem dX1_wrap_72 : decode cX1_wrap 72 = .ok (.aload_n 1, 1) := by decide +kernel
theorem dX1_wrap_73 : decode cX1_wrap 73 = .ok (.invokevirtual 12, 3) := by decide +kernel
theorem dX1_wrap_76 : decode cX1_wrap 76 = .ok (.iconst 1, 1) := by decide +kernel
theorem dX1_wrap_77 : decode cX1_wrap 77 = .ok (.if_icmp .le 7, 3) := by decide +kernel
theorem dX1_wrap_80 : decode cX1_wrap 80 = .ok (.aload_n 1, 1) := by decide +kernel
theorem dX1_wrap_81 : decode cX1_wrap 81 = .ok (.invokevirtual 29, 3) := by decide +kernel
theorem dX1_wrap_84 : decode cX1_wrap 84 = .ok (.return_, 1) := by decide +kernel
theorem dX1_bendTo_0 : decode cX1_bendTo 0 = .ok (.aload_n 0, 1) := by decide +kernel
theorem dX1_bendTo_1 : decode cX1_bendTo 1 = .ok (.invokevirtual 12, 3) := by decide +kernel
theorem dX1_bendTo_4 : decode cX1_bendTo 4 = .ok (.iconst 1, 1) := by decide +kernel
theorem dX1_bendTo_5 : decode cX1_bendTo 5 = .ok (.isub, 1) := by decide +kernel
theorem dX1_bendTo_6 : decode cX1_bendTo 6 = .ok (.istore 4, 2) := by decide +kernel
theorem dX1_bendTo_8 : decode cX1_bendTo 8 = .ok (.iload 4, 2) := by decide +kernel
theorem dX1_bendTo_10 : decode cX1_bendTo 10 = .ok (.ifCond .lt 15, 3) := by decide +kernel
theorem dX1_bendTo_13 : decode cX1_bendTo 13 = .ok (.aload_n 0, 1) := by decide +kernel
theorem dX1_bendTo_14 : decode cX1_bendTo 14 = .ok (.iload 4, 2) := by decide +kernel
theorem dX1_bendTo_16 : decode cX1_bendTo 16 = .ok (.iload_n 2, 1) := by decide +kernel
theorem dX1_bendTo_17 : decode cX1_bendTo 17 = .ok (.iload_n 3, 1) := by decide +kernel
theorem dX1_bendTo_18 : decode cX1_bendTo 18 = .ok (.invokevirtual 32, 3) := by decide +kernel
theorem dX1_bendTo_21 : decode cX1_bendTo 21 = .ok (.ifCond .eq 4, 3) := by decide +kernel
theorem dX1_bendTo_24 : decode cX1_bendTo 24 = .ok (.return_, 1) := by decide +kernel
theorem dX1_bendTo_25 : decode cX1_bendTo 25 = .ok (.iload 4, 2) := by decide +kernel
theorem dX1_bendTo_27 : decode cX1_bendTo 27 = .ok (.iload_n 1, 1) := by decide +kernel
theorem dX1_bendTo_28 : decode cX1_bendTo 28 = .ok (.if_icmp .lt 24, 3) := by decide +kernel
theorem dX1_bendTo_31 : decode cX1_bendTo 31 = .ok (.aload_n 0, 1) := by decide +kernel
theorem dX1_bendTo_32 : decode cX1_bendTo 32 = .ok (.iload 4, 2) := by decide +kernel
theorem dX1_bendTo_34 : decode cX1_bendTo 34 = .ok (.iload_n 2, 1) := by decide +kernel
theorem dX1_bendTo_35 : decode cX1_bendTo 35 = .ok (.iload_n 3, 1) := by decide +kernel
theorem dX1_bendTo_36 : decode cX1_bendTo 36 = .ok (.invokestatic 36, 3) := by decide +kernel
theorem dX1_bendTo_39 : decode cX1_bendTo 39 = .ok (.ifCond .ne 13, 3) := by decide +kernel
theorem dX1_bendTo_42 : decode cX1_bendTo 42 = .ok (.aload_n 0, 1) := by decide +kernel
theorem dX1_bendTo_43 : decode cX1_bendTo 43 = .ok (.invokevirtual 29, 3) := by decide +kernel
theorem dX1_bendTo_46 : decode cX1_bendTo 46 = .ok (.iinc 4 (-1), 3) := by decide +kernel
theorem dX1_bendTo_49 : decode cX1_bendTo 49 = .ok (.goto (-24), 3) := by decide +kernel
theorem dX1_bendTo_52 : decode cX1_bendTo 52 = .ok (.aload_n 0, 1) := by decide +kernel
theorem dX1_bendTo_53 : decode cX1_bendTo 53 = .ok (.iload_n 2, 1) := by decide +kernel
theorem dX1_bendTo_54 : decode cX1_bendTo 54 = .ok (.iload_n 3, 1) := by decide +kernel
theorem dX1_bendTo_55 : decode cX1_bendTo 55 = .ok (.iconst 0, 1) := by decide +kernel
theorem dX1_bendTo_56 : decode cX1_bendTo 56 = .ok (.invokevirtual 40, 3) := by decide +kernel
theorem dX1_bendTo_59 : decode cX1_bendTo 59 = .ok (.return_, 1) := by decide +kernel
theorem dX1_turnsLeft_0 : decode cX1_turnsLeft 0 = .ok (.aload_n 0, 1) := by decide +kernel
theorem dX1_turnsLeft_1 : decode cX1_turnsLeft 1 = .ok (.iload_n 1, 1) := by decide +kernel
theorem dX1_turnsLeft_2 : decode cX1_turnsLeft 2 = .ok (.iconst 1, 1) := by decide +kernel
theorem dX1_turnsLeft_3 : decode cX1_turnsLeft 3 = .ok (.isub, 1) := by decide +kernel
theorem dX1_turnsLeft_4 : decode cX1_turnsLeft 4 = .ok (.invokevirtual 16, 3) := by decide +kernel
theorem dX1_turnsLeft_7 : decode cX1_turnsLeft 7 = .ok (.i2l, 1) := by decide +kernel
theorem dX1_turnsLeft_8 : decode cX1_turnsLeft 8 = .ok (.aload_n 0, 1) := by decide +kernel
theorem dX1_turnsLeft_9 : decode cX1_turnsLeft 9 = .ok (.iload_n 1, 1) := by decide +kernel
theorem dX1_turnsLeft_10 : decode cX1_turnsLeft 10 = .ok (.iconst 1, 1) := by decide +kernel
theorem dX1_turnsLeft_11 : decode cX1_turnsLeft 11 = .ok (.isub, 1) := by decide +kernel
theorem dX1_turnsLeft_12 : decode cX1_turnsLeft 12 = .ok (.invokevirtual 20, 3) := by decide +kernel
theorem dX1_turnsLeft_15 : decode cX1_turnsLeft 15 = .ok (.i2l, 1) := by decide +kernel
theorem dX1_turnsLeft_16 : decode cX1_turnsLeft 16 = .ok (.aload_n 0, 1) := by decide +kernel
theorem dX1_turnsLeft_17 : decode cX1_turnsLeft 17 = .ok (.iload_n 1, 1) := by decide +kernel
theorem dX1_turnsLeft_18 : decode cX1_turnsLeft 18 = .ok (.invokevirtual 16, 3) := by decide +kernel
theorem dX1_turnsLeft_21 : decode cX1_turnsLeft 21 = .ok (.i2l, 1) := by decide +kernel
theorem dX1_turnsLeft_22 : decode cX1_turnsLeft 22 = .ok (.aload_n 0, 1) := by decide +kernel
theorem dX1_turnsLeft_23 : decode cX1_turnsLeft 23 = .ok (.iload_n 1, 1) := by decide +kernel
theorem dX1_turnsLeft_24 : decode cX1_turnsLeft 24 = .ok (.invokevirtual 20, 3) := by decide +kernel
theorem dX1_turnsLeft_27 : decode cX1_turnsLeft 27 = .ok (.i2l, 1) := by decide +kernel
theorem dX1_turnsLeft_28 : decode cX1_turnsLeft 28 = .ok (.iload_n 2, 1) := by decide +kernel
theorem dX1_turnsLeft_29 : decode cX1_turnsLeft 29 = .ok (.i2l, 1) := by decide +kernel
theorem dX1_turnsLeft_30 : decode cX1_turnsLeft 30 = .ok (.iload_n 3, 1) := by decide +kernel
theorem dX1_turnsLeft_31 : decode cX1_turnsLeft 31 = .ok (.i2l, 1) := by decide +kernel
theorem dX1_turnsLeft_32 : decode cX1_turnsLeft 32 = .ok (.invokestatic 44, 3) := by decide +kernel
theorem dX1_turnsLeft_35 : decode cX1_turnsLeft 35 = .ok (.lconst 0, 1) := by decide +kernel
theorem dX1_turnsLeft_36 : decode cX1_turnsLeft 36 = .ok (.lcmp, 1) := by decide +kernel
theorem dX1_turnsLeft_37 : decode cX1_turnsLeft 37 = .ok (.ifCond .le 7, 3) := by decide +kernel
theorem dX1_turnsLeft_40 : decode cX1_turnsLeft 40 = .ok (.iconst 1, 1) := by decide +kernel
theorem dX1_turnsLeft_41 : decode cX1_turnsLeft 41 = .ok (.goto 4, 3) := by decide +kernel
theorem dX1_turnsLeft_44 : decode cX1_turnsLeft 44 = .ok (.iconst 0, 1) := by decide +kernel
theorem dX1_turnsLeft_45 : decode cX1_turnsLeft 45 = .ok (.ireturn, 1) := by decide +kernel
theorem dX1_peel_0 : decode cX1_peel 0 = .ok (.aload_n 0, 1) := by decide +kernel
theorem dX1_peel_1 : decode cX1_peel 1 = .ok (.aload_n 1, 1) := by decide +kernel
theorem dX1_peel_2 : decode cX1_peel 2 = .ok (.invokestatic 50, 3) := by decide +kernel
theorem dX1_peel_5 : decode cX1_peel 5 = .ok (.aload_n 0, 1) := by decide +kernel
theorem dX1_peel_6 : decode cX1_peel 6 = .ok (.invokevirtual 12, 3) := by decide +kernel
theorem dX1_peel_9 : decode cX1_peel 9 = .ok (.iconst 1, 1) := by decide +kernel
theorem dX1_peel_10 : decode cX1_peel 10 = .ok (.isub, 1) := by decide +kernel
theorem dX1_peel_11 : decode cX1_peel 11 = .ok (.istore_n 2, 1) := by decide +kernel
theorem dX1_peel_12 : decode cX1_peel 12 = .ok (.iload_n 2, 1) := by decide +kernel
theorem dX1_peel_13 : decode cX1_peel 13 = .ok (.ifCond .lt 34, 3) := by decide +kernel
theorem dX1_peel_16 : decode cX1_peel 16 = .ok (.aload_n 1, 1) := by decide +kernel
theorem dX1_peel_17 : decode cX1_peel 17 = .ok (.iconst 1, 1) := by decide +kernel
theorem dX1_peel_18 : decode cX1_peel 18 = .ok (.aload_n 0, 1) := by decide +kernel
theorem dX1_peel_19 : decode cX1_peel 19 = .ok (.iload_n 2, 1) := by decide +kernel
theorem dX1_peel_20 : decode cX1_peel 20 = .ok (.invokevirtual 16, 3) := by decide +kernel
theorem dX1_peel_23 : decode cX1_peel 23 = .ok (.i2l, 1) := by decide +kernel
theorem dX1_peel_24 : decode cX1_peel 24 = .ok (.aload_n 0, 1) := by decide +kernel
theorem dX1_peel_25 : decode cX1_peel 25 = .ok (.iload_n 2, 1) := by decide +kernel
theorem dX1_peel_26 : decode cX1_peel 26 = .ok (.invokevirtual 20, 3) := by decide +kernel
theorem dX1_peel_29 : decode cX1_peel 29 = .ok (.i2l, 1) := by decide +kernel
theorem dX1_peel_30 : decode cX1_peel 30 = .ok (.invokestatic 54, 3) := by decide +kernel
theorem dX1_peel_33 : decode cX1_peel 33 = .ok (.ifCond .gt 8, 3) := by decide +kernel
theorem dX1_peel_36 : decode cX1_peel 36 = .ok (.aload_n 0, 1) := by decide +kernel
theorem dX1_peel_37 : decode cX1_peel 37 = .ok (.iload_n 2, 1) := by decide +kernel
theorem dX1_peel_38 : decode cX1_peel 38 = .ok (.invokevirtual 60, 3) := by decide +kernel
theorem dX1_peel_41 : decode cX1_peel 41 = .ok (.iinc 2 (-1), 3) := by decide +kernel
theorem dX1_peel_44 : decode cX1_peel 44 = .ok (.goto (-32), 3) := by decide +kernel
theorem dX1_peel_47 : decode cX1_peel 47 = .ok (.return_, 1) := by decide +kernel
theorem dX1_addUp_0 : decode cX1_addUp 0 = .ok (.aload_n 0, 1) := by decide +kernel
theorem dX1_addUp_1 : decode cX1_addUp 1 = .ok (.invokevirtual 12, 3) := by decide +kernel
theorem dX1_addUp_4 : decode cX1_addUp 4 = .ok (.iconst 1, 1) := by decide +kernel
theorem dX1_addUp_5 : decode cX1_addUp 5 = .ok (.if_icmp .le 10, 3) := by decide +kernel
theorem dX1_addUp_8 : decode cX1_addUp 8 = .ok (.aload_n 0, 1) := by decide +kernel
theorem dX1_addUp_9 : decode cX1_addUp 9 = .ok (.invokevirtual 12, 3) := by decide +kernel
theorem dX1_addUp_12 : decode cX1_addUp 12 = .ok (.goto 4, 3) := by decide +kernel
theorem dX1_addUp_15 : decode cX1_addUp 15 = .ok (.iconst 0, 1) := by decide +kernel
theorem dX1_addUp_16 : decode cX1_addUp 16 = .ok (.istore_n 3, 1) := by decide +kernel
theorem dX1_addUp_17 : decode cX1_addUp 17 = .ok (.aload_n 1, 1) := by decide +kernel
theorem dX1_addUp_18 : decode cX1_addUp 18 = .ok (.invokevirtual 12, 3) := by decide +kernel
theorem dX1_addUp_21 : decode cX1_addUp 21 = .ok (.iconst 1, 1) := by decide +kernel
theorem dX1_addUp_22 : decode cX1_addUp 22 = .ok (.if_icmp .le 10, 3) := by decide +kernel
theorem dX1_addUp_25 : decode cX1_addUp 25 = .ok (.aload_n 1, 1) := by decide +kernel
theorem dX1_addUp_26 : decode cX1_addUp 26 = .ok (.invokevirtual 12, 3) := by decide +kernel
theorem dX1_addUp_29 : decode cX1_addUp 29 = .ok (.goto 4, 3) := by decide +kernel
theorem dX1_addUp_32 : decode cX1_addUp 32 = .ok (.iconst 0, 1) := by decide +kernel
theorem dX1_addUp_33 : decode cX1_addUp 33 = .ok (.istore 4, 2) := by decide +kernel
theorem dX1_addUp_35 : decode cX1_addUp 35 = .ok (.aload_n 0, 1) := by decide +kernel
theorem dX1_addUp_36 : decode cX1_addUp 36 = .ok (.iconst 0, 1) := by decide +kernel
theorem dX1_addUp_37 : decode cX1_addUp 37 = .ok (.invokevirtual 16, 3) := by decide +kernel
theorem dX1_addUp_40 : decode cX1_addUp 40 = .ok (.aload_n 1, 1) := by decide +kernel
theorem dX1_addUp_41 : decode cX1_addUp 41 = .ok (.iconst 0, 1) := by decide +kernel
theorem dX1_addUp_42 : decode cX1_addUp 42 = .ok (.invokevirtual 16, 3) := by decide +kernel
theorem dX1_addUp_45 : decode cX1_addUp 45 = .ok (.iadd, 1) := by decide +kernel
theorem dX1_addUp_46 : decode cX1_addUp 46 = .ok (.istore 5, 2) := by decide +kernel
theorem dX1_addUp_48 : decode cX1_addUp 48 = .ok (.aload_n 0, 1) := by decide +kernel
theorem dX1_addUp_49 : decode cX1_addUp 49 = .ok (.iconst 0, 1) := by decide +kernel
theorem dX1_addUp_50 : decode cX1_addUp 50 = .ok (.invokevirtual 20, 3) := by decide +kernel
theorem dX1_addUp_53 : decode cX1_addUp 53 = .ok (.aload_n 1, 1) := by decide +kernel
theorem dX1_addUp_54 : decode cX1_addUp 54 = .ok (.iconst 0, 1) := by decide +kernel
theorem dX1_addUp_55 : decode cX1_addUp 55 = .ok (.invokevirtual 20, 3) := by decide +kernel
theorem dX1_addUp_58 : decode cX1_addUp 58 = .ok (.iadd, 1) := by decide +kernel
theorem dX1_addUp_59 : decode cX1_addUp 59 = .ok (.istore 6, 2) := by decide +kernel
theorem dX1_addUp_61 : decode cX1_addUp 61 = .ok (.aload_n 2, 1) := by decide +kernel
theorem dX1_addUp_62 : decode cX1_addUp 62 = .ok (.invokevirtual 7, 3) := by decide +kernel
theorem dX1_addUp_65 : decode cX1_addUp 65 = .ok (.aload_n 2, 1) := by decide +kernel
theorem dX1_addUp_66 : decode cX1_addUp 66 = .ok (.iload 5, 2) := by decide +kernel
theorem dX1_addUp_68 : decode cX1_addUp 68 = .ok (.iload 6, 2) := by decide +kernel
theorem dX1_addUp_70 : decode cX1_addUp 70 = .ok (.iconst 0, 1) := by decide +kernel
theorem dX1_addUp_71 : decode cX1_addUp 71 = .ok (.invokevirtual 40, 3) := by decide +kernel
theorem dX1_addUp_74 : decode cX1_addUp 74 = .ok (.iconst 0, 1) := by decide +kernel
theorem dX1_addUp_75 : decode cX1_addUp 75 = .ok (.istore 7, 2) := by decide +kernel
theorem dX1_addUp_77 : decode cX1_addUp 77 = .ok (.iconst 0, 1) := by decide +kernel
theorem dX1_addUp_78 : decode cX1_addUp 78 = .ok (.istore 8, 2) := by decide +kernel
theorem dX1_addUp_80 : decode cX1_addUp 80 = .ok (.iconst 0, 1) := by decide +kernel
theorem dX1_addUp_81 : decode cX1_addUp 81 = .ok (.istore 9, 2) := by decide +kernel
theorem dX1_addUp_83 : decode cX1_addUp 83 = .ok (.iload 9, 2) := by decide +kernel
theorem dX1_addUp_85 : decode cX1_addUp 85 = .ok (.iload_n 3, 1) := by decide +kernel
theorem dX1_addUp_86 : decode cX1_addUp 86 = .ok (.iload 4, 2) := by decide +kernel
theorem dX1_addUp_88 : decode cX1_addUp 88 = .ok (.iadd, 1) := by decide +kernel
theorem dX1_addUp_89 : decode cX1_addUp 89 = .ok (.if_icmp .ge 123, 3) := by decide +kernel
theorem dX1_addUp_92 : decode cX1_addUp 92 = .ok (.iload 7, 2) := by decide +kernel
theorem dX1_addUp_94 : decode cX1_addUp 94 = .ok (.iload_n 3, 1) := by decide +kernel
theorem dX1_addUp_95 : decode cX1_addUp 95 = .ok (.if_icmp .lt 10, 3) := by decide +kernel
theorem dX1_addUp_98 : decode cX1_addUp 98 = .ok (.iload 8, 2) := by decide +kernel
theorem dX1_addUp_100 : decode cX1_addUp 100 = .ok (.iload 4, 2) := by decide +kernel
theorem dX1_addUp_102 : decode cX1_addUp 102 = .ok (.if_icmp .ge 110, 3) := by decide +kernel
theorem dX1_addUp_105 : decode cX1_addUp 105 = .ok (.iload 7, 2) := by decide +kernel
theorem dX1_addUp_107 : decode cX1_addUp 107 = .ok (.iload_n 3, 1) := by decide +kernel
theorem dX1_addUp_108 : decode cX1_addUp 108 = .ok (.if_icmp .lt 7, 3) := by decide +kernel
theorem dX1_addUp_111 : decode cX1_addUp 111 = .ok (.iconst 1, 1) := by decide +kernel
theorem dX1_addUp_112 : decode cX1_addUp 112 = .ok (.goto 23, 3) := by decide +kernel
theorem dX1_addUp_115 : decode cX1_addUp 115 = .ok (.iload 8, 2) := by decide +kernel
theorem dX1_addUp_117 : decode cX1_addUp 117 = .ok (.iload 4, 2) := by decide +kernel
theorem dX1_addUp_119 : decode cX1_addUp 119 = .ok (.if_icmp .lt 7, 3) := by decide +kernel
theorem dX1_addUp_122 : decode cX1_addUp 122 = .ok (.iconst (-1), 1) := by decide +kernel
theorem dX1_addUp_123 : decode cX1_addUp 123 = .ok (.goto 12, 3) := by decide +kernel
theorem dX1_addUp_126 : decode cX1_addUp 126 = .ok (.aload_n 0, 1) := by decide +kernel
theorem dX1_addUp_127 : decode cX1_addUp 127 = .ok (.iload 7, 2) := by decide +kernel
theorem dX1_addUp_129 : decode cX1_addUp 129 = .ok (.aload_n 1, 1) := by decide +kernel
theorem dX1_addUp_130 : decode cX1_addUp 130 = .ok (.iload 8, 2) := by decide +kernel
theorem dX1_addUp_132 : decode cX1_addUp 132 = .ok (.invokestatic 64, 3) := by decide +kernel
theorem dX1_addUp_135 : decode cX1_addUp 135 = .ok (.istore 10, 2) := by decide +kernel
theorem dX1_addUp_137 : decode cX1_addUp 137 = .ok (.iload 10, 2) := by decide +kernel
theorem dX1_addUp_139 : decode cX1_addUp 139 = .ok (.ifCond .gt 28, 3) := by decide +kernel
theorem dX1_addUp_142 : decode cX1_addUp 142 = .ok (.iload 5, 2) := by decide +kernel
theorem dX1_addUp_144 : decode cX1_addUp 144 = .ok (.aload_n 0, 1) := by decide +kernel
theorem dX1_addUp_145 : decode cX1_addUp 145 = .ok (.iload 7, 2) := by decide +kernel
theorem dX1_addUp_147 : decode cX1_addUp 147 = .ok (.invokestatic 68, 3) := by decide +kernel
theorem dX1_addUp_150 : decode cX1_addUp 150 = .ok (.iadd, 1) := by decide +kernel
theorem dX1_addUp_151 : decode cX1_addUp 151 = .ok (.istore 5, 2) := by decide +kernel
theorem dX1_addUp_153 : decode cX1_addUp 153 = .ok (.iload 6, 2) := by decide +kernel
theorem dX1_addUp_155 : decode cX1_addUp 155 = .ok (.aload_n 0, 1) := by decide +kernel
theorem dX1_addUp_156 : decode cX1_addUp 156 = .ok (.iload 7, 2) := by decide +kernel
theorem dX1_addUp_158 : decode cX1_addUp 158 = .ok (.invokestatic 72, 3) := by decide +kernel
theorem dX1_addUp_161 : decode cX1_addUp 161 = .ok (.iadd, 1) := by decide +kernel
theorem dX1_addUp_162 : decode cX1_addUp 162 = .ok (.istore 6, 2) := by decide +kernel
theorem dX1_addUp_164 : decode cX1_addUp 164 = .ok (.iinc 7 1, 3) := by decide +kernel
theorem dX1_addUp_167 : decode cX1_addUp 167 = .ok (.iload 10, 2) := by decide +kernel
theorem dX1_addUp_169 : decode cX1_addUp 169 = .ok (.ifCond .lt 28, 3) := by decide +kernel
theorem dX1_addUp_172 : decode cX1_addUp 172 = .ok (.iload 5, 2) := by decide +kernel
theorem dX1_addUp_174 : decode cX1_addUp 174 = .ok (.aload_n 1, 1) := by decide +kernel
theorem dX1_addUp_175 : decode cX1_addUp 175 = .ok (.iload 8, 2) := by decide +kernel
theorem dX1_addUp_177 : decode cX1_addUp 177 = .ok (.invokestatic 68, 3) := by decide +kernel
theorem dX1_addUp_180 : decode cX1_addUp 180 = .ok (.iadd, 1) := by decide +kernel
theorem dX1_addUp_181 : decode cX1_addUp 181 = .ok (.istore 5, 2) := by decide +kernel
theorem dX1_addUp_183 : decode cX1_addUp 183 = .ok (.iload 6, 2) := by decide +kernel
theorem dX1_addUp_185 : decode cX1_addUp 185 = .ok (.aload_n 1, 1) := by decide +kernel
theorem dX1_addUp_186 : decode cX1_addUp 186 = .ok (.iload 8, 2) := by decide +kernel
theorem dX1_addUp_188 : decode cX1_addUp 188 = .ok (.invokestatic 72, 3) := by decide +kernel
theorem dX1_addUp_191 : decode cX1_addUp 191 = .ok (.iadd, 1) := by decide +kernel
theorem dX1_addUp_192 : decode cX1_addUp 192 = .ok (.istore 6, 2) := by decide +kernel
theorem dX1_addUp_194 : decode cX1_addUp 194 = .ok (.iinc 8 1, 3) := by decide +kernel
theorem dX1_addUp_197 : decode cX1_addUp 197 = .ok (.aload_n 2, 1) := by decide +kernel
theorem dX1_addUp_198 : decode cX1_addUp 198 = .ok (.iload 5, 2) := by decide +kernel
theorem dX1_addUp_200 : decode cX1_addUp 200 = .ok (.iload 6, 2) := by decide +kernel
theorem dX1_addUp_202 : decode cX1_addUp 202 = .ok (.iconst 0, 1) := by decide +kernel
theorem dX1_addUp_203 : decode cX1_addUp 203 = .ok (.invokevirtual 40, 3) := by decide +kernel
theorem dX1_addUp_206 : decode cX1_addUp 206 = .ok (.iinc 9 1, 3) := by decide +kernel
theorem dX1_addUp_209 : decode cX1_addUp 209 = .ok (.goto (-126), 3) := by decide +kernel
theorem dX1_addUp_212 : decode cX1_addUp 212 = .ok (.aload_n 2, 1) := by decide +kernel
theorem dX1_addUp_213 : decode cX1_addUp 213 = .ok (.invokevirtual 12, 3) := by decide +kernel
theorem dX1_addUp_216 : decode cX1_addUp 216 = .ok (.iconst 1, 1) := by decide +kernel
theorem dX1_addUp_217 : decode cX1_addUp 217 = .ok (.if_icmp .le 7, 3) := by decide +kernel
theorem dX1_addUp_220 : decode cX1_addUp 220 = .ok (.aload_n 2, 1) := by decide +kernel
theorem dX1_addUp_221 : decode cX1_addUp 221 = .ok (.invokevirtual 29, 3) := by decide +kernel
theorem dX1_addUp_224 : decode cX1_addUp 224 = .ok (.return_, 1) := by decide +kernel
theorem dX1_compareEdges_0 : decode cX1_compareEdges 0 = .ok (.aload_n 0, 1) := by decide +kernel
theorem dX1_compareEdges_1 : decode cX1_compareEdges 1 = .ok (.iload_n 1, 1) := by decide +kernel
theorem dX1_compareEdges_2 : decode cX1_compareEdges 2 = .ok (.invokestatic 68, 3) := by decide +kernel
theorem dX1_compareEdges_5 : decode cX1_compareEdges 5 = .ok (.istore 4, 2) := by decide +kernel
theorem dX1_compareEdges_7 : decode cX1_compareEdges 7 = .ok (.aload_n 0, 1) := by decide +kernel
theorem dX1_compareEdges_8 : decode cX1_compareEdges 8 = .ok (.iload_n 1, 1) := by decide +kernel
theorem dX1_compareEdges_9 : decode cX1_compareEdges 9 = .ok (.invokestatic 72, 3) := by decide +kernel
theorem dX1_compareEdges_12 : decode cX1_compareEdges 12 = .ok (.istore 5, 2) := by decide +kernel
theorem dX1_compareEdges_14 : decode cX1_compareEdges 14 = .ok (.aload_n 2, 1) := by decide +kernel
theorem dX1_compareEdges_15 : decode cX1_compareEdges 15 = .ok (.iload_n 3, 1) := by decide +kernel
theorem dX1_compareEdges_16 : decode cX1_compareEdges 16 = .ok (.invokestatic 68, 3) := by decide +kernel
theorem dX1_compareEdges_19 : decode cX1_compareEdges 19 = .ok (.istore 6, 2) := by decide +kernel
theorem dX1_compareEdges_21 : decode cX1_compareEdges 21 = .ok (.aload_n 2, 1) := by decide +kernel
theorem dX1_compareEdges_22 : decode cX1_compareEdges 22 = .ok (.iload_n 3, 1) := by decide +kernel
theorem dX1_compareEdges_23 : decode cX1_compareEdges 23 = .ok (.invokestatic 72, 3) := by decide +kernel
theorem dX1_compareEdges_26 : decode cX1_compareEdges 26 = .ok (.istore 7, 2) := by decide +kernel
theorem dX1_compareEdges_28 : decode cX1_compareEdges 28 = .ok (.iload 4, 2) := by decide +kernel
theorem dX1_compareEdges_30 : decode cX1_compareEdges 30 = .ok (.iload 5, 2) := by decide +kernel
theorem dX1_compareEdges_32 : decode cX1_compareEdges 32 = .ok (.invokestatic 75, 3) := by decide +kernel
theorem dX1_compareEdges_35 : decode cX1_compareEdges 35 = .ok (.ifCond .eq 7, 3) := by decide +kernel
theorem dX1_compareEdges_38 : decode cX1_compareEdges 38 = .ok (.iconst 0, 1) := by decide +kernel
theorem dX1_compareEdges_39 : decode cX1_compareEdges 39 = .ok (.goto 4, 3) := by decide +kernel
theorem dX1_compareEdges_42 : decode cX1_compareEdges 42 = .ok (.iconst 1, 1) := by decide +kernel
theorem dX1_compareEdges_43 : decode cX1_compareEdges 43 = .ok (.istore 8, 2) := by decide +kernel
theorem dX1_compareEdges_45 : decode cX1_compareEdges 45 = .ok (.iload 6, 2) := by decide +kernel
theorem dX1_compareEdges_47 : decode cX1_compareEdges 47 = .ok (.iload 7, 2) := by decide +kernel
theorem dX1_compareEdges_49 : decode cX1_compareEdges 49 = .ok (.invokestatic 75, 3) := by decide +kernel
theorem dX1_compareEdges_52 : decode cX1_compareEdges 52 = .ok (.ifCond .eq 7, 3) := by decide +kernel
theorem dX1_compareEdges_55 : decode cX1_compareEdges 55 = .ok (.iconst 0, 1) := by decide +kernel
theorem dX1_compareEdges_56 : decode cX1_compareEdges 56 = .ok (.goto 4, 3) := by decide +kernel
theorem dX1_compareEdges_59 : decode cX1_compareEdges 59 = .ok (.iconst 1, 1) := by decide +kernel
theorem dX1_compareEdges_60 : decode cX1_compareEdges 60 = .ok (.istore 9, 2) := by decide +kernel
theorem dX1_compareEdges_62 : decode cX1_compareEdges 62 = .ok (.iload 8, 2) := by decide +kernel
theorem dX1_compareEdges_64 : decode cX1_compareEdges 64 = .ok (.iload 9, 2) := by decide +kernel
theorem dX1_compareEdges_66 : decode cX1_compareEdges 66 = .ok (.if_icmp .eq 9, 3) := by decide +kernel
theorem dX1_compareEdges_69 : decode cX1_compareEdges 69 = .ok (.iload 8, 2) := by decide +kernel
theorem dX1_compareEdges_71 : decode cX1_compareEdges 71 = .ok (.iload 9, 2) := by decide +kernel
theorem dX1_compareEdges_73 : decode cX1_compareEdges 73 = .ok (.isub, 1) := by decide +kernel
theorem dX1_compareEdges_74 : decode cX1_compareEdges 74 = .ok (.ireturn, 1) := by decide +kernel
theorem dX1_compareEdges_75 : decode cX1_compareEdges 75 = .ok (.iload 4, 2) := by decide +kernel
theorem dX1_compareEdges_77 : decode cX1_compareEdges 77 = .ok (.i2l, 1) := by decide +kernel
theorem dX1_compareEdges_78 : decode cX1_compareEdges 78 = .ok (.iload 7, 2) := by decide +kernel
theorem dX1_compareEdges_80 : decode cX1_compareEdges 80 = .ok (.i2l, 1) := by decide +kernel
theorem dX1_compareEdges_81 : decode cX1_compareEdges 81 = .ok (.lmul, 1) := by decide +kernel
theorem dX1_compareEdges_82 : decode cX1_compareEdges 82 = .ok (.iload 5, 2) := by decide +kernel
theorem dX1_compareEdges_84 : decode cX1_compareEdges 84 = .ok (.i2l, 1) := by decide +kernel
theorem dX1_compareEdges_85 : decode cX1_compareEdges 85 = .ok (.iload 6, 2) := by decide +kernel
theorem dX1_compareEdges_87 : decode cX1_compareEdges 87 = .ok (.i2l, 1) := by decide +kernel
theorem dX1_compareEdges_88 : decode cX1_compareEdges 88 = .ok (.lmul, 1) := by decide +kernel
theorem dX1_compareEdges_89 : decode cX1_compareEdges 89 = .ok (.lsub, 1) := by decide +kernel
theorem dX1_compareEdges_90 : decode cX1_compareEdges 90 = .ok (.invokestatic 79, 3) := by decide +kernel
theorem dX1_compareEdges_93 : decode cX1_compareEdges 93 = .ok (.ineg, 1) := by decide +kernel
theorem dX1_compareEdges_94 : decode cX1_compareEdges 94 = .ok (.ireturn, 1) := by decide +kernel
theorem dX1_goesOut_0 : decode cX1_goesOut 0 = .ok (.iload_n 0, 1) := by decide +kernel
theorem dX1_goesOut_1 : decode cX1_goesOut 1 = .ok (.ifCond .gt 11, 3) := by decide +kernel
theorem dX1_goesOut_4 : decode cX1_goesOut 4 = .ok (.iload_n 0, 1) := by decide +kernel
theorem dX1_goesOut_5 : decode cX1_goesOut 5 = .ok (.ifCond .ne 11, 3) := by decide +kernel
theorem dX1_goesOut_8 : decode cX1_goesOut 8 = .ok (.iload_n 1, 1) := by decide +kernel
theorem dX1_goesOut_9 : decode cX1_goesOut 9 = .ok (.ifCond .le 7, 3) := by decide +kernel
theorem dX1_goesOut_12 : decode cX1_goesOut 12 = .ok (.iconst 1, 1) := by decide +kernel
theorem dX1_goesOut_13 : decode cX1_goesOut 13 = .ok (.goto 4, 3) := by decide +kernel
theorem dX1_goesOut_16 : decode cX1_goesOut 16 = .ok (.iconst 0, 1) := by decide +kernel
theorem dX1_goesOut_17 : decode cX1_goesOut 17 = .ok (.ireturn, 1) := by decide +kernel
theorem dX1_touch_0 : decode cX1_touch 0 = .ok (.aload_n 0, 1) := by decide +kernel
theorem dX1_touch_1 : decode cX1_touch 1 = .ok (.aload_n 1, 1) := by decide +kernel
theorem dX1_touch_2 : decode cX1_touch 2 = .ok (.invokestatic 83, 3) := by decide +kernel
theorem dX1_touch_5 : decode cX1_touch 5 = .ok (.ifCond .ne 11, 3) := by decide +kernel
theorem dX1_touch_8 : decode cX1_touch 8 = .ok (.aload_n 1, 1) := by decide +kernel
theorem dX1_touch_9 : decode cX1_touch 9 = .ok (.aload_n 0, 1) := by decide +kernel
theorem dX1_touch_10 : decode cX1_touch 10 = .ok (.invokestatic 83, 3) := by decide +kernel
theorem dX1_touch_13 : decode cX1_touch 13 = .ok (.ifCond .eq 5, 3) := by decide +kernel
theorem dX1_touch_16 : decode cX1_touch 16 = .ok (.iconst 1, 1) := by decide +kernel
theorem dX1_touch_17 : decode cX1_touch 17 = .ok (.ireturn, 1) := by decide +kernel
theorem dX1_touch_18 : decode cX1_touch 18 = .ok (.iconst 0, 1) := by decide +kernel
theorem dX1_touch_19 : decode cX1_touch 19 = .ok (.istore_n 2, 1) := by decide +kernel
theorem dX1_touch_20 : decode cX1_touch 20 = .ok (.iload_n 2, 1) := by decide +kernel
theorem dX1_touch_21 : decode cX1_touch 21 = .ok (.aload_n 0, 1) := by decide +kernel
theorem dX1_touch_22 : decode cX1_touch 22 = .ok (.invokevirtual 12, 3) := by decide +kernel
theorem dX1_touch_25 : decode cX1_touch 25 = .ok (.if_icmp .ge 47, 3) := by decide +kernel
theorem dX1_touch_28 : decode cX1_touch 28 = .ok (.iconst 0, 1) := by decide +kernel
theorem dX1_touch_29 : decode cX1_touch 29 = .ok (.istore_n 3, 1) := by decide +kernel
theorem dX1_touch_30 : decode cX1_touch 30 = .ok (.iload_n 3, 1) := by decide +kernel
theorem dX1_touch_31 : decode cX1_touch 31 = .ok (.aload_n 1, 1) := by decide +kernel
theorem dX1_touch_32 : decode cX1_touch 32 = .ok (.invokevirtual 12, 3) := by decide +kernel
theorem dX1_touch_35 : decode cX1_touch 35 = .ok (.if_icmp .ge 31, 3) := by decide +kernel
theorem dX1_touch_38 : decode cX1_touch 38 = .ok (.aload_n 0, 1) := by decide +kernel
theorem dX1_touch_39 : decode cX1_touch 39 = .ok (.iload_n 2, 1) := by decide +kernel
theorem dX1_touch_40 : decode cX1_touch 40 = .ok (.aload_n 0, 1) := by decide +kernel
theorem dX1_touch_41 : decode cX1_touch 41 = .ok (.iload_n 2, 1) := by decide +kernel
theorem dX1_touch_42 : decode cX1_touch 42 = .ok (.invokevirtual 87, 3) := by decide +kernel
theorem dX1_touch_45 : decode cX1_touch 45 = .ok (.aload_n 1, 1) := by decide +kernel
theorem dX1_touch_46 : decode cX1_touch 46 = .ok (.iload_n 3, 1) := by decide +kernel
theorem dX1_touch_47 : decode cX1_touch 47 = .ok (.aload_n 1, 1) := by decide +kernel
theorem dX1_touch_48 : decode cX1_touch 48 = .ok (.iload_n 3, 1) := by decide +kernel
theorem dX1_touch_49 : decode cX1_touch 49 = .ok (.invokevirtual 87, 3) := by decide +kernel
theorem dX1_touch_52 : decode cX1_touch 52 = .ok (.invokestatic 90, 3) := by decide +kernel
theorem dX1_touch_55 : decode cX1_touch 55 = .ok (.ifCond .eq 5, 3) := by decide +kernel
theorem dX1_touch_58 : decode cX1_touch 58 = .ok (.iconst 1, 1) := by decide +kernel
theorem dX1_touch_59 : decode cX1_touch 59 = .ok (.ireturn, 1) := by decide +kernel
theorem dX1_touch_60 : decode cX1_touch 60 = .ok (.iinc 3 1, 3) := by decide +kernel
theorem dX1_touch_63 : decode cX1_touch 63 = .ok (.goto (-33), 3) := by decide +kernel
theorem dX1_touch_66 : decode cX1_touch 66 = .ok (.iinc 2 1, 3) := by decide +kernel
theorem dX1_touch_69 : decode cX1_touch 69 = .ok (.goto (-49), 3) := by decide +kernel
theorem dX1_touch_72 : decode cX1_touch 72 = .ok (.iconst 0, 1) := by decide +kernel
theorem dX1_touch_73 : decode cX1_touch 73 = .ok (.ireturn, 1) := by decide +kernel
theorem dX1_hasCornerIn_0 : decode cX1_hasCornerIn 0 = .ok (.iconst 0, 1) := by decide +kernel
theorem dX1_hasCornerIn_1 : decode cX1_hasCornerIn 1 = .ok (.istore_n 2, 1) := by decide +kernel
theorem dX1_hasCornerIn_2 : decode cX1_hasCornerIn 2 = .ok (.iload_n 2, 1) := by decide +kernel
theorem dX1_hasCornerIn_3 : decode cX1_hasCornerIn 3 = .ok (.aload_n 0, 1) := by decide +kernel
theorem dX1_hasCornerIn_4 : decode cX1_hasCornerIn 4 = .ok (.invokevirtual 12, 3) := by decide +kernel
theorem dX1_hasCornerIn_7 : decode cX1_hasCornerIn 7 = .ok (.if_icmp .ge 31, 3) := by decide +kernel
theorem dX1_hasCornerIn_10 : decode cX1_hasCornerIn 10 = .ok (.aload_n 1, 1) := by decide +kernel
theorem dX1_hasCornerIn_11 : decode cX1_hasCornerIn 11 = .ok (.iconst 1, 1) := by decide +kernel
theorem dX1_hasCornerIn_12 : decode cX1_hasCornerIn 12 = .ok (.aload_n 0, 1) := by decide +kernel
theorem dX1_hasCornerIn_13 : decode cX1_hasCornerIn 13 = .ok (.iload_n 2, 1) := by decide +kernel
theorem dX1_hasCornerIn_14 : decode cX1_hasCornerIn 14 = .ok (.invokevirtual 16, 3) := by decide +kernel
theorem dX1_hasCornerIn_17 : decode cX1_hasCornerIn 17 = .ok (.i2l, 1) := by decide +kernel
theorem dX1_hasCornerIn_18 : decode cX1_hasCornerIn 18 = .ok (.aload_n 0, 1) := by decide +kernel
theorem dX1_hasCornerIn_19 : decode cX1_hasCornerIn 19 = .ok (.iload_n 2, 1) := by decide +kernel
theorem dX1_hasCornerIn_20 : decode cX1_hasCornerIn 20 = .ok (.invokevirtual 20, 3) := by decide +kernel
theorem dX1_hasCornerIn_23 : decode cX1_hasCornerIn 23 = .ok (.i2l, 1) := by decide +kernel
theorem dX1_hasCornerIn_24 : decode cX1_hasCornerIn 24 = .ok (.invokestatic 54, 3) := by decide +kernel
theorem dX1_hasCornerIn_27 : decode cX1_hasCornerIn 27 = .ok (.ifCond .lt 5, 3) := by decide +kernel
theorem dX1_hasCornerIn_30 : decode cX1_hasCornerIn 30 = .ok (.iconst 1, 1) := by decide +kernel
theorem dX1_hasCornerIn_31 : decode cX1_hasCornerIn 31 = .ok (.ireturn, 1) := by decide +kernel
theorem dX1_hasCornerIn_32 : decode cX1_hasCornerIn 32 = .ok (.iinc 2 1, 3) := by decide +kernel
theorem dX1_hasCornerIn_35 : decode cX1_hasCornerIn 35 = .ok (.goto (-33), 3) := by decide +kernel
theorem dX1_hasCornerIn_38 : decode cX1_hasCornerIn 38 = .ok (.iconst 0, 1) := by decide +kernel
theorem dX1_hasCornerIn_39 : decode cX1_hasCornerIn 39 = .ok (.ireturn, 1) := by decide +kernel
theorem dX2_init_0 : decode cX2_init 0 = .ok (.aload_n 0, 1) := by decide +kernel
theorem dX2_init_1 : decode cX2_init 1 = .ok (.invokespecial 3, 3) := by decide +kernel
theorem dX2_init_4 : decode cX2_init 4 = .ok (.aload_n 0, 1) := by decide +kernel
theorem dX2_init_5 : decode cX2_init 5 = .ok (.new 9, 3) := by decide +kernel
theorem dX2_init_8 : decode cX2_init 8 = .ok (.dup, 1) := by decide +kernel
theorem dX2_init_9 : decode cX2_init 9 = .ok (.bipush 16, 2) := by decide +kernel
theorem dX2_init_11 : decode cX2_init 11 = .ok (.invokespecial 11, 3) := by decide +kernel
theorem dX2_init_14 : decode cX2_init 14 = .ok (.putfield 14, 3) := by decide +kernel
theorem dX2_init_17 : decode cX2_init 17 = .ok (.aload_n 0, 1) := by decide +kernel
theorem dX2_init_18 : decode cX2_init 18 = .ok (.bipush 16, 2) := by decide +kernel
theorem dX2_init_20 : decode cX2_init 20 = .ok (.newarray .int, 2) := by decide +kernel
theorem dX2_init_22 : decode cX2_init 22 = .ok (.putfield 20, 3) := by decide +kernel
theorem dX2_init_25 : decode cX2_init 25 = .ok (.aload_n 0, 1) := by decide +kernel
theorem dX2_init_26 : decode cX2_init 26 = .ok (.iconst 0, 1) := by decide +kernel
theorem dX2_init_27 : decode cX2_init 27 = .ok (.putfield 24, 3) := by decide +kernel
theorem dX2_init_30 : decode cX2_init 30 = .ok (.aload_n 0, 1) := by decide +kernel
theorem dX2_init_31 : decode cX2_init 31 = .ok (.lconst 0, 1) := by decide +kernel
theorem dX2_init_32 : decode cX2_init 32 = .ok (.putfield 28, 3) := by decide +kernel
theorem dX2_init_35 : decode cX2_init 35 = .ok (.return_, 1) := by decide +kernel
theorem dX2_part_0 : decode cX2_part 0 = .ok (.aload_n 0, 1) := by decide +kernel
theorem dX2_part_1 : decode cX2_part 1 = .ok (.getfield 14, 3) := by decide +kernel
theorem dX2_part_4 : decode cX2_part 4 = .ok (.aload_n 1, 1) := by decide +kernel
theorem dX2_part_5 : decode cX2_part 5 = .ok (.invokevirtual 32, 3) := by decide +kernel
theorem dX2_part_8 : decode cX2_part 8 = .ok (.aload_n 0, 1) := by decide +kernel
theorem dX2_part_9 : decode cX2_part 9 = .ok (.iconst 0, 1) := by decide +kernel
theorem dX2_part_10 : decode cX2_part 10 = .ok (.putfield 24, 3) := by decide +kernel
theorem dX2_part_13 : decode cX2_part 13 = .ok (.aload_n 0, 1) := by decide +kernel
theorem dX2_part_14 : decode cX2_part 14 = .ok (.lconst 0, 1) := by decide +kernel
theorem dX2_part_15 : decode cX2_part 15 = .ok (.putfield 28, 3) := by decide +kernel
theorem dX2_part_18 : decode cX2_part 18 = .ok (.aload_n 1, 1) := by decide +kernel
theorem dX2_part_19 : decode cX2_part 19 = .ok (.invokestatic 36, 3) := by decide +kernel
theorem dX2_part_22 : decode cX2_part 22 = .ok (.i2l, 1) := by decide +kernel
theorem dX2_part_23 : decode cX2_part 23 = .ok (.invokestatic 42, 3) := by decide +kernel
theorem dX2_part_26 : decode cX2_part 26 = .ok (.istore_n 2, 1) := by decide +kernel
theorem dX2_part_27 : decode cX2_part 27 = .ok (.iconst 0, 1) := by decide +kernel
theorem dX2_part_28 : decode cX2_part 28 = .ok (.istore_n 3, 1) := by decide +kernel
theorem dX2_part_29 : decode cX2_part 29 = .ok (.iload_n 3, 1) := by decide +kernel
theorem dX2_part_30 : decode cX2_part 30 = .ok (.bipush 16, 2) := by decide +kernel
theorem dX2_part_32 : decode cX2_part 32 = .ok (.if_icmp .ge 66, 3) := by decide +kernel
theorem dX2_part_35 : decode cX2_part 35 = .ok (.aload_n 0, 1) := by decide +kernel
theorem dX2_part_36 : decode cX2_part 36 = .ok (.getfield 14, 3) := by decide +kernel
theorem dX2_part_39 : decode cX2_part 39 = .ok (.invokevirtual 48, 3) := by decide +kernel
theorem dX2_part_42 : decode cX2_part 42 = .ok (.iconst 3, 1) := by decide +kernel
theorem dX2_part_43 : decode cX2_part 43 = .ok (.if_icmp .le 55, 3) := by decide +kernel
theorem dX2_part_46 : decode cX2_part 46 = .ok (.aload_n 0, 1) := by decide +kernel
theorem dX2_part_47 : decode cX2_part 47 = .ok (.iload_n 2, 1) := by decide +kernel
theorem dX2_part_48 : decode cX2_part 48 = .ok (.invokevirtual 52, 3) := by decide +kernel
theorem dX2_part_51 : decode cX2_part 51 = .ok (.istore 4, 2) := by decide +kernel
theorem dX2_part_53 : decode cX2_part 53 = .ok (.iload 4, 2) := by decide +kernel
theorem dX2_part_55 : decode cX2_part 55 = .ok (.ifCond .ge 4, 3) := by decide +kernel
theorem dX2_part_58 : decode cX2_part 58 = .ok (.return_, 1) := by decide +kernel
theorem dX2_part_59 : decode cX2_part 59 = .ok (.aload_n 0, 1) := by decide +kernel
theorem dX2_part_60 : decode cX2_part 60 = .ok (.aload_n 0, 1) := by decide +kernel
theorem dX2_part_61 : decode cX2_part 61 = .ok (.getfield 14, 3) := by decide +kernel
theorem dX2_part_64 : decode cX2_part 64 = .ok (.iload 4, 2) := by decide +kernel
theorem dX2_part_66 : decode cX2_part 66 = .ok (.invokevirtual 56, 3) := by decide +kernel
theorem dX2_part_69 : decode cX2_part 69 = .ok (.iload 4, 2) := by decide +kernel
theorem dX2_part_71 : decode cX2_part 71 = .ok (.aload_n 0, 1) := by decide +kernel
theorem dX2_part_72 : decode cX2_part 72 = .ok (.getfield 14, 3) := by decide +kernel
theorem dX2_part_75 : decode cX2_part 75 = .ok (.iload 4, 2) := by decide +kernel
theorem dX2_part_77 : decode cX2_part 77 = .ok (.invokevirtual 59, 3) := by decide +kernel
theorem dX2_part_80 : decode cX2_part 80 = .ok (.invokevirtual 62, 3) := by decide +kernel
theorem dX2_part_83 : decode cX2_part 83 = .ok (.aload_n 0, 1) := by decide +kernel
theorem dX2_part_84 : decode cX2_part 84 = .ok (.getfield 14, 3) := by decide +kernel
theorem dX2_part_87 : decode cX2_part 87 = .ok (.iload 4, 2) := by decide +kernel
theorem dX2_part_89 : decode cX2_part 89 = .ok (.invokevirtual 66, 3) := by decide +kernel
theorem dX2_part_92 : decode cX2_part 92 = .ok (.iinc 3 1, 3) := by decide +kernel
theorem dX2_part_95 : decode cX2_part 95 = .ok (.goto (-66), 3) := by decide +kernel
theorem dX2_part_98 : decode cX2_part 98 = .ok (.aload_n 0, 1) := by decide +kernel
theorem dX2_part_99 : decode cX2_part 99 = .ok (.getfield 14, 3) := by decide +kernel
theorem dX2_part_102 : decode cX2_part 102 = .ok (.invokevirtual 48, 3) := by decide +kernel
theorem dX2_part_105 : decode cX2_part 105 = .ok (.iconst 3, 1) := by decide +kernel
theorem dX2_part_106 : decode cX2_part 106 = .ok (.if_icmp .ne 10, 3) := by decide +kernel
theorem dX2_part_109 : decode cX2_part 109 = .ok (.aload_n 0, 1) := by decide +kernel
theorem dX2_part_110 : decode cX2_part 110 = .ok (.iconst 0, 1) := by decide +kernel
theorem dX2_part_111 : decode cX2_part 111 = .ok (.iconst 1, 1) := by decide +kernel
theorem dX2_part_112 : decode cX2_part 112 = .ok (.iconst 2, 1) := by decide +kernel
theorem dX2_part_113 : decode cX2_part 113 = .ok (.invokevirtual 62, 3) := by decide +kernel
theorem dX2_part_116 : decode cX2_part 116 = .ok (.return_, 1) := by decide +kernel
theorem dX2_made_0 : decode cX2_made 0 = .ok (.aload_n 0, 1) := by decide +kernel
theorem dX2_made_1 : decode cX2_made 1 = .ok (.getfield 24, 3) := by decide +kernel
theorem dX2_made_4 : decode cX2_made 4 = .ok (.ireturn, 1) := by decide +kernel
theorem dX2_doubledAreas_0 : decode cX2_doubledAreas 0 = .ok (.aload_n 0, 1) := by decide +kernel
theorem dX2_doubledAreas_1 : decode cX2_doubledAreas 1 = .ok (.getfield 28, 3) := by decide +kernel
theorem dX2_doubledAreas_4 : decode cX2_doubledAreas 4 = .ok (.lreturn, 1) := by decide +kernel
theorem dX2_tellTriangle_0 : decode cX2_tellTriangle 0 = .ok (.iload_n 1, 1) := by decide +kernel
theorem dX2_tellTriangle_1 : decode cX2_tellTriangle 1 = .ok (.ifCond .lt 21, 3) := by decide +kernel
theorem dX2_tellTriangle_4 : decode cX2_tellTriangle 4 = .ok (.iload_n 1, 1) := by decide +kernel
theorem dX2_tellTriangle_5 : decode cX2_tellTriangle 5 = .ok (.aload_n 0, 1) := by decide +kernel
theorem dX2_tellTriangle_6 : decode cX2_tellTriangle 6 = .ok (.getfield 20, 3) := by decide +kernel
theorem dX2_tellTriangle_9 : decode cX2_tellTriangle 9 = .ok (.arraylength, 1) := by decide +kernel
theorem dX2_tellTriangle_10 : decode cX2_tellTriangle 10 = .ok (.if_icmp .ge 12, 3) := by decide +kernel
theorem dX2_tellTriangle_13 : decode cX2_tellTriangle 13 = .ok (.aload_n 0, 1) := by decide +kernel
theorem dX2_tellTriangle_14 : decode cX2_tellTriangle 14 = .ok (.getfield 20, 3) := by decide +kernel
theorem dX2_tellTriangle_17 : decode cX2_tellTriangle 17 = .ok (.iload_n 1, 1) := by decide +kernel
theorem dX2_tellTriangle_18 : decode cX2_tellTriangle 18 = .ok (.iaload, 1) := by decide +kernel
theorem dX2_tellTriangle_19 : decode cX2_tellTriangle 19 = .ok (.goto 4, 3) := by decide +kernel
theorem dX2_tellTriangle_22 : decode cX2_tellTriangle 22 = .ok (.iconst 0, 1) := by decide +kernel
theorem dX2_tellTriangle_23 : decode cX2_tellTriangle 23 = .ok (.ireturn, 1) := by decide +kernel
theorem dX2_keepTriangle_0 : decode cX2_keepTriangle 0 = .ok (.aload_n 0, 1) := by decide +kernel
theorem dX2_keepTriangle_1 : decode cX2_keepTriangle 1 = .ok (.getfield 24, 3) := by decide +kernel
theorem dX2_keepTriangle_4 : decode cX2_keepTriangle 4 = .ok (.aload_n 0, 1) := by decide +kernel
theorem dX2_keepTriangle_5 : decode cX2_keepTriangle 5 = .ok (.getfield 20, 3) := by decide +kernel
theorem dX2_keepTriangle_8 : decode cX2_keepTriangle 8 = .ok (.arraylength, 1) := by decide +kernel
theorem dX2_keepTriangle_9 : decode cX2_keepTriangle 9 = .ok (.if_icmp .ge 55, 3) := by decide +kernel
theorem dX2_keepTriangle_12 : decode cX2_keepTriangle 12 = .ok (.aload_n 0, 1) := by decide +kernel
theorem dX2_keepTriangle_13 : decode cX2_keepTriangle 13 = .ok (.getfield 20, 3) := by decide +kernel
theorem dX2_keepTriangle_16 : decode cX2_keepTriangle 16 = .ok (.aload_n 0, 1) := by decide +kernel
theorem dX2_keepTriangle_17 : decode cX2_keepTriangle 17 = .ok (.getfield 24, 3) := by decide +kernel
theorem dX2_keepTriangle_20 : decode cX2_keepTriangle 20 = .ok (.sipush 10000, 3) := by decide +kernel
theorem dX2_keepTriangle_23 : decode cX2_keepTriangle 23 = .ok (.aload_n 0, 1) := by decide +kernel
theorem dX2_keepTriangle_24 : decode cX2_keepTriangle 24 = .ok (.getfield 14, 3) := by decide +kernel
theorem dX2_keepTriangle_27 : decode cX2_keepTriangle 27 = .ok (.iload_n 1, 1) := by decide +kernel
theorem dX2_keepTriangle_28 : decode cX2_keepTriangle 28 = .ok (.invokevirtual 69, 3) := by decide +kernel
theorem dX2_keepTriangle_31 : decode cX2_keepTriangle 31 = .ok (.imul, 1) := by decide +kernel
theorem dX2_keepTriangle_32 : decode cX2_keepTriangle 32 = .ok (.bipush 100, 2) := by decide +kernel
theorem dX2_keepTriangle_34 : decode cX2_keepTriangle 34 = .ok (.aload_n 0, 1) := by decide +kernel
theorem dX2_keepTriangle_35 : decode cX2_keepTriangle 35 = .ok (.getfield 14, 3) := by decide +kernel
theorem dX2_keepTriangle_38 : decode cX2_keepTriangle 38 = .ok (.iload_n 2, 1) := by decide +kernel
theorem dX2_keepTriangle_39 : decode cX2_keepTriangle 39 = .ok (.invokevirtual 69, 3) := by decide +kernel
theorem dX2_keepTriangle_42 : decode cX2_keepTriangle 42 = .ok (.imul, 1) := by decide +kernel
theorem dX2_keepTriangle_43 : decode cX2_keepTriangle 43 = .ok (.iadd, 1) := by decide +kernel
theorem dX2_keepTriangle_44 : decode cX2_keepTriangle 44 = .ok (.aload_n 0, 1) := by decide +kernel
theorem dX2_keepTriangle_45 : decode cX2_keepTriangle 45 = .ok (.getfield 14, 3) := by decide +kernel
theorem dX2_keepTriangle_48 : decode cX2_keepTriangle 48 = .ok (.iload_n 3, 1) := by decide +kernel
theorem dX2_keepTriangle_49 : decode cX2_keepTriangle 49 = .ok (.invokevirtual 69, 3) := by decide +kernel
theorem dX2_keepTriangle_52 : decode cX2_keepTriangle 52 = .ok (.iadd, 1) := by decide +kernel
theorem dX2_keepTriangle_53 : decode cX2_keepTriangle 53 = .ok (.iastore, 1) := by decide +kernel
theorem dX2_keepTriangle_54 : decode cX2_keepTriangle 54 = .ok (.aload_n 0, 1) := by decide +kernel
theorem dX2_keepTriangle_55 : decode cX2_keepTriangle 55 = .ok (.dup, 1) := by decide +kernel
theorem dX2_keepTriangle_56 : decode cX2_keepTriangle 56 = .ok (.getfield 24, 3) := by decide +kernel
theorem dX2_keepTriangle_59 : decode cX2_keepTriangle 59 = .ok (.iconst 1, 1) := by decide +kernel
theorem dX2_keepTriangle_60 : decode cX2_keepTriangle 60 = .ok (.iadd, 1) := by decide +kernel
theorem dX2_keepTriangle_61 : decode cX2_keepTriangle 61 = .ok (.putfield 24, 3) := by decide +kernel
theorem dX2_keepTriangle_64 : decode cX2_keepTriangle 64 = .ok (.aload_n 0, 1) := by decide +kernel
theorem dX2_keepTriangle_65 : decode cX2_keepTriangle 65 = .ok (.dup, 1) := by decide +kernel
theorem dX2_keepTriangle_66 : decode cX2_keepTriangle 66 = .ok (.getfield 28, 3) := by decide +kernel
theorem dX2_keepTriangle_69 : decode cX2_keepTriangle 69 = .ok (.aload_n 0, 1) := by decide +kernel
theorem dX2_keepTriangle_70 : decode cX2_keepTriangle 70 = .ok (.getfield 14, 3) := by decide +kernel
theorem dX2_keepTriangle_73 : decode cX2_keepTriangle 73 = .ok (.iload_n 1, 1) := by decide +kernel
theorem dX2_keepTriangle_74 : decode cX2_keepTriangle 74 = .ok (.iload_n 2, 1) := by decide +kernel
theorem dX2_keepTriangle_75 : decode cX2_keepTriangle 75 = .ok (.iload_n 3, 1) := by decide +kernel
theorem dX2_keepTriangle_76 : decode cX2_keepTriangle 76 = .ok (.invokestatic 72, 3) := by decide +kernel
theorem dX2_keepTriangle_79 : decode cX2_keepTriangle 79 = .ok (.invokestatic 76, 3) := by decide +kernel
theorem dX2_keepTriangle_82 : decode cX2_keepTriangle 82 = .ok (.ladd, 1) := by decide +kernel
theorem dX2_keepTriangle_83 : decode cX2_keepTriangle 83 = .ok (.putfield 28, 3) := by decide +kernel
theorem dX2_keepTriangle_86 : decode cX2_keepTriangle 86 = .ok (.return_, 1) := by decide +kernel
theorem dX2_firstEar_0 : decode cX2_firstEar 0 = .ok (.iconst 0, 1) := by decide +kernel
theorem dX2_firstEar_1 : decode cX2_firstEar 1 = .ok (.istore_n 2, 1) := by decide +kernel
theorem dX2_firstEar_2 : decode cX2_firstEar 2 = .ok (.iload_n 2, 1) := by decide +kernel
theorem dX2_firstEar_3 : decode cX2_firstEar 3 = .ok (.aload_n 0, 1) := by decide +kernel
theorem dX2_firstEar_4 : decode cX2_firstEar 4 = .ok (.getfield 14, 3) := by decide +kernel
theorem dX2_firstEar_7 : decode cX2_firstEar 7 = .ok (.invokevirtual 48, 3) := by decide +kernel
theorem dX2_firstEar_10 : decode cX2_firstEar 10 = .ok (.if_icmp .ge 20, 3) := by decide +kernel
theorem dX2_firstEar_13 : decode cX2_firstEar 13 = .ok (.aload_n 0, 1) := by decide +kernel
theorem dX2_firstEar_14 : decode cX2_firstEar 14 = .ok (.iload_n 2, 1) := by decide +kernel
theorem dX2_firstEar_15 : decode cX2_firstEar 15 = .ok (.iload_n 1, 1) := by decide +kernel
theorem dX2_firstEar_16 : decode cX2_firstEar 16 = .ok (.invokevirtual 82, 3) := by decide +kernel
theorem dX2_firstEar_19 : decode cX2_firstEar 19 = .ok (.ifCond .eq 5, 3) := by decide +kernel
theorem dX2_firstEar_22 : decode cX2_firstEar 22 = .ok (.iload_n 2, 1) := by decide +kernel
theorem dX2_firstEar_23 : decode cX2_firstEar 23 = .ok (.ireturn, 1) := by decide +kernel
theorem dX2_firstEar_24 : decode cX2_firstEar 24 = .ok (.iinc 2 1, 3) := by decide +kernel
theorem dX2_firstEar_27 : decode cX2_firstEar 27 = .ok (.goto (-25), 3) := by decide +kernel
theorem dX2_firstEar_30 : decode cX2_firstEar 30 = .ok (.iconst (-1), 1) := by decide +kernel
theorem dX2_firstEar_31 : decode cX2_firstEar 31 = .ok (.ireturn, 1) := by decide +kernel
theorem dX2_isEar_0 : decode cX2_isEar 0 = .ok (.aload_n 0, 1) := by decide +kernel
theorem dX2_isEar_1 : decode cX2_isEar 1 = .ok (.getfield 14, 3) := by decide +kernel
theorem dX2_isEar_4 : decode cX2_isEar 4 = .ok (.iload_n 1, 1) := by decide +kernel
theorem dX2_isEar_5 : decode cX2_isEar 5 = .ok (.invokevirtual 56, 3) := by decide +kernel
theorem dX2_isEar_8 : decode cX2_isEar 8 = .ok (.istore_n 3, 1) := by decide +kernel
theorem dX2_isEar_9 : decode cX2_isEar 9 = .ok (.aload_n 0, 1) := by decide +kernel
theorem dX2_isEar_10 : decode cX2_isEar 10 = .ok (.getfield 14, 3) := by decide +kernel
theorem dX2_isEar_13 : decode cX2_isEar 13 = .ok (.iload_n 1, 1) := by decide +kernel
theorem dX2_isEar_14 : decode cX2_isEar 14 = .ok (.invokevirtual 59, 3) := by decide +kernel
theorem dX2_isEar_17 : decode cX2_isEar 17 = .ok (.istore 4, 2) := by decide +kernel
theorem dX2_isEar_19 : decode cX2_isEar 19 = .ok (.aload_n 0, 1) := by decide +kernel
theorem dX2_isEar_20 : decode cX2_isEar 20 = .ok (.getfield 14, 3) := by decide +kernel
theorem dX2_isEar_23 : decode cX2_isEar 23 = .ok (.iload_n 3, 1) := by decide +kernel
theorem dX2_isEar_24 : decode cX2_isEar 24 = .ok (.iload_n 1, 1) := by decide +kernel
theorem dX2_isEar_25 : decode cX2_isEar 25 = .ok (.aload_n 0, 1) := by decide +kernel
theorem dX2_isEar_26 : decode cX2_isEar 26 = .ok (.getfield 14, 3) := by decide +kernel
theorem dX2_isEar_29 : decode cX2_isEar 29 = .ok (.iload 4, 2) := by decide +kernel
theorem dX2_isEar_31 : decode cX2_isEar 31 = .ok (.invokestatic 86, 3) := by decide +kernel
theorem dX2_isEar_34 : decode cX2_isEar 34 = .ok (.iload_n 2, 1) := by decide +kernel
theorem dX2_isEar_35 : decode cX2_isEar 35 = .ok (.if_icmp .eq 5, 3) := by decide +kernel
theorem dX2_isEar_38 : decode cX2_isEar 38 = .ok (.iconst 0, 1) := by decide +kernel
theorem dX2_isEar_39 : decode cX2_isEar 39 = .ok (.ireturn, 1) := by decide +kernel
theorem dX2_isEar_40 : decode cX2_isEar 40 = .ok (.iconst 0, 1) := by decide +kernel
theorem dX2_isEar_41 : decode cX2_isEar 41 = .ok (.istore 5, 2) := by decide +kernel
theorem dX2_isEar_43 : decode cX2_isEar 43 = .ok (.iload 5, 2) := by decide +kernel
theorem dX2_isEar_45 : decode cX2_isEar 45 = .ok (.aload_n 0, 1) := by decide +kernel
theorem dX2_isEar_46 : decode cX2_isEar 46 = .ok (.getfield 14, 3) := by decide +kernel
theorem dX2_isEar_49 : decode cX2_isEar 49 = .ok (.invokevirtual 48, 3) := by decide +kernel
theorem dX2_isEar_52 : decode cX2_isEar 52 = .ok (.if_icmp .ge 104, 3) := by decide +kernel
theorem dX2_isEar_55 : decode cX2_isEar 55 = .ok (.iload 5, 2) := by decide +kernel
theorem dX2_isEar_57 : decode cX2_isEar 57 = .ok (.iload_n 3, 1) := by decide +kernel
theorem dX2_isEar_58 : decode cX2_isEar 58 = .ok (.if_icmp .eq 20, 3) := by decide +kernel
theorem dX2_isEar_61 : decode cX2_isEar 61 = .ok (.iload 5, 2) := by decide +kernel
theorem dX2_isEar_63 : decode cX2_isEar 63 = .ok (.iload_n 1, 1) := by decide +kernel
theorem dX2_isEar_64 : decode cX2_isEar 64 = .ok (.if_icmp .eq 14, 3) := by decide +kernel
theorem dX2_isEar_67 : decode cX2_isEar 67 = .ok (.iload 5, 2) := by decide +kernel
theorem dX2_isEar_69 : decode cX2_isEar 69 = .ok (.iload 4, 2) := by decide +kernel
theorem dX2_isEar_71 : decode cX2_isEar 71 = .ok (.if_icmp .eq 7, 3) := by decide +kernel
theorem dX2_isEar_74 : decode cX2_isEar 74 = .ok (.iconst 1, 1) := by decide +kernel
theorem dX2_isEar_75 : decode cX2_isEar 75 = .ok (.goto 4, 3) := by decide +kernel
theorem dX2_isEar_78 : decode cX2_isEar 78 = .ok (.iconst 0, 1) := by decide +kernel
theorem dX2_isEar_79 : decode cX2_isEar 79 = .ok (.istore 6, 2) := by decide +kernel
theorem dX2_isEar_81 : decode cX2_isEar 81 = .ok (.iload 6, 2) := by decide +kernel
theorem dX2_isEar_83 : decode cX2_isEar 83 = .ok (.ifCond .eq 67, 3) := by decide +kernel
theorem dX2_isEar_86 : decode cX2_isEar 86 = .ok (.iload_n 2, 1) := by decide +kernel
theorem dX2_isEar_87 : decode cX2_isEar 87 = .ok (.aload_n 0, 1) := by decide +kernel
theorem dX2_isEar_88 : decode cX2_isEar 88 = .ok (.getfield 14, 3) := by decide +kernel
theorem dX2_isEar_91 : decode cX2_isEar 91 = .ok (.iload_n 3, 1) := by decide +kernel
theorem dX2_isEar_92 : decode cX2_isEar 92 = .ok (.iload_n 1, 1) := by decide +kernel
theorem dX2_isEar_93 : decode cX2_isEar 93 = .ok (.aload_n 0, 1) := by decide +kernel
theorem dX2_isEar_94 : decode cX2_isEar 94 = .ok (.getfield 14, 3) := by decide +kernel
theorem dX2_isEar_97 : decode cX2_isEar 97 = .ok (.iload 5, 2) := by decide +kernel
theorem dX2_isEar_99 : decode cX2_isEar 99 = .ok (.invokestatic 86, 3) := by decide +kernel
theorem dX2_isEar_102 : decode cX2_isEar 102 = .ok (.imul, 1) := by decide +kernel
theorem dX2_isEar_103 : decode cX2_isEar 103 = .ok (.ifCond .lt 47, 3) := by decide +kernel
theorem dX2_isEar_106 : decode cX2_isEar 106 = .ok (.iload_n 2, 1) := by decide +kernel
theorem dX2_isEar_107 : decode cX2_isEar 107 = .ok (.aload_n 0, 1) := by decide +kernel
theorem dX2_isEar_108 : decode cX2_isEar 108 = .ok (.getfield 14, 3) := by decide +kernel
theorem dX2_isEar_111 : decode cX2_isEar 111 = .ok (.iload_n 1, 1) := by decide +kernel
theorem dX2_isEar_112 : decode cX2_isEar 112 = .ok (.iload 4, 2) := by decide +kernel
theorem dX2_isEar_114 : decode cX2_isEar 114 = .ok (.aload_n 0, 1) := by decide +kernel
theorem dX2_isEar_115 : decode cX2_isEar 115 = .ok (.getfield 14, 3) := by decide +kernel
theorem dX2_isEar_118 : decode cX2_isEar 118 = .ok (.iload 5, 2) := by decide +kernel
theorem dX2_isEar_120 : decode cX2_isEar 120 = .ok (.invokestatic 86, 3) := by decide +kernel
theorem dX2_isEar_123 : decode cX2_isEar 123 = .ok (.imul, 1) := by decide +kernel
theorem dX2_isEar_124 : decode cX2_isEar 124 = .ok (.ifCond .lt 26, 3) := by decide +kernel
theorem dX2_isEar_127 : decode cX2_isEar 127 = .ok (.iload_n 2, 1) := by decide +kernel
theorem dX2_isEar_128 : decode cX2_isEar 128 = .ok (.aload_n 0, 1) := by decide +kernel
theorem dX2_isEar_129 : decode cX2_isEar 129 = .ok (.getfield 14, 3) := by decide +kernel
theorem dX2_isEar_132 : decode cX2_isEar 132 = .ok (.iload 4, 2) := by decide +kernel
theorem dX2_isEar_134 : decode cX2_isEar 134 = .ok (.iload_n 3, 1) := by decide +kernel
theorem dX2_isEar_135 : decode cX2_isEar 135 = .ok (.aload_n 0, 1) := by decide +kernel
theorem dX2_isEar_136 : decode cX2_isEar 136 = .ok (.getfield 14, 3) := by decide +kernel
theorem dX2_isEar_139 : decode cX2_isEar 139 = .ok (.iload 5, 2) := by decide +kernel
theorem dX2_isEar_141 : decode cX2_isEar 141 = .ok (.invokestatic 86, 3) := by decide +kernel
theorem dX2_isEar_144 : decode cX2_isEar 144 = .ok (.imul, 1) := by decide +kernel
theorem dX2_isEar_145 : decode cX2_isEar 145 = .ok (.ifCond .lt 5, 3) := by decide +kernel
theorem dX2_isEar_148 : decode cX2_isEar 148 = .ok (.iconst 0, 1) := by decide +kernel
theorem dX2_isEar_149 : decode cX2_isEar 149 = .ok (.ireturn, 1) := by decide +kernel
theorem dX2_isEar_150 : decode cX2_isEar 150 = .ok (.iinc 5 1, 3) := by decide +kernel
theorem dX2_isEar_153 : decode cX2_isEar 153 = .ok (.goto (-110), 3) := by decide +kernel
theorem dX2_isEar_156 : decode cX2_isEar 156 = .ok (.iconst 1, 1) := by decide +kernel
theorem dX2_isEar_157 : decode cX2_isEar 157 = .ok (.ireturn, 1) := by decide +kernel
theorem dX3_twist_0 : decode cX3_twist 0 = .ok (.lload 4, 2) := by decide +kernel
theorem dX3_twist_2 : decode cX3_twist 2 = .ok (.lload_n 0, 1) := by decide +kernel
theorem dX3_twist_3 : decode cX3_twist 3 = .ok (.lsub, 1) := by decide +kernel
theorem dX3_twist_4 : decode cX3_twist 4 = .ok (.lload 10, 2) := by decide +kernel
theorem dX3_twist_6 : decode cX3_twist 6 = .ok (.lload_n 2, 1) := by decide +kernel
theorem dX3_twist_7 : decode cX3_twist 7 = .ok (.lsub, 1) := by decide +kernel
theorem dX3_twist_8 : decode cX3_twist 8 = .ok (.lmul, 1) := by decide +kernel
theorem dX3_twist_9 : decode cX3_twist 9 = .ok (.lload 6, 2) := by decide +kernel
theorem dX3_twist_11 : decode cX3_twist 11 = .ok (.lload_n 2, 1) := by decide +kernel
theorem dX3_twist_12 : decode cX3_twist 12 = .ok (.lsub, 1) := by decide +kernel
theorem dX3_twist_13 : decode cX3_twist 13 = .ok (.lload 8, 2) := by decide +kernel
theorem dX3_twist_15 : decode cX3_twist 15 = .ok (.lload_n 0, 1) := by decide +kernel
theorem dX3_twist_16 : decode cX3_twist 16 = .ok (.lsub, 1) := by decide +kernel
theorem dX3_twist_17 : decode cX3_twist 17 = .ok (.lmul, 1) := by decide +kernel
theorem dX3_twist_18 : decode cX3_twist 18 = .ok (.lsub, 1) := by decide +kernel
theorem dX3_twist_19 : decode cX3_twist 19 = .ok (.lreturn, 1) := by decide +kernel
theorem dX3_signOf_0 : decode cX3_signOf 0 = .ok (.lload_n 0, 1) := by decide +kernel
theorem dX3_signOf_1 : decode cX3_signOf 1 = .ok (.lconst 0, 1) := by decide +kernel
theorem dX3_signOf_2 : decode cX3_signOf 2 = .ok (.lcmp, 1) := by decide +kernel
theorem dX3_signOf_3 : decode cX3_signOf 3 = .ok (.ifCond .le 7, 3) := by decide +kernel
theorem dX3_signOf_6 : decode cX3_signOf 6 = .ok (.iconst 1, 1) := by decide +kernel
theorem dX3_signOf_7 : decode cX3_signOf 7 = .ok (.goto 14, 3) := by decide +kernel
theorem dX3_signOf_10 : decode cX3_signOf 10 = .ok (.lload_n 0, 1) := by decide +kernel
theorem dX3_signOf_11 : decode cX3_signOf 11 = .ok (.lconst 0, 1) := by decide +kernel
theorem dX3_signOf_12 : decode cX3_signOf 12 = .ok (.lcmp, 1) := by decide +kernel
theorem dX3_signOf_13 : decode cX3_signOf 13 = .ok (.ifCond .ge 7, 3) := by decide +kernel
theorem dX3_signOf_16 : decode cX3_signOf 16 = .ok (.iconst (-1), 1) := by decide +kernel
theorem dX3_signOf_17 : decode cX3_signOf 17 = .ok (.goto 4, 3) := by decide +kernel
theorem dX3_signOf_20 : decode cX3_signOf 20 = .ok (.iconst 0, 1) := by decide +kernel
theorem dX3_signOf_21 : decode cX3_signOf 21 = .ok (.ireturn, 1) := by decide +kernel
theorem dX3_isOn_0 : decode cX3_isOn 0 = .ok (.lload_n 0, 1) := by decide +kernel
theorem dX3_isOn_1 : decode cX3_isOn 1 = .ok (.lload 4, 2) := by decide +kernel
theorem dX3_isOn_3 : decode cX3_isOn 3 = .ok (.invokestatic 7, 3) := by decide +kernel
theorem dX3_isOn_6 : decode cX3_isOn 6 = .ok (.lload 8, 2) := by decide +kernel
theorem dX3_isOn_8 : decode cX3_isOn 8 = .ok (.lcmp, 1) := by decide +kernel
theorem dX3_isOn_9 : decode cX3_isOn 9 = .ok (.ifCond .gt 61, 3) := by decide +kernel
theorem dX3_isOn_12 : decode cX3_isOn 12 = .ok (.lload 8, 2) := by decide +kernel
theorem dX3_isOn_14 : decode cX3_isOn 14 = .ok (.lload_n 0, 1) := by decide +kernel
theorem dX3_isOn_15 : decode cX3_isOn 15 = .ok (.lload 4, 2) := by decide +kernel
theorem dX3_isOn_17 : decode cX3_isOn 17 = .ok (.invokestatic 13, 3) := by decide +kernel
theorem dX3_isOn_20 : decode cX3_isOn 20 = .ok (.lcmp, 1) := by decide +kernel
theorem dX3_isOn_21 : decode cX3_isOn 21 = .ok (.ifCond .gt 49, 3) := by decide +kernel
theorem dX3_isOn_24 : decode cX3_isOn 24 = .ok (.lload_n 2, 1) := by decide +kernel
theorem dX3_isOn_25 : decode cX3_isOn 25 = .ok (.lload 6, 2) := by decide +kernel
theorem dX3_isOn_27 : decode cX3_isOn 27 = .ok (.invokestatic 7, 3) := by decide +kernel
theorem dX3_isOn_30 : decode cX3_isOn 30 = .ok (.lload 10, 2) := by decide +kernel
theorem dX3_isOn_32 : decode cX3_isOn 32 = .ok (.lcmp, 1) := by decide +kernel
theorem dX3_isOn_33 : decode cX3_isOn 33 = .ok (.ifCond .gt 37, 3) := by decide +kernel
theorem dX3_isOn_36 : decode cX3_isOn 36 = .ok (.lload 10, 2) := by decide +kernel
theorem dX3_isOn_38 : decode cX3_isOn 38 = .ok (.lload_n 2, 1) := by decide +kernel
theorem dX3_isOn_39 : decode cX3_isOn 39 = .ok (.lload 6, 2) := by decide +kernel
theorem dX3_isOn_41 : decode cX3_isOn 41 = .ok (.invokestatic 13, 3) := by decide +kernel
theorem dX3_isOn_44 : decode cX3_isOn 44 = .ok (.lcmp, 1) := by decide +kernel
theorem dX3_isOn_45 : decode cX3_isOn 45 = .ok (.ifCond .gt 25, 3) := by decide +kernel
theorem dX3_isOn_48 : decode cX3_isOn 48 = .ok (.lload_n 0, 1) := by decide +kernel
theorem dX3_isOn_49 : decode cX3_isOn 49 = .ok (.lload_n 2, 1) := by decide +kernel
theorem dX3_isOn_50 : decode cX3_isOn 50 = .ok (.lload 4, 2) := by decide +kernel
theorem dX3_isOn_52 : decode cX3_isOn 52 = .ok (.lload 6, 2) := by decide +kernel
theorem dX3_isOn_54 : decode cX3_isOn 54 = .ok (.lload 8, 2) := by decide +kernel
theorem dX3_isOn_56 : decode cX3_isOn 56 = .ok (.lload 10, 2) := by decide +kernel
theorem dX3_isOn_58 : decode cX3_isOn 58 = .ok (.invokestatic 16, 3) := by decide +kernel
theorem dX3_isOn_61 : decode cX3_isOn 61 = .ok (.lconst 0, 1) := by decide +kernel
theorem dX3_isOn_62 : decode cX3_isOn 62 = .ok (.lcmp, 1) := by decide +kernel
theorem dX3_isOn_63 : decode cX3_isOn 63 = .ok (.ifCond .ne 7, 3) := by decide +kernel
theorem dX3_isOn_66 : decode cX3_isOn 66 = .ok (.iconst 1, 1) := by decide +kernel
theorem dX3_isOn_67 : decode cX3_isOn 67 = .ok (.goto 4, 3) := by decide +kernel
theorem dX3_isOn_70 : decode cX3_isOn 70 = .ok (.iconst 0, 1) := by decide +kernel
theorem dX3_isOn_71 : decode cX3_isOn 71 = .ok (.ireturn, 1) := by decide +kernel
theorem dX3_isBetween_0 : decode cX3_isBetween 0 = .ok (.aload_n 0, 1) := by decide +kernel
theorem dX3_isBetween_1 : decode cX3_isBetween 1 = .ok (.iload_n 1, 1) := by decide +kernel
theorem dX3_isBetween_2 : decode cX3_isBetween 2 = .ok (.invokevirtual 22, 3) := by decide +kernel
theorem dX3_isBetween_5 : decode cX3_isBetween 5 = .ok (.i2l, 1) := by decide +kernel
theorem dX3_isBetween_6 : decode cX3_isBetween 6 = .ok (.aload_n 0, 1) := by decide +kernel
theorem dX3_isBetween_7 : decode cX3_isBetween 7 = .ok (.iload_n 1, 1) := by decide +kernel
theorem dX3_isBetween_8 : decode cX3_isBetween 8 = .ok (.invokevirtual 28, 3) := by decide +kernel
theorem dX3_isBetween_11 : decode cX3_isBetween 11 = .ok (.i2l, 1) := by decide +kernel
theorem dX3_isBetween_12 : decode cX3_isBetween 12 = .ok (.aload_n 0, 1) := by decide +kernel
theorem dX3_isBetween_13 : decode cX3_isBetween 13 = .ok (.iload_n 2, 1) := by decide +kernel
theorem dX3_isBetween_14 : decode cX3_isBetween 14 = .ok (.invokevirtual 22, 3) := by decide +kernel
theorem dX3_isBetween_17 : decode cX3_isBetween 17 = .ok (.i2l, 1) := by decide +kernel
theorem dX3_isBetween_18 : decode cX3_isBetween 18 = .ok (.aload_n 0, 1) := by decide +kernel
theorem dX3_isBetween_19 : decode cX3_isBetween 19 = .ok (.iload_n 2, 1) := by decide +kernel
theorem dX3_isBetween_20 : decode cX3_isBetween 20 = .ok (.invokevirtual 28, 3) := by decide +kernel
theorem dX3_isBetween_23 : decode cX3_isBetween 23 = .ok (.i2l, 1) := by decide +kernel
theorem dX3_isBetween_24 : decode cX3_isBetween 24 = .ok (.aload_n 3, 1) := by decide +kernel
theorem dX3_isBetween_25 : decode cX3_isBetween 25 = .ok (.iload 4, 2) := by decide +kernel
theorem dX3_isBetween_27 : decode cX3_isBetween 27 = .ok (.invokevirtual 22, 3) := by decide +kernel
theorem dX3_isBetween_30 : decode cX3_isBetween 30 = .ok (.i2l, 1) := by decide +kernel
theorem dX3_isBetween_31 : decode cX3_isBetween 31 = .ok (.aload_n 3, 1) := by decide +kernel
theorem dX3_isBetween_32 : decode cX3_isBetween 32 = .ok (.iload 4, 2) := by decide +kernel
theorem dX3_isBetween_34 : decode cX3_isBetween 34 = .ok (.invokevirtual 28, 3) := by decide +kernel
theorem dX3_isBetween_37 : decode cX3_isBetween 37 = .ok (.i2l, 1) := by decide +kernel
theorem dX3_isBetween_38 : decode cX3_isBetween 38 = .ok (.invokestatic 31, 3) := by decide +kernel
theorem dX3_isBetween_41 : decode cX3_isBetween 41 = .ok (.ireturn, 1) := by decide +kernel
theorem dX3_side_0 : decode cX3_side 0 = .ok (.aload_n 0, 1) := by decide +kernel
theorem dX3_side_1 : decode cX3_side 1 = .ok (.iload_n 1, 1) := by decide +kernel
theorem dX3_side_2 : decode cX3_side 2 = .ok (.invokevirtual 22, 3) := by decide +kernel
theorem dX3_side_5 : decode cX3_side 5 = .ok (.i2l, 1) := by decide +kernel
theorem dX3_side_6 : decode cX3_side 6 = .ok (.aload_n 0, 1) := by decide +kernel
theorem dX3_side_7 : decode cX3_side 7 = .ok (.iload_n 1, 1) := by decide +kernel
theorem dX3_side_8 : decode cX3_side 8 = .ok (.invokevirtual 28, 3) := by decide +kernel
theorem dX3_side_11 : decode cX3_side 11 = .ok (.i2l, 1) := by decide +kernel
theorem dX3_side_12 : decode cX3_side 12 = .ok (.aload_n 0, 1) := by decide +kernel
theorem dX3_side_13 : decode cX3_side 13 = .ok (.iload_n 2, 1) := by decide +kernel
theorem dX3_side_14 : decode cX3_side 14 = .ok (.invokevirtual 22, 3) := by decide +kernel
theorem dX3_side_17 : decode cX3_side 17 = .ok (.i2l, 1) := by decide +kernel
theorem dX3_side_18 : decode cX3_side 18 = .ok (.aload_n 0, 1) := by decide +kernel
theorem dX3_side_19 : decode cX3_side 19 = .ok (.iload_n 2, 1) := by decide +kernel
theorem dX3_side_20 : decode cX3_side 20 = .ok (.invokevirtual 28, 3) := by decide +kernel
theorem dX3_side_23 : decode cX3_side 23 = .ok (.i2l, 1) := by decide +kernel
theorem dX3_side_24 : decode cX3_side 24 = .ok (.aload_n 3, 1) := by decide +kernel
theorem dX3_side_25 : decode cX3_side 25 = .ok (.iload 4, 2) := by decide +kernel
theorem dX3_side_27 : decode cX3_side 27 = .ok (.invokevirtual 22, 3) := by decide +kernel
theorem dX3_side_30 : decode cX3_side 30 = .ok (.i2l, 1) := by decide +kernel
theorem dX3_side_31 : decode cX3_side 31 = .ok (.aload_n 3, 1) := by decide +kernel
theorem dX3_side_32 : decode cX3_side 32 = .ok (.iload 4, 2) := by decide +kernel
theorem dX3_side_34 : decode cX3_side 34 = .ok (.invokevirtual 28, 3) := by decide +kernel
theorem dX3_side_37 : decode cX3_side 37 = .ok (.i2l, 1) := by decide +kernel
theorem dX3_side_38 : decode cX3_side 38 = .ok (.invokestatic 16, 3) := by decide +kernel
theorem dX3_side_41 : decode cX3_side 41 = .ok (.lstore 5, 2) := by decide +kernel
theorem dX3_side_43 : decode cX3_side 43 = .ok (.lload 5, 2) := by decide +kernel
theorem dX3_side_45 : decode cX3_side 45 = .ok (.invokestatic 35, 3) := by decide +kernel
theorem dX3_side_48 : decode cX3_side 48 = .ok (.ireturn, 1) := by decide +kernel
theorem dX3_passThrough_0 : decode cX3_passThrough 0 = .ok (.aload_n 0, 1) := by decide +kernel
theorem dX3_passThrough_1 : decode cX3_passThrough 1 = .ok (.iload_n 1, 1) := by decide +kernel
theorem dX3_passThrough_2 : decode cX3_passThrough 2 = .ok (.iload_n 2, 1) := by decide +kernel
theorem dX3_passThrough_3 : decode cX3_passThrough 3 = .ok (.aload_n 3, 1) := by decide +kernel
theorem dX3_passThrough_4 : decode cX3_passThrough 4 = .ok (.iload 4, 2) := by decide +kernel
theorem dX3_passThrough_6 : decode cX3_passThrough 6 = .ok (.invokestatic 39, 3) := by decide +kernel
theorem dX3_passThrough_9 : decode cX3_passThrough 9 = .ok (.aload_n 0, 1) := by decide +kernel
theorem dX3_passThrough_10 : decode cX3_passThrough 10 = .ok (.iload_n 1, 1) := by decide +kernel
theorem dX3_passThrough_11 : decode cX3_passThrough 11 = .ok (.iload_n 2, 1) := by decide +kernel
theorem dX3_passThrough_12 : decode cX3_passThrough 12 = .ok (.aload_n 3, 1) := by decide +kernel
theorem dX3_passThrough_13 : decode cX3_passThrough 13 = .ok (.iload 5, 2) := by decide +kernel
theorem dX3_passThrough_15 : decode cX3_passThrough 15 = .ok (.invokestatic 39, 3) := by decide +kernel
theorem dX3_passThrough_18 : decode cX3_passThrough 18 = .ok (.imul, 1) := by decide +kernel
theorem dX3_passThrough_19 : decode cX3_passThrough 19 = .ok (.ifCond .ge 31, 3) := by decide +kernel
theorem dX3_passThrough_22 : decode cX3_passThrough 22 = .ok (.aload_n 3, 1) := by decide +kernel
theorem dX3_passThrough_23 : decode cX3_passThrough 23 = .ok (.iload 4, 2) := by decide +kernel
theorem dX3_passThrough_25 : decode cX3_passThrough 25 = .ok (.iload 5, 2) := by decide +kernel
theorem dX3_passThrough_27 : decode cX3_passThrough 27 = .ok (.aload_n 0, 1) := by decide +kernel
theorem dX3_passThrough_28 : decode cX3_passThrough 28 = .ok (.iload_n 1, 1) := by decide +kernel
theorem dX3_passThrough_29 : decode cX3_passThrough 29 = .ok (.invokestatic 39, 3) := by decide +kernel
theorem dX3_passThrough_32 : decode cX3_passThrough 32 = .ok (.aload_n 3, 1) := by decide +kernel
theorem dX3_passThrough_33 : decode cX3_passThrough 33 = .ok (.iload 4, 2) := by decide +kernel
theorem dX3_passThrough_35 : decode cX3_passThrough 35 = .ok (.iload 5, 2) := by decide +kernel
theorem dX3_passThrough_37 : decode cX3_passThrough 37 = .ok (.aload_n 0, 1) := by decide +kernel
theorem dX3_passThrough_38 : decode cX3_passThrough 38 = .ok (.iload_n 2, 1) := by decide +kernel
theorem dX3_passThrough_39 : decode cX3_passThrough 39 = .ok (.invokestatic 39, 3) := by decide +kernel
theorem dX3_passThrough_42 : decode cX3_passThrough 42 = .ok (.imul, 1) := by decide +kernel
theorem dX3_passThrough_43 : decode cX3_passThrough 43 = .ok (.ifCond .ge 7, 3) := by decide +kernel
theorem dX3_passThrough_46 : decode cX3_passThrough 46 = .ok (.iconst 1, 1) := by decide +kernel
theorem dX3_passThrough_47 : decode cX3_passThrough 47 = .ok (.goto 4, 3) := by decide +kernel
theorem dX3_passThrough_50 : decode cX3_passThrough 50 = .ok (.iconst 0, 1) := by decide +kernel
theorem dX3_passThrough_51 : decode cX3_passThrough 51 = .ok (.ireturn, 1) := by decide +kernel
theorem dX3_meet_0 : decode cX3_meet 0 = .ok (.aload_n 0, 1) := by decide +kernel
theorem dX3_meet_1 : decode cX3_meet 1 = .ok (.iload_n 1, 1) := by decide +kernel
theorem dX3_meet_2 : decode cX3_meet 2 = .ok (.iload_n 2, 1) := by decide +kernel
theorem dX3_meet_3 : decode cX3_meet 3 = .ok (.aload_n 3, 1) := by decide +kernel
theorem dX3_meet_4 : decode cX3_meet 4 = .ok (.iload 4, 2) := by decide +kernel
theorem dX3_meet_6 : decode cX3_meet 6 = .ok (.iload 5, 2) := by decide +kernel
theorem dX3_meet_8 : decode cX3_meet 8 = .ok (.invokestatic 43, 3) := by decide +kernel
theorem dX3_meet_11 : decode cX3_meet 11 = .ok (.ifCond .ne 53, 3) := by decide +kernel
theorem dX3_meet_14 : decode cX3_meet 14 = .ok (.aload_n 0, 1) := by decide +kernel
theorem dX3_meet_15 : decode cX3_meet 15 = .ok (.iload_n 1, 1) := by decide +kernel
theorem dX3_meet_16 : decode cX3_meet 16 = .ok (.iload_n 2, 1) := by decide +kernel
theorem dX3_meet_17 : decode cX3_meet 17 = .ok (.aload_n 3, 1) := by decide +kernel
theorem dX3_meet_18 : decode cX3_meet 18 = .ok (.iload 4, 2) := by decide +kernel
theorem dX3_meet_20 : decode cX3_meet 20 = .ok (.invokestatic 47, 3) := by decide +kernel
theorem dX3_meet_23 : decode cX3_meet 23 = .ok (.ifCond .ne 41, 3) := by decide +kernel
theorem dX3_meet_26 : decode cX3_meet 26 = .ok (.aload_n 0, 1) := by decide +kernel
theorem dX3_meet_27 : decode cX3_meet 27 = .ok (.iload_n 1, 1) := by decide +kernel
theorem dX3_meet_28 : decode cX3_meet 28 = .ok (.iload_n 2, 1) := by decide +kernel
theorem dX3_meet_29 : decode cX3_meet 29 = .ok (.aload_n 3, 1) := by decide +kernel
theorem dX3_meet_30 : decode cX3_meet 30 = .ok (.iload 5, 2) := by decide +kernel
theorem dX3_meet_32 : decode cX3_meet 32 = .ok (.invokestatic 47, 3) := by decide +kernel
theorem dX3_meet_35 : decode cX3_meet 35 = .ok (.ifCond .ne 29, 3) := by decide +kernel
theorem dX3_meet_38 : decode cX3_meet 38 = .ok (.aload_n 3, 1) := by decide +kernel
theorem dX3_meet_39 : decode cX3_meet 39 = .ok (.iload 4, 2) := by decide +kernel
theorem dX3_meet_41 : decode cX3_meet 41 = .ok (.iload 5, 2) := by decide +kernel
theorem dX3_meet_43 : decode cX3_meet 43 = .ok (.aload_n 0, 1) := by decide +kernel
theorem dX3_meet_44 : decode cX3_meet 44 = .ok (.iload_n 1, 1) := by decide +kernel
theorem dX3_meet_45 : decode cX3_meet 45 = .ok (.invokestatic 47, 3) := by decide +kernel
theorem dX3_meet_48 : decode cX3_meet 48 = .ok (.ifCond .ne 16, 3) := by decide +kernel
theorem dX3_meet_51 : decode cX3_meet 51 = .ok (.aload_n 3, 1) := by decide +kernel
theorem dX3_meet_52 : decode cX3_meet 52 = .ok (.iload 4, 2) := by decide +kernel
theorem dX3_meet_54 : decode cX3_meet 54 = .ok (.iload 5, 2) := by decide +kernel
theorem dX3_meet_56 : decode cX3_meet 56 = .ok (.aload_n 0, 1) := by decide +kernel
theorem dX3_meet_57 : decode cX3_meet 57 = .ok (.iload_n 2, 1) := by decide +kernel
theorem dX3_meet_58 : decode cX3_meet 58 = .ok (.invokestatic 47, 3) := by decide +kernel
theorem dX3_meet_61 : decode cX3_meet 61 = .ok (.ifCond .eq 7, 3) := by decide +kernel
theorem dX3_meet_64 : decode cX3_meet 64 = .ok (.iconst 1, 1) := by decide +kernel
theorem dX3_meet_65 : decode cX3_meet 65 = .ok (.goto 4, 3) := by decide +kernel
theorem dX3_meet_68 : decode cX3_meet 68 = .ok (.iconst 0, 1) := by decide +kernel
theorem dX3_meet_69 : decode cX3_meet 69 = .ok (.ireturn, 1) := by decide +kernel
theorem dX3_commonDivisor_0 : decode cX3_commonDivisor 0 = .ok (.lload_n 0, 1) := by decide +kernel
theorem dX3_commonDivisor_1 : decode cX3_commonDivisor 1 = .ok (.invokestatic 51, 3) := by decide +kernel
theorem dX3_commonDivisor_4 : decode cX3_commonDivisor 4 = .ok (.lstore 4, 2) := by decide +kernel
theorem dX3_commonDivisor_6 : decode cX3_commonDivisor 6 = .ok (.lload_n 2, 1) := by decide +kernel
theorem dX3_commonDivisor_7 : decode cX3_commonDivisor 7 = .ok (.invokestatic 51, 3) := by decide +kernel
theorem dX3_commonDivisor_10 : decode cX3_commonDivisor 10 = .ok (.lstore 6, 2) := by decide +kernel
theorem dX3_commonDivisor_12 : decode cX3_commonDivisor 12 = .ok (.iconst 0, 1) := by decide +kernel
theorem dX3_commonDivisor_13 : decode cX3_commonDivisor 13 = .ok (.istore 8, 2) := by decide +kernel
theorem dX3_commonDivisor_15 : decode cX3_commonDivisor 15 = .ok (.iload 8, 2) := by decide +kernel
theorem dX3_commonDivisor_17 : decode cX3_commonDivisor 17 = .ok (.sipush 128, 3) := by decide +kernel
theorem dX3_commonDivisor_20 : decode cX3_commonDivisor 20 = .ok (.if_icmp .ge 31, 3) := by decide +kernel
theorem dX3_commonDivisor_23 : decode cX3_commonDivisor 23 = .ok (.lload 6, 2) := by decide +kernel
theorem dX3_commonDivisor_25 : decode cX3_commonDivisor 25 = .ok (.lconst 0, 1) := by decide +kernel
theorem dX3_commonDivisor_26 : decode cX3_commonDivisor 26 = .ok (.lcmp, 1) := by decide +kernel
theorem dX3_commonDivisor_27 : decode cX3_commonDivisor 27 = .ok (.ifCond .eq 24, 3) := by decide +kernel
theorem dX3_commonDivisor_30 : decode cX3_commonDivisor 30 = .ok (.lload 4, 2) := by decide +kernel
theorem dX3_commonDivisor_32 : decode cX3_commonDivisor 32 = .ok (.lload 6, 2) := by decide +kernel
theorem dX3_commonDivisor_34 : decode cX3_commonDivisor 34 = .ok (.lrem, 1) := by decide +kernel
theorem dX3_commonDivisor_35 : decode cX3_commonDivisor 35 = .ok (.lstore 9, 2) := by decide +kernel
theorem dX3_commonDivisor_37 : decode cX3_commonDivisor 37 = .ok (.lload 6, 2) := by decide +kernel
theorem dX3_commonDivisor_39 : decode cX3_commonDivisor 39 = .ok (.lstore 4, 2) := by decide +kernel
theorem dX3_commonDivisor_41 : decode cX3_commonDivisor 41 = .ok (.lload 9, 2) := by decide +kernel
theorem dX3_commonDivisor_43 : decode cX3_commonDivisor 43 = .ok (.lstore 6, 2) := by decide +kernel
theorem dX3_commonDivisor_45 : decode cX3_commonDivisor 45 = .ok (.iinc 8 1, 3) := by decide +kernel
theorem dX3_commonDivisor_48 : decode cX3_commonDivisor 48 = .ok (.goto (-33), 3) := by decide +kernel
theorem dX3_commonDivisor_51 : decode cX3_commonDivisor 51 = .ok (.lload 4, 2) := by decide +kernel
theorem dX3_commonDivisor_53 : decode cX3_commonDivisor 53 = .ok (.lreturn, 1) := by decide +kernel
theorem dX4_init_0 : decode cX4_init 0 = .ok (.aload_n 0, 1) := by decide +kernel
theorem dX4_init_1 : decode cX4_init 1 = .ok (.invokespecial 1, 3) := by decide +kernel
theorem dX4_init_4 : decode cX4_init 4 = .ok (.aload_n 0, 1) := by decide +kernel
theorem dX4_init_5 : decode cX4_init 5 = .ok (.iconst 0, 1) := by decide +kernel
theorem dX4_init_6 : decode cX4_init 6 = .ok (.putfield 7, 3) := by decide +kernel
theorem dX4_init_9 : decode cX4_init 9 = .ok (.iload_n 1, 1) := by decide +kernel
theorem dX4_init_10 : decode cX4_init 10 = .ok (.iconst 0, 1) := by decide +kernel
theorem dX4_init_11 : decode cX4_init 11 = .ok (.invokestatic 13, 3) := by decide +kernel
theorem dX4_init_14 : decode cX4_init 14 = .ok (.istore_n 2, 1) := by decide +kernel
theorem dX4_init_15 : decode cX4_init 15 = .ok (.aload_n 0, 1) := by decide +kernel
theorem dX4_init_16 : decode cX4_init 16 = .ok (.iload_n 2, 1) := by decide +kernel
theorem dX4_init_17 : decode cX4_init 17 = .ok (.newarray .int, 2) := by decide +kernel
theorem dX4_init_19 : decode cX4_init 19 = .ok (.putfield 19, 3) := by decide +kernel
theorem dX4_init_22 : decode cX4_init 22 = .ok (.aload_n 0, 1) := by decide +kernel
theorem dX4_init_23 : decode cX4_init 23 = .ok (.iload_n 2, 1) := by decide +kernel
theorem dX4_init_24 : decode cX4_init 24 = .ok (.newarray .int, 2) := by decide +kernel
theorem dX4_init_26 : decode cX4_init 26 = .ok (.putfield 23, 3) := by decide +kernel
theorem dX4_init_29 : decode cX4_init 29 = .ok (.aload_n 0, 1) := by decide +kernel
theorem dX4_init_30 : decode cX4_init 30 = .ok (.iload_n 2, 1) := by decide +kernel
theorem dX4_init_31 : decode cX4_init 31 = .ok (.newarray .int, 2) := by decide +kernel
theorem dX4_init_33 : decode cX4_init 33 = .ok (.putfield 26, 3) := by decide +kernel
theorem dX4_init_36 : decode cX4_init 36 = .ok (.return_, 1) := by decide +kernel
theorem dX4_size_0 : decode cX4_size 0 = .ok (.aload_n 0, 1) := by decide +kernel
theorem dX4_size_1 : decode cX4_size 1 = .ok (.getfield 7, 3) := by decide +kernel
theorem dX4_size_4 : decode cX4_size 4 = .ok (.ireturn, 1) := by decide +kernel
theorem dX4_xAt_0 : decode cX4_xAt 0 = .ok (.iload_n 1, 1) := by decide +kernel
theorem dX4_xAt_1 : decode cX4_xAt 1 = .ok (.ifCond .lt 21, 3) := by decide +kernel
theorem dX4_xAt_4 : decode cX4_xAt 4 = .ok (.iload_n 1, 1) := by decide +kernel
theorem dX4_xAt_5 : decode cX4_xAt 5 = .ok (.aload_n 0, 1) := by decide +kernel
theorem dX4_xAt_6 : decode cX4_xAt 6 = .ok (.getfield 19, 3) := by decide +kernel
theorem dX4_xAt_9 : decode cX4_xAt 9 = .ok (.arraylength, 1) := by decide +kernel
theorem dX4_xAt_10 : decode cX4_xAt 10 = .ok (.if_icmp .ge 12, 3) := by decide +kernel
theorem dX4_xAt_13 : decode cX4_xAt 13 = .ok (.aload_n 0, 1) := by decide +kernel
theorem dX4_xAt_14 : decode cX4_xAt 14 = .ok (.getfield 19, 3) := by decide +kernel
theorem dX4_xAt_17 : decode cX4_xAt 17 = .ok (.iload_n 1, 1) := by decide +kernel
theorem dX4_xAt_18 : decode cX4_xAt 18 = .ok (.iaload, 1) := by decide +kernel
theorem dX4_xAt_19 : decode cX4_xAt 19 = .ok (.goto 4, 3) := by decide +kernel
theorem dX4_xAt_22 : decode cX4_xAt 22 = .ok (.iconst 0, 1) := by decide +kernel
theorem dX4_xAt_23 : decode cX4_xAt 23 = .ok (.ireturn, 1) := by decide +kernel
theorem dX4_yAt_0 : decode cX4_yAt 0 = .ok (.iload_n 1, 1) := by decide +kernel
theorem dX4_yAt_1 : decode cX4_yAt 1 = .ok (.ifCond .lt 21, 3) := by decide +kernel
theorem dX4_yAt_4 : decode cX4_yAt 4 = .ok (.iload_n 1, 1) := by decide +kernel
theorem dX4_yAt_5 : decode cX4_yAt 5 = .ok (.aload_n 0, 1) := by decide +kernel
theorem dX4_yAt_6 : decode cX4_yAt 6 = .ok (.getfield 23, 3) := by decide +kernel
theorem dX4_yAt_9 : decode cX4_yAt 9 = .ok (.arraylength, 1) := by decide +kernel
theorem dX4_yAt_10 : decode cX4_yAt 10 = .ok (.if_icmp .ge 12, 3) := by decide +kernel
theorem dX4_yAt_13 : decode cX4_yAt 13 = .ok (.aload_n 0, 1) := by decide +kernel
theorem dX4_yAt_14 : decode cX4_yAt 14 = .ok (.getfield 23, 3) := by decide +kernel
theorem dX4_yAt_17 : decode cX4_yAt 17 = .ok (.iload_n 1, 1) := by decide +kernel
theorem dX4_yAt_18 : decode cX4_yAt 18 = .ok (.iaload, 1) := by decide +kernel
theorem dX4_yAt_19 : decode cX4_yAt 19 = .ok (.goto 4, 3) := by decide +kernel
theorem dX4_yAt_22 : decode cX4_yAt 22 = .ok (.iconst 0, 1) := by decide +kernel
theorem dX4_yAt_23 : decode cX4_yAt 23 = .ok (.ireturn, 1) := by decide +kernel
theorem dX4_markAt_0 : decode cX4_markAt 0 = .ok (.iload_n 1, 1) := by decide +kernel
theorem dX4_markAt_1 : decode cX4_markAt 1 = .ok (.ifCond .lt 21, 3) := by decide +kernel
theorem dX4_markAt_4 : decode cX4_markAt 4 = .ok (.iload_n 1, 1) := by decide +kernel
theorem dX4_markAt_5 : decode cX4_markAt 5 = .ok (.aload_n 0, 1) := by decide +kernel
theorem dX4_markAt_6 : decode cX4_markAt 6 = .ok (.getfield 26, 3) := by decide +kernel
theorem dX4_markAt_9 : decode cX4_markAt 9 = .ok (.arraylength, 1) := by decide +kernel
theorem dX4_markAt_10 : decode cX4_markAt 10 = .ok (.if_icmp .ge 12, 3) := by decide +kernel
theorem dX4_markAt_13 : decode cX4_markAt 13 = .ok (.aload_n 0, 1) := by decide +kernel
theorem dX4_markAt_14 : decode cX4_markAt 14 = .ok (.getfield 26, 3) := by decide +kernel
theorem dX4_markAt_17 : decode cX4_markAt 17 = .ok (.iload_n 1, 1) := by decide +kernel
theorem dX4_markAt_18 : decode cX4_markAt 18 = .ok (.iaload, 1) := by decide +kernel
theorem dX4_markAt_19 : decode cX4_markAt 19 = .ok (.goto 4, 3) := by decide +kernel
theorem dX4_markAt_22 : decode cX4_markAt 22 = .ok (.iconst 0, 1) := by decide +kernel
theorem dX4_markAt_23 : decode cX4_markAt 23 = .ok (.ireturn, 1) := by decide +kernel
theorem dX4_isAt_0 : decode cX4_isAt 0 = .ok (.aload_n 0, 1) := by decide +kernel
theorem dX4_isAt_1 : decode cX4_isAt 1 = .ok (.iload_n 1, 1) := by decide +kernel
theorem dX4_isAt_2 : decode cX4_isAt 2 = .ok (.invokevirtual 29, 3) := by decide +kernel
theorem dX4_isAt_5 : decode cX4_isAt 5 = .ok (.iload_n 2, 1) := by decide +kernel
theorem dX4_isAt_6 : decode cX4_isAt 6 = .ok (.if_icmp .ne 16, 3) := by decide +kernel
theorem dX4_isAt_9 : decode cX4_isAt 9 = .ok (.aload_n 0, 1) := by decide +kernel
theorem dX4_isAt_10 : decode cX4_isAt 10 = .ok (.iload_n 1, 1) := by decide +kernel
theorem dX4_isAt_11 : decode cX4_isAt 11 = .ok (.invokevirtual 33, 3) := by decide +kernel
theorem dX4_isAt_14 : decode cX4_isAt 14 = .ok (.iload_n 3, 1) := by decide +kernel
theorem dX4_isAt_15 : decode cX4_isAt 15 = .ok (.if_icmp .ne 7, 3) := by decide +kernel
theorem dX4_isAt_18 : decode cX4_isAt 18 = .ok (.iconst 1, 1) := by decide +kernel
theorem dX4_isAt_19 : decode cX4_isAt 19 = .ok (.goto 4, 3) := by decide +kernel
theorem dX4_isAt_22 : decode cX4_isAt 22 = .ok (.iconst 0, 1) := by decide +kernel
theorem dX4_isAt_23 : decode cX4_isAt 23 = .ok (.ireturn, 1) := by decide +kernel
theorem dX4_next_0 : decode cX4_next 0 = .ok (.iload_n 1, 1) := by decide +kernel
theorem dX4_next_1 : decode cX4_next 1 = .ok (.iconst 1, 1) := by decide +kernel
theorem dX4_next_2 : decode cX4_next 2 = .ok (.iadd, 1) := by decide +kernel
theorem dX4_next_3 : decode cX4_next 3 = .ok (.aload_n 0, 1) := by decide +kernel
theorem dX4_next_4 : decode cX4_next 4 = .ok (.getfield 7, 3) := by decide +kernel
theorem dX4_next_7 : decode cX4_next 7 = .ok (.if_icmp .ge 9, 3) := by decide +kernel
theorem dX4_next_10 : decode cX4_next 10 = .ok (.iload_n 1, 1) := by decide +kernel
theorem dX4_next_11 : decode cX4_next 11 = .ok (.iconst 1, 1) := by decide +kernel
theorem dX4_next_12 : decode cX4_next 12 = .ok (.iadd, 1) := by decide +kernel
theorem dX4_next_13 : decode cX4_next 13 = .ok (.goto 4, 3) := by decide +kernel
theorem dX4_next_16 : decode cX4_next 16 = .ok (.iconst 0, 1) := by decide +kernel
theorem dX4_next_17 : decode cX4_next 17 = .ok (.ireturn, 1) := by decide +kernel
theorem dX4_previous_0 : decode cX4_previous 0 = .ok (.iload_n 1, 1) := by decide +kernel
theorem dX4_previous_1 : decode cX4_previous 1 = .ok (.ifCond .le 9, 3) := by decide +kernel
theorem dX4_previous_4 : decode cX4_previous 4 = .ok (.iload_n 1, 1) := by decide +kernel
theorem dX4_previous_5 : decode cX4_previous 5 = .ok (.iconst 1, 1) := by decide +kernel
theorem dX4_previous_6 : decode cX4_previous 6 = .ok (.isub, 1) := by decide +kernel
theorem dX4_previous_7 : decode cX4_previous 7 = .ok (.goto 9, 3) := by decide +kernel
theorem dX4_previous_10 : decode cX4_previous 10 = .ok (.aload_n 0, 1) := by decide +kernel
theorem dX4_previous_11 : decode cX4_previous 11 = .ok (.getfield 7, 3) := by decide +kernel
theorem dX4_previous_14 : decode cX4_previous 14 = .ok (.iconst 1, 1) := by decide +kernel
theorem dX4_previous_15 : decode cX4_previous 15 = .ok (.isub, 1) := by decide +kernel
theorem dX4_previous_16 : decode cX4_previous 16 = .ok (.ireturn, 1) := by decide +kernel
theorem dX4_mark_0 : decode cX4_mark 0 = .ok (.iload_n 1, 1) := by decide +kernel
theorem dX4_mark_1 : decode cX4_mark 1 = .ok (.ifCond .lt 19, 3) := by decide +kernel
theorem dX4_mark_4 : decode cX4_mark 4 = .ok (.iload_n 1, 1) := by decide +kernel
theorem dX4_mark_5 : decode cX4_mark 5 = .ok (.aload_n 0, 1) := by decide +kernel
theorem dX4_mark_6 : decode cX4_mark 6 = .ok (.getfield 26, 3) := by decide +kernel
theorem dX4_mark_9 : decode cX4_mark 9 = .ok (.arraylength, 1) := by decide +kernel
theorem dX4_mark_10 : decode cX4_mark 10 = .ok (.if_icmp .ge 10, 3) := by decide +kernel
theorem dX4_mark_13 : decode cX4_mark 13 = .ok (.aload_n 0, 1) := by decide +kernel
theorem dX4_mark_14 : decode cX4_mark 14 = .ok (.getfield 26, 3) := by decide +kernel
theorem dX4_mark_17 : decode cX4_mark 17 = .ok (.iload_n 1, 1) := by decide +kernel
theorem dX4_mark_18 : decode cX4_mark 18 = .ok (.iload_n 2, 1) := by decide +kernel
theorem dX4_mark_19 : decode cX4_mark 19 = .ok (.iastore, 1) := by decide +kernel
theorem dX4_mark_20 : decode cX4_mark 20 = .ok (.return_, 1) := by decide +kernel
theorem dX4_reset_0 : decode cX4_reset 0 = .ok (.aload_n 0, 1) := by decide +kernel
theorem dX4_reset_1 : decode cX4_reset 1 = .ok (.iconst 0, 1) := by decide +kernel
theorem dX4_reset_2 : decode cX4_reset 2 = .ok (.putfield 7, 3) := by decide +kernel
theorem dX4_reset_5 : decode cX4_reset 5 = .ok (.return_, 1) := by decide +kernel
theorem dX4_shorten_0 : decode cX4_shorten 0 = .ok (.aload_n 0, 1) := by decide +kernel
theorem dX4_shorten_1 : decode cX4_shorten 1 = .ok (.getfield 7, 3) := by decide +kernel
theorem dX4_shorten_4 : decode cX4_shorten 4 = .ok (.ifCond .le 13, 3) := by decide +kernel
theorem dX4_shorten_7 : decode cX4_shorten 7 = .ok (.aload_n 0, 1) := by decide +kernel
theorem dX4_shorten_8 : decode cX4_shorten 8 = .ok (.dup, 1) := by decide +kernel
theorem dX4_shorten_9 : decode cX4_shorten 9 = .ok (.getfield 7, 3) := by decide +kernel
theorem dX4_shorten_12 : decode cX4_shorten 12 = .ok (.iconst 1, 1) := by decide +kernel
theorem dX4_shorten_13 : decode cX4_shorten 13 = .ok (.isub, 1) := by decide +kernel
theorem dX4_shorten_14 : decode cX4_shorten 14 = .ok (.putfield 7, 3) := by decide +kernel
theorem dX4_shorten_17 : decode cX4_shorten 17 = .ok (.return_, 1) := by decide +kernel
theorem dX4_append_0 : decode cX4_append 0 = .ok (.aload_n 0, 1) := by decide +kernel
theorem dX4_append_1 : decode cX4_append 1 = .ok (.getfield 7, 3) := by decide +kernel
theorem dX4_append_4 : decode cX4_append 4 = .ok (.aload_n 0, 1) := by decide +kernel
theorem dX4_append_5 : decode cX4_append 5 = .ok (.getfield 19, 3) := by decide +kernel
theorem dX4_append_8 : decode cX4_append 8 = .ok (.arraylength, 1) := by decide +kernel
theorem dX4_append_9 : decode cX4_append 9 = .ok (.if_icmp .ge 26, 3) := by decide +kernel
theorem dX4_append_12 : decode cX4_append 12 = .ok (.aload_n 0, 1) := by decide +kernel
theorem dX4_append_13 : decode cX4_append 13 = .ok (.dup, 1) := by decide +kernel
theorem dX4_append_14 : decode cX4_append 14 = .ok (.getfield 7, 3) := by decide +kernel
theorem dX4_append_17 : decode cX4_append 17 = .ok (.iconst 1, 1) := by decide +kernel
theorem dX4_append_18 : decode cX4_append 18 = .ok (.iadd, 1) := by decide +kernel
theorem dX4_append_19 : decode cX4_append 19 = .ok (.putfield 7, 3) := by decide +kernel
theorem dX4_append_22 : decode cX4_append 22 = .ok (.aload_n 0, 1) := by decide +kernel
theorem dX4_append_23 : decode cX4_append 23 = .ok (.aload_n 0, 1) := by decide +kernel
theorem dX4_append_24 : decode cX4_append 24 = .ok (.getfield 7, 3) := by decide +kernel
theorem dX4_append_27 : decode cX4_append 27 = .ok (.iconst 1, 1) := by decide +kernel
theorem dX4_append_28 : decode cX4_append 28 = .ok (.isub, 1) := by decide +kernel
theorem dX4_append_29 : decode cX4_append 29 = .ok (.iload_n 1, 1) := by decide +kernel
theorem dX4_append_30 : decode cX4_append 30 = .ok (.iload_n 2, 1) := by decide +kernel
theorem dX4_append_31 : decode cX4_append 31 = .ok (.iload_n 3, 1) := by decide +kernel
theorem dX4_append_32 : decode cX4_append 32 = .ok (.invokevirtual 36, 3) := by decide +kernel
theorem dX4_append_35 : decode cX4_append 35 = .ok (.return_, 1) := by decide +kernel
theorem dX4_insertInOrder_0 : decode cX4_insertInOrder 0 = .ok (.aload_n 0, 1) := by decide +kernel
theorem dX4_insertInOrder_1 : decode cX4_insertInOrder 1 = .ok (.getfield 7, 3) := by decide +kernel
theorem dX4_insertInOrder_4 : decode cX4_insertInOrder 4 = .ok (.aload_n 0, 1) := by decide +kernel
theorem dX4_insertInOrder_5 : decode cX4_insertInOrder 5 = .ok (.getfield 19, 3) := by decide +kernel
theorem dX4_insertInOrder_8 : decode cX4_insertInOrder 8 = .ok (.arraylength, 1) := by decide +kernel
theorem dX4_insertInOrder_9 : decode cX4_insertInOrder 9 = .ok (.if_icmp .lt 4, 3) := by decide +kernel
theorem dX4_insertInOrder_12 : decode cX4_insertInOrder 12 = .ok (.return_, 1) := by decide +kernel
theorem dX4_insertInOrder_13 : decode cX4_insertInOrder 13 = .ok (.aload_n 0, 1) := by decide +kernel
theorem dX4_insertInOrder_14 : decode cX4_insertInOrder 14 = .ok (.dup, 1) := by decide +kernel
theorem dX4_insertInOrder_15 : decode cX4_insertInOrder 15 = .ok (.getfield 7, 3) := by decide +kernel
theorem dX4_insertInOrder_18 : decode cX4_insertInOrder 18 = .ok (.iconst 1, 1) := by decide +kernel
theorem dX4_insertInOrder_19 : decode cX4_insertInOrder 19 = .ok (.iadd, 1) := by decide +kernel
theorem dX4_insertInOrder_20 : decode cX4_insertInOrder 20 = .ok (.putfield 7, 3) := by decide +kernel
theorem dX4_insertInOrder_23 : decode cX4_insertInOrder 23 = .ok (.aload_n 0, 1) := by decide +kernel
theorem dX4_insertInOrder_24 : decode cX4_insertInOrder 24 = .ok (.getfield 7, 3) := by decide +kernel
theorem dX4_insertInOrder_27 : decode cX4_insertInOrder 27 = .ok (.iconst 1, 1) := by decide +kernel
theorem dX4_insertInOrder_28 : decode cX4_insertInOrder 28 = .ok (.isub, 1) := by decide +kernel
theorem dX4_insertInOrder_29 : decode cX4_insertInOrder 29 = .ok (.istore 4, 2) := by decide +kernel
theorem dX4_insertInOrder_31 : decode cX4_insertInOrder 31 = .ok (.iload 4, 2) := by decide +kernel
theorem dX4_insertInOrder_33 : decode cX4_insertInOrder 33 = .ok (.ifCond .le 52, 3) := by decide +kernel
theorem dX4_insertInOrder_36 : decode cX4_insertInOrder 36 = .ok (.aload_n 0, 1) := by decide +kernel
theorem dX4_insertInOrder_37 : decode cX4_insertInOrder 37 = .ok (.iload 4, 2) := by decide +kernel
theorem dX4_insertInOrder_39 : decode cX4_insertInOrder 39 = .ok (.iconst 1, 1) := by decide +kernel
theorem dX4_insertInOrder_40 : decode cX4_insertInOrder 40 = .ok (.isub, 1) := by decide +kernel
theorem dX4_insertInOrder_41 : decode cX4_insertInOrder 41 = .ok (.iload_n 1, 1) := by decide +kernel
theorem dX4_insertInOrder_42 : decode cX4_insertInOrder 42 = .ok (.iload_n 2, 1) := by decide +kernel
theorem dX4_insertInOrder_43 : decode cX4_insertInOrder 43 = .ok (.invokevirtual 40, 3) := by decide +kernel
theorem dX4_insertInOrder_46 : decode cX4_insertInOrder 46 = .ok (.ifCond .eq 39, 3) := by decide +kernel
theorem dX4_insertInOrder_49 : decode cX4_insertInOrder 49 = .ok (.aload_n 0, 1) := by decide +kernel
theorem dX4_insertInOrder_50 : decode cX4_insertInOrder 50 = .ok (.iload 4, 2) := by decide +kernel
theorem dX4_insertInOrder_52 : decode cX4_insertInOrder 52 = .ok (.aload_n 0, 1) := by decide +kernel
theorem dX4_insertInOrder_53 : decode cX4_insertInOrder 53 = .ok (.iload 4, 2) := by decide +kernel
theorem dX4_insertInOrder_55 : decode cX4_insertInOrder 55 = .ok (.iconst 1, 1) := by decide +kernel
theorem dX4_insertInOrder_56 : decode cX4_insertInOrder 56 = .ok (.isub, 1) := by decide +kernel
theorem dX4_insertInOrder_57 : decode cX4_insertInOrder 57 = .ok (.invokevirtual 29, 3) := by decide +kernel
theorem dX4_insertInOrder_60 : decode cX4_insertInOrder 60 = .ok (.aload_n 0, 1) := by decide +kernel
theorem dX4_insertInOrder_61 : decode cX4_insertInOrder 61 = .ok (.iload 4, 2) := by decide +kernel
theorem dX4_insertInOrder_63 : decode cX4_insertInOrder 63 = .ok (.iconst 1, 1) := by decide +kernel
theorem dX4_insertInOrder_64 : decode cX4_insertInOrder 64 = .ok (.isub, 1) := by decide +kernel
theorem dX4_insertInOrder_65 : decode cX4_insertInOrder 65 = .ok (.invokevirtual 33, 3) := by decide +kernel
theorem dX4_insertInOrder_68 : decode cX4_insertInOrder 68 = .ok (.aload_n 0, 1) := by decide +kernel
theorem dX4_insertInOrder_69 : decode cX4_insertInOrder 69 = .ok (.iload 4, 2) := by decide +kernel
theorem dX4_insertInOrder_71 : decode cX4_insertInOrder 71 = .ok (.iconst 1, 1) := by decide +kernel
theorem dX4_insertInOrder_72 : decode cX4_insertInOrder 72 = .ok (.isub, 1) := by decide +kernel
theorem dX4_insertInOrder_73 : decode cX4_insertInOrder 73 = .ok (.invokevirtual 44, 3) := by decide +kernel
theorem dX4_insertInOrder_76 : decode cX4_insertInOrder 76 = .ok (.invokevirtual 36, 3) := by decide +kernel
theorem dX4_insertInOrder_79 : decode cX4_insertInOrder 79 = .ok (.iinc 4 (-1), 3) := by decide +kernel
theorem dX4_insertInOrder_82 : decode cX4_insertInOrder 82 = .ok (.goto (-51), 3) := by decide +kernel
theorem dX4_insertInOrder_85 : decode cX4_insertInOrder 85 = .ok (.aload_n 0, 1) := by decide +kernel
theorem dX4_insertInOrder_86 : decode cX4_insertInOrder 86 = .ok (.iload 4, 2) := by decide +kernel
theorem dX4_insertInOrder_88 : decode cX4_insertInOrder 88 = .ok (.iload_n 1, 1) := by decide +kernel
theorem dX4_insertInOrder_89 : decode cX4_insertInOrder 89 = .ok (.iload_n 2, 1) := by decide +kernel
theorem dX4_insertInOrder_90 : decode cX4_insertInOrder 90 = .ok (.iload_n 3, 1) := by decide +kernel
theorem dX4_insertInOrder_91 : decode cX4_insertInOrder 91 = .ok (.invokevirtual 36, 3) := by decide +kernel
theorem dX4_insertInOrder_94 : decode cX4_insertInOrder 94 = .ok (.return_, 1) := by decide +kernel
theorem dX4_remove_0 : decode cX4_remove 0 = .ok (.iload_n 1, 1) := by decide +kernel
theorem dX4_remove_1 : decode cX4_remove 1 = .ok (.ifCond .lt 11, 3) := by decide +kernel
theorem dX4_remove_4 : decode cX4_remove 4 = .ok (.iload_n 1, 1) := by decide +kernel
theorem dX4_remove_5 : decode cX4_remove 5 = .ok (.aload_n 0, 1) := by decide +kernel
theorem dX4_remove_6 : decode cX4_remove 6 = .ok (.getfield 7, 3) := by decide +kernel
theorem dX4_remove_9 : decode cX4_remove 9 = .ok (.if_icmp .lt 4, 3) := by decide +kernel
theorem dX4_remove_12 : decode cX4_remove 12 = .ok (.return_, 1) := by decide +kernel
theorem dX4_remove_13 : decode cX4_remove 13 = .ok (.iload_n 1, 1) := by decide +kernel
theorem dX4_remove_14 : decode cX4_remove 14 = .ok (.istore_n 2, 1) := by decide +kernel
theorem dX4_remove_15 : decode cX4_remove 15 = .ok (.iload_n 2, 1) := by decide +kernel
theorem dX4_remove_16 : decode cX4_remove 16 = .ok (.iconst 1, 1) := by decide +kernel
theorem dX4_remove_17 : decode cX4_remove 17 = .ok (.iadd, 1) := by decide +kernel
theorem dX4_remove_18 : decode cX4_remove 18 = .ok (.aload_n 0, 1) := by decide +kernel
theorem dX4_remove_19 : decode cX4_remove 19 = .ok (.getfield 7, 3) := by decide +kernel
theorem dX4_remove_22 : decode cX4_remove 22 = .ok (.if_icmp .ge 35, 3) := by decide +kernel
theorem dX4_remove_25 : decode cX4_remove 25 = .ok (.aload_n 0, 1) := by decide +kernel
theorem dX4_remove_26 : decode cX4_remove 26 = .ok (.iload_n 2, 1) := by decide +kernel
theorem dX4_remove_27 : decode cX4_remove 27 = .ok (.aload_n 0, 1) := by decide +kernel
theorem dX4_remove_28 : decode cX4_remove 28 = .ok (.iload_n 2, 1) := by decide +kernel
theorem dX4_remove_29 : decode cX4_remove 29 = .ok (.iconst 1, 1) := by decide +kernel
theorem dX4_remove_30 : decode cX4_remove 30 = .ok (.iadd, 1) := by decide +kernel
theorem dX4_remove_31 : decode cX4_remove 31 = .ok (.invokevirtual 29, 3) := by decide +kernel
theorem dX4_remove_34 : decode cX4_remove 34 = .ok (.aload_n 0, 1) := by decide +kernel
theorem dX4_remove_35 : decode cX4_remove 35 = .ok (.iload_n 2, 1) := by decide +kernel
theorem dX4_remove_36 : decode cX4_remove 36 = .ok (.iconst 1, 1) := by decide +kernel
theorem dX4_remove_37 : decode cX4_remove 37 = .ok (.iadd, 1) := by decide +kernel
theorem dX4_remove_38 : decode cX4_remove 38 = .ok (.invokevirtual 33, 3) := by decide +kernel
theorem dX4_remove_41 : decode cX4_remove 41 = .ok (.aload_n 0, 1) := by decide +kernel
theorem dX4_remove_42 : decode cX4_remove 42 = .ok (.iload_n 2, 1) := by decide +kernel
theorem dX4_remove_43 : decode cX4_remove 43 = .ok (.iconst 1, 1) := by decide +kernel
theorem dX4_remove_44 : decode cX4_remove 44 = .ok (.iadd, 1) := by decide +kernel
theorem dX4_remove_45 : decode cX4_remove 45 = .ok (.invokevirtual 44, 3) := by decide +kernel
theorem dX4_remove_48 : decode cX4_remove 48 = .ok (.invokevirtual 36, 3) := by decide +kernel
theorem dX4_remove_51 : decode cX4_remove 51 = .ok (.iinc 2 1, 3) := by decide +kernel
theorem dX4_remove_54 : decode cX4_remove 54 = .ok (.goto (-39), 3) := by decide +kernel
theorem dX4_remove_57 : decode cX4_remove 57 = .ok (.aload_n 0, 1) := by decide +kernel
theorem dX4_remove_58 : decode cX4_remove 58 = .ok (.dup, 1) := by decide +kernel
theorem dX4_remove_59 : decode cX4_remove 59 = .ok (.getfield 7, 3) := by decide +kernel
theorem dX4_remove_62 : decode cX4_remove 62 = .ok (.iconst 1, 1) := by decide +kernel
theorem dX4_remove_63 : decode cX4_remove 63 = .ok (.isub, 1) := by decide +kernel
theorem dX4_remove_64 : decode cX4_remove 64 = .ok (.putfield 7, 3) := by decide +kernel
theorem dX4_remove_67 : decode cX4_remove 67 = .ok (.return_, 1) := by decide +kernel
theorem dX4_copyFrom_0 : decode cX4_copyFrom 0 = .ok (.aload_n 0, 1) := by decide +kernel
theorem dX4_copyFrom_1 : decode cX4_copyFrom 1 = .ok (.invokevirtual 47, 3) := by decide +kernel
theorem dX4_copyFrom_4 : decode cX4_copyFrom 4 = .ok (.iconst 0, 1) := by decide +kernel
theorem dX4_copyFrom_5 : decode cX4_copyFrom 5 = .ok (.istore_n 2, 1) := by decide +kernel
theorem dX4_copyFrom_6 : decode cX4_copyFrom 6 = .ok (.iload_n 2, 1) := by decide +kernel
theorem dX4_copyFrom_7 : decode cX4_copyFrom 7 = .ok (.aload_n 1, 1) := by decide +kernel
theorem dX4_copyFrom_8 : decode cX4_copyFrom 8 = .ok (.getfield 7, 3) := by decide +kernel
theorem dX4_copyFrom_11 : decode cX4_copyFrom 11 = .ok (.if_icmp .ge 28, 3) := by decide +kernel
theorem dX4_copyFrom_14 : decode cX4_copyFrom 14 = .ok (.aload_n 0, 1) := by decide +kernel
theorem dX4_copyFrom_15 : decode cX4_copyFrom 15 = .ok (.aload_n 1, 1) := by decide +kernel
theorem dX4_copyFrom_16 : decode cX4_copyFrom 16 = .ok (.iload_n 2, 1) := by decide +kernel
theorem dX4_copyFrom_17 : decode cX4_copyFrom 17 = .ok (.invokevirtual 29, 3) := by decide +kernel
theorem dX4_copyFrom_20 : decode cX4_copyFrom 20 = .ok (.aload_n 1, 1) := by decide +kernel
theorem dX4_copyFrom_21 : decode cX4_copyFrom 21 = .ok (.iload_n 2, 1) := by decide +kernel
theorem dX4_copyFrom_22 : decode cX4_copyFrom 22 = .ok (.invokevirtual 33, 3) := by decide +kernel
theorem dX4_copyFrom_25 : decode cX4_copyFrom 25 = .ok (.aload_n 1, 1) := by decide +kernel
theorem dX4_copyFrom_26 : decode cX4_copyFrom 26 = .ok (.iload_n 2, 1) := by decide +kernel
theorem dX4_copyFrom_27 : decode cX4_copyFrom 27 = .ok (.invokevirtual 44, 3) := by decide +kernel
theorem dX4_copyFrom_30 : decode cX4_copyFrom 30 = .ok (.invokevirtual 50, 3) := by decide +kernel
theorem dX4_copyFrom_33 : decode cX4_copyFrom 33 = .ok (.iinc 2 1, 3) := by decide +kernel
theorem dX4_copyFrom_36 : decode cX4_copyFrom 36 = .ok (.goto (-30), 3) := by decide +kernel
theorem dX4_copyFrom_39 : decode cX4_copyFrom 39 = .ok (.return_, 1) := by decide +kernel
theorem dX4_isBehind_0 : decode cX4_isBehind 0 = .ok (.aload_n 0, 1) := by decide +kernel
theorem dX4_isBehind_1 : decode cX4_isBehind 1 = .ok (.iload_n 1, 1) := by decide +kernel
theorem dX4_isBehind_2 : decode cX4_isBehind 2 = .ok (.invokevirtual 29, 3) := by decide +kernel
theorem dX4_isBehind_5 : decode cX4_isBehind 5 = .ok (.iload_n 2, 1) := by decide +kernel
theorem dX4_isBehind_6 : decode cX4_isBehind 6 = .ok (.if_icmp .gt 21, 3) := by decide +kernel
theorem dX4_isBehind_9 : decode cX4_isBehind 9 = .ok (.aload_n 0, 1) := by decide +kernel
theorem dX4_isBehind_10 : decode cX4_isBehind 10 = .ok (.iload_n 1, 1) := by decide +kernel
theorem dX4_isBehind_11 : decode cX4_isBehind 11 = .ok (.invokevirtual 29, 3) := by decide +kernel
theorem dX4_isBehind_14 : decode cX4_isBehind 14 = .ok (.iload_n 2, 1) := by decide +kernel
theorem dX4_isBehind_15 : decode cX4_isBehind 15 = .ok (.if_icmp .ne 16, 3) := by decide +kernel
theorem dX4_isBehind_18 : decode cX4_isBehind 18 = .ok (.aload_n 0, 1) := by decide +kernel
theorem dX4_isBehind_19 : decode cX4_isBehind 19 = .ok (.iload_n 1, 1) := by decide +kernel
theorem dX4_isBehind_20 : decode cX4_isBehind 20 = .ok (.invokevirtual 33, 3) := by decide +kernel
theorem dX4_isBehind_23 : decode cX4_isBehind 23 = .ok (.iload_n 3, 1) := by decide +kernel
theorem dX4_isBehind_24 : decode cX4_isBehind 24 = .ok (.if_icmp .le 7, 3) := by decide +kernel
theorem dX4_isBehind_27 : decode cX4_isBehind 27 = .ok (.iconst 1, 1) := by decide +kernel
theorem dX4_isBehind_28 : decode cX4_isBehind 28 = .ok (.goto 4, 3) := by decide +kernel
theorem dX4_isBehind_31 : decode cX4_isBehind 31 = .ok (.iconst 0, 1) := by decide +kernel
theorem dX4_isBehind_32 : decode cX4_isBehind 32 = .ok (.ireturn, 1) := by decide +kernel
theorem dX4_put_0 : decode cX4_put 0 = .ok (.iload_n 1, 1) := by decide +kernel
theorem dX4_put_1 : decode cX4_put 1 = .ok (.ifCond .lt 52, 3) := by decide +kernel
theorem dX4_put_4 : decode cX4_put 4 = .ok (.iload_n 1, 1) := by decide +kernel
theorem dX4_put_5 : decode cX4_put 5 = .ok (.aload_n 0, 1) := by decide +kernel
theorem dX4_put_6 : decode cX4_put 6 = .ok (.getfield 19, 3) := by decide +kernel
theorem dX4_put_9 : decode cX4_put 9 = .ok (.arraylength, 1) := by decide +kernel
theorem dX4_put_10 : decode cX4_put 10 = .ok (.if_icmp .ge 43, 3) := by decide +kernel
theorem dX4_put_13 : decode cX4_put 13 = .ok (.iload_n 1, 1) := by decide +kernel
theorem dX4_put_14 : decode cX4_put 14 = .ok (.aload_n 0, 1) := by decide +kernel
theorem dX4_put_15 : decode cX4_put 15 = .ok (.getfield 23, 3) := by decide +kernel
theorem dX4_put_18 : decode cX4_put 18 = .ok (.arraylength, 1) := by decide +kernel
theorem dX4_put_19 : decode cX4_put 19 = .ok (.if_icmp .ge 34, 3) := by decide +kernel
theorem dX4_put_22 : decode cX4_put 22 = .ok (.iload_n 1, 1) := by decide +kernel
theorem dX4_put_23 : decode cX4_put 23 = .ok (.aload_n 0, 1) := by decide +kernel
theorem dX4_put_24 : decode cX4_put 24 = .ok (.getfield 26, 3) := by decide +kernel
theorem dX4_put_27 : decode cX4_put 27 = .ok (.arraylength, 1) := by decide +kernel
theorem dX4_put_28 : decode cX4_put 28 = .ok (.if_icmp .ge 25, 3) := by decide +kernel
theorem dX4_put_31 : decode cX4_put 31 = .ok (.aload_n 0, 1) := by decide +kernel
theorem dX4_put_32 : decode cX4_put 32 = .ok (.getfield 19, 3) := by decide +kernel
theorem dX4_put_35 : decode cX4_put 35 = .ok (.iload_n 1, 1) := by decide +kernel
theorem dX4_put_36 : decode cX4_put 36 = .ok (.iload_n 2, 1) := by decide +kernel
theorem dX4_put_37 : decode cX4_put 37 = .ok (.iastore, 1) := by decide +kernel
theorem dX4_put_38 : decode cX4_put 38 = .ok (.aload_n 0, 1) := by decide +kernel
theorem dX4_put_39 : decode cX4_put 39 = .ok (.getfield 23, 3) := by decide +kernel
theorem dX4_put_42 : decode cX4_put 42 = .ok (.iload_n 1, 1) := by decide +kernel
theorem dX4_put_43 : decode cX4_put 43 = .ok (.iload_n 3, 1) := by decide +kernel
theorem dX4_put_44 : decode cX4_put 44 = .ok (.iastore, 1) := by decide +kernel
theorem dX4_put_45 : decode cX4_put 45 = .ok (.aload_n 0, 1) := by decide +kernel
theorem dX4_put_46 : decode cX4_put 46 = .ok (.getfield 26, 3) := by decide +kernel
theorem dX4_put_49 : decode cX4_put 49 = .ok (.iload_n 1, 1) := by decide +kernel
theorem dX4_put_50 : decode cX4_put 50 = .ok (.iload 4, 2) := by decide +kernel
theorem dX4_put_52 : decode cX4_put 52 = .ok (.iastore, 1) := by decide +kernel
theorem dX4_put_53 : decode cX4_put 53 = .ok (.return_, 1) := by decide +kernel
theorem dX5_runOf_0 : decode cX5_runOf 0 = .ok (.aload_n 0, 1) := by decide +kernel
theorem dX5_runOf_1 : decode cX5_runOf 1 = .ok (.aload_n 0, 1) := by decide +kernel
theorem dX5_runOf_2 : decode cX5_runOf 2 = .ok (.iload_n 1, 1) := by decide +kernel
theorem dX5_runOf_3 : decode cX5_runOf 3 = .ok (.invokevirtual 7, 3) := by decide +kernel
theorem dX5_runOf_6 : decode cX5_runOf 6 = .ok (.invokevirtual 13, 3) := by decide +kernel
theorem dX5_runOf_9 : decode cX5_runOf 9 = .ok (.aload_n 0, 1) := by decide +kernel
theorem dX5_runOf_10 : decode cX5_runOf 10 = .ok (.iload_n 1, 1) := by decide +kernel
theorem dX5_runOf_11 : decode cX5_runOf 11 = .ok (.invokevirtual 13, 3) := by decide +kernel
theorem dX5_runOf_14 : decode cX5_runOf 14 = .ok (.isub, 1) := by decide +kernel
theorem dX5_runOf_15 : decode cX5_runOf 15 = .ok (.ireturn, 1) := by decide +kernel
theorem dX5_riseOf_0 : decode cX5_riseOf 0 = .ok (.aload_n 0, 1) := by decide +kernel
theorem dX5_riseOf_1 : decode cX5_riseOf 1 = .ok (.aload_n 0, 1) := by decide +kernel
theorem dX5_riseOf_2 : decode cX5_riseOf 2 = .ok (.iload_n 1, 1) := by decide +kernel
theorem dX5_riseOf_3 : decode cX5_riseOf 3 = .ok (.invokevirtual 7, 3) := by decide +kernel
theorem dX5_riseOf_6 : decode cX5_riseOf 6 = .ok (.invokevirtual 16, 3) := by decide +kernel
theorem dX5_riseOf_9 : decode cX5_riseOf 9 = .ok (.aload_n 0, 1) := by decide +kernel
theorem dX5_riseOf_10 : decode cX5_riseOf 10 = .ok (.iload_n 1, 1) := by decide +kernel
theorem dX5_riseOf_11 : decode cX5_riseOf 11 = .ok (.invokevirtual 16, 3) := by decide +kernel
theorem dX5_riseOf_14 : decode cX5_riseOf 14 = .ok (.isub, 1) := by decide +kernel
theorem dX5_riseOf_15 : decode cX5_riseOf 15 = .ok (.ireturn, 1) := by decide +kernel
theorem dX5_twistOf_0 : decode cX5_twistOf 0 = .ok (.aload_n 0, 1) := by decide +kernel
theorem dX5_twistOf_1 : decode cX5_twistOf 1 = .ok (.iload_n 1, 1) := by decide +kernel
theorem dX5_twistOf_2 : decode cX5_twistOf 2 = .ok (.invokevirtual 13, 3) := by decide +kernel
theorem dX5_twistOf_5 : decode cX5_twistOf 5 = .ok (.i2l, 1) := by decide +kernel
theorem dX5_twistOf_6 : decode cX5_twistOf 6 = .ok (.aload_n 0, 1) := by decide +kernel
theorem dX5_twistOf_7 : decode cX5_twistOf 7 = .ok (.iload_n 1, 1) := by decide +kernel
theorem dX5_twistOf_8 : decode cX5_twistOf 8 = .ok (.invokevirtual 16, 3) := by decide +kernel
theorem dX5_twistOf_11 : decode cX5_twistOf 11 = .ok (.i2l, 1) := by decide +kernel
theorem dX5_twistOf_12 : decode cX5_twistOf 12 = .ok (.aload_n 0, 1) := by decide +kernel
theorem dX5_twistOf_13 : decode cX5_twistOf 13 = .ok (.iload_n 2, 1) := by decide +kernel
theorem dX5_twistOf_14 : decode cX5_twistOf 14 = .ok (.invokevirtual 13, 3) := by decide +kernel
theorem dX5_twistOf_17 : decode cX5_twistOf 17 = .ok (.i2l, 1) := by decide +kernel
theorem dX5_twistOf_18 : decode cX5_twistOf 18 = .ok (.aload_n 0, 1) := by decide +kernel
theorem dX5_twistOf_19 : decode cX5_twistOf 19 = .ok (.iload_n 2, 1) := by decide +kernel
theorem dX5_twistOf_20 : decode cX5_twistOf 20 = .ok (.invokevirtual 16, 3) := by decide +kernel
theorem dX5_twistOf_23 : decode cX5_twistOf 23 = .ok (.i2l, 1) := by decide +kernel
theorem dX5_twistOf_24 : decode cX5_twistOf 24 = .ok (.aload_n 0, 1) := by decide +kernel
theorem dX5_twistOf_25 : decode cX5_twistOf 25 = .ok (.iload_n 3, 1) := by decide +kernel
theorem dX5_twistOf_26 : decode cX5_twistOf 26 = .ok (.invokevirtual 13, 3) := by decide +kernel
theorem dX5_twistOf_29 : decode cX5_twistOf 29 = .ok (.i2l, 1) := by decide +kernel
theorem dX5_twistOf_30 : decode cX5_twistOf 30 = .ok (.aload_n 0, 1) := by decide +kernel
theorem dX5_twistOf_31 : decode cX5_twistOf 31 = .ok (.iload_n 3, 1) := by decide +kernel
theorem dX5_twistOf_32 : decode cX5_twistOf 32 = .ok (.invokevirtual 16, 3) := by decide +kernel
theorem dX5_twistOf_35 : decode cX5_twistOf 35 = .ok (.i2l, 1) := by decide +kernel
theorem dX5_twistOf_36 : decode cX5_twistOf 36 = .ok (.invokestatic 19, 3) := by decide +kernel
theorem dX5_twistOf_39 : decode cX5_twistOf 39 = .ok (.lreturn, 1) := by decide +kernel
theorem dX5_doubledArea_0 : decode cX5_doubledArea 0 = .ok (.iconst 0, 1) := by decide +kernel
theorem dX5_doubledArea_1 : decode cX5_doubledArea 1 = .ok (.istore_n 1, 1) := by decide +kernel
theorem dX5_doubledArea_2 : decode cX5_doubledArea 2 = .ok (.iconst 0, 1) := by decide +kernel
theorem dX5_doubledArea_3 : decode cX5_doubledArea 3 = .ok (.istore_n 2, 1) := by decide +kernel
theorem dX5_doubledArea_4 : decode cX5_doubledArea 4 = .ok (.iload_n 2, 1) := by decide +kernel
theorem dX5_doubledArea_5 : decode cX5_doubledArea 5 = .ok (.aload_n 0, 1) := by decide +kernel
theorem dX5_doubledArea_6 : decode cX5_doubledArea 6 = .ok (.invokevirtual 25, 3) := by decide +kernel
theorem dX5_doubledArea_9 : decode cX5_doubledArea 9 = .ok (.if_icmp .ge 41, 3) := by decide +kernel
theorem dX5_doubledArea_12 : decode cX5_doubledArea 12 = .ok (.aload_n 0, 1) := by decide +kernel
theorem dX5_doubledArea_13 : decode cX5_doubledArea 13 = .ok (.iload_n 2, 1) := by decide +kernel
theorem dX5_doubledArea_14 : decode cX5_doubledArea 14 = .ok (.invokevirtual 7, 3) := by decide +kernel
theorem dX5_doubledArea_17 : decode cX5_doubledArea 17 = .ok (.istore_n 3, 1) := by decide +kernel
theorem dX5_doubledArea_18 : decode cX5_doubledArea 18 = .ok (.iload_n 1, 1) := by decide +kernel
theorem dX5_doubledArea_19 : decode cX5_doubledArea 19 = .ok (.aload_n 0, 1) := by decide +kernel
theorem dX5_doubledArea_20 : decode cX5_doubledArea 20 = .ok (.iload_n 2, 1) := by decide +kernel
theorem dX5_doubledArea_21 : decode cX5_doubledArea 21 = .ok (.invokevirtual 13, 3) := by decide +kernel
theorem dX5_doubledArea_24 : decode cX5_doubledArea 24 = .ok (.aload_n 0, 1) := by decide +kernel
theorem dX5_doubledArea_25 : decode cX5_doubledArea 25 = .ok (.iload_n 3, 1) := by decide +kernel
theorem dX5_doubledArea_26 : decode cX5_doubledArea 26 = .ok (.invokevirtual 16, 3) := by decide +kernel
theorem dX5_doubledArea_29 : decode cX5_doubledArea 29 = .ok (.imul, 1) := by decide +kernel
theorem dX5_doubledArea_30 : decode cX5_doubledArea 30 = .ok (.aload_n 0, 1) := by decide +kernel
theorem dX5_doubledArea_31 : decode cX5_doubledArea 31 = .ok (.iload_n 2, 1) := by decide +kernel
theorem dX5_doubledArea_32 : decode cX5_doubledArea 32 = .ok (.invokevirtual 16, 3) := by decide +kernel
theorem dX5_doubledArea_35 : decode cX5_doubledArea 35 = .ok (.aload_n 0, 1) := by decide +kernel
theorem dX5_doubledArea_36 : decode cX5_doubledArea 36 = .ok (.iload_n 3, 1) := by decide +kernel
theorem dX5_doubledArea_37 : decode cX5_doubledArea 37 = .ok (.invokevirtual 13, 3) := by decide +kernel
theorem dX5_doubledArea_40 : decode cX5_doubledArea 40 = .ok (.imul, 1) := by decide +kernel
theorem dX5_doubledArea_41 : decode cX5_doubledArea 41 = .ok (.isub, 1) := by decide +kernel
theorem dX5_doubledArea_42 : decode cX5_doubledArea 42 = .ok (.iadd, 1) := by decide +kernel
theorem dX5_doubledArea_43 : decode cX5_doubledArea 43 = .ok (.istore_n 1, 1) := by decide +kernel
theorem dX5_doubledArea_44 : decode cX5_doubledArea 44 = .ok (.iinc 2 1, 3) := by decide +kernel
theorem dX5_doubledArea_47 : decode cX5_doubledArea 47 = .ok (.goto (-43), 3) := by decide +kernel
theorem dX5_doubledArea_50 : decode cX5_doubledArea 50 = .ok (.iload_n 1, 1) := by decide +kernel
theorem dX5_doubledArea_51 : decode cX5_doubledArea 51 = .ok (.ireturn, 1) := by decide +kernel
theorem dX5_stepsAlong_0 : decode cX5_stepsAlong 0 = .ok (.aload_n 0, 1) := by decide +kernel
theorem dX5_stepsAlong_1 : decode cX5_stepsAlong 1 = .ok (.iload_n 1, 1) := by decide +kernel
theorem dX5_stepsAlong_2 : decode cX5_stepsAlong 2 = .ok (.invokestatic 29, 3) := by decide +kernel
theorem dX5_stepsAlong_5 : decode cX5_stepsAlong 5 = .ok (.i2l, 1) := by decide +kernel
theorem dX5_stepsAlong_6 : decode cX5_stepsAlong 6 = .ok (.aload_n 0, 1) := by decide +kernel
theorem dX5_stepsAlong_7 : decode cX5_stepsAlong 7 = .ok (.iload_n 1, 1) := by decide +kernel
theorem dX5_stepsAlong_8 : decode cX5_stepsAlong 8 = .ok (.invokestatic 35, 3) := by decide +kernel
theorem dX5_stepsAlong_11 : decode cX5_stepsAlong 11 = .ok (.i2l, 1) := by decide +kernel
theorem dX5_stepsAlong_12 : decode cX5_stepsAlong 12 = .ok (.invokestatic 38, 3) := by decide +kernel
theorem dX5_stepsAlong_15 : decode cX5_stepsAlong 15 = .ok (.l2i, 1) := by decide +kernel
theorem dX5_stepsAlong_16 : decode cX5_stepsAlong 16 = .ok (.ireturn, 1) := by decide +kernel
theorem dX5_stepsRound_0 : decode cX5_stepsRound 0 = .ok (.iconst 0, 1) := by decide +kernel
theorem dX5_stepsRound_1 : decode cX5_stepsRound 1 = .ok (.istore_n 1, 1) := by decide +kernel
theorem dX5_stepsRound_2 : decode cX5_stepsRound 2 = .ok (.iconst 0, 1) := by decide +kernel
theorem dX5_stepsRound_3 : decode cX5_stepsRound 3 = .ok (.istore_n 2, 1) := by decide +kernel
theorem dX5_stepsRound_4 : decode cX5_stepsRound 4 = .ok (.iload_n 2, 1) := by decide +kernel
theorem dX5_stepsRound_5 : decode cX5_stepsRound 5 = .ok (.aload_n 0, 1) := by decide +kernel
theorem dX5_stepsRound_6 : decode cX5_stepsRound 6 = .ok (.invokevirtual 25, 3) := by decide +kernel
theorem dX5_stepsRound_9 : decode cX5_stepsRound 9 = .ok (.if_icmp .ge 17, 3) := by decide +kernel
theorem dX5_stepsRound_12 : decode cX5_stepsRound 12 = .ok (.iload_n 1, 1) := by decide +kernel
theorem dX5_stepsRound_13 : decode cX5_stepsRound 13 = .ok (.aload_n 0, 1) := by decide +kernel
theorem dX5_stepsRound_14 : decode cX5_stepsRound 14 = .ok (.iload_n 2, 1) := by decide +kernel
theorem dX5_stepsRound_15 : decode cX5_stepsRound 15 = .ok (.invokestatic 42, 3) := by decide +kernel
theorem dX5_stepsRound_18 : decode cX5_stepsRound 18 = .ok (.iadd, 1) := by decide +kernel
theorem dX5_stepsRound_19 : decode cX5_stepsRound 19 = .ok (.istore_n 1, 1) := by decide +kernel
theorem dX5_stepsRound_20 : decode cX5_stepsRound 20 = .ok (.iinc 2 1, 3) := by decide +kernel
theorem dX5_stepsRound_23 : decode cX5_stepsRound 23 = .ok (.goto (-19), 3) := by decide +kernel
theorem dX5_stepsRound_26 : decode cX5_stepsRound 26 = .ok (.iload_n 1, 1) := by decide +kernel
theorem dX5_stepsRound_27 : decode cX5_stepsRound 27 = .ok (.ireturn, 1) := by decide +kernel
theorem dX5_placesInside_0 : decode cX5_placesInside 0 = .ok (.aload_n 0, 1) := by decide +kernel
theorem dX5_placesInside_1 : decode cX5_placesInside 1 = .ok (.invokevirtual 25, 3) := by decide +kernel
theorem dX5_placesInside_4 : decode cX5_placesInside 4 = .ok (.iconst 3, 1) := by decide +kernel
theorem dX5_placesInside_5 : decode cX5_placesInside 5 = .ok (.if_icmp .ge 5, 3) := by decide +kernel
theorem dX5_placesInside_8 : decode cX5_placesInside 8 = .ok (.iconst 0, 1) := by decide +kernel
theorem dX5_placesInside_9 : decode cX5_placesInside 9 = .ok (.ireturn, 1) := by decide +kernel
theorem dX5_placesInside_10 : decode cX5_placesInside 10 = .ok (.aload_n 0, 1) := by decide +kernel
theorem dX5_placesInside_11 : decode cX5_placesInside 11 = .ok (.invokestatic 45, 3) := by decide +kernel
theorem dX5_placesInside_14 : decode cX5_placesInside 14 = .ok (.invokestatic 49, 3) := by decide +kernel
theorem dX5_placesInside_17 : decode cX5_placesInside 17 = .ok (.aload_n 0, 1) := by decide +kernel
theorem dX5_placesInside_18 : decode cX5_placesInside 18 = .ok (.invokestatic 54, 3) := by decide +kernel
theorem dX5_placesInside_21 : decode cX5_placesInside 21 = .ok (.isub, 1) := by decide +kernel
theorem dX5_placesInside_22 : decode cX5_placesInside 22 = .ok (.iconst 2, 1) := by decide +kernel
theorem dX5_placesInside_23 : decode cX5_placesInside 23 = .ok (.iadd, 1) := by decide +kernel
theorem dX5_placesInside_24 : decode cX5_placesInside 24 = .ok (.iconst 2, 1) := by decide +kernel
theorem dX5_placesInside_25 : decode cX5_placesInside 25 = .ok (.idiv, 1) := by decide +kernel
theorem dX5_placesInside_26 : decode cX5_placesInside 26 = .ok (.ireturn, 1) := by decide +kernel
theorem dX5_whereIs_0 : decode cX5_whereIs 0 = .ok (.iconst 0, 1) := by decide +kernel
theorem dX5_whereIs_1 : decode cX5_whereIs 1 = .ok (.istore 6, 2) := by decide +kernel
theorem dX5_whereIs_3 : decode cX5_whereIs 3 = .ok (.iconst 0, 1) := by decide +kernel
theorem dX5_whereIs_4 : decode cX5_whereIs 4 = .ok (.istore 7, 2) := by decide +kernel
theorem dX5_whereIs_6 : decode cX5_whereIs 6 = .ok (.iload 7, 2) := by decide +kernel
theorem dX5_whereIs_8 : decode cX5_whereIs 8 = .ok (.aload_n 0, 1) := by decide +kernel
theorem dX5_whereIs_9 : decode cX5_whereIs 9 = .ok (.invokevirtual 25, 3) := by decide +kernel
theorem dX5_whereIs_12 : decode cX5_whereIs 12 = .ok (.if_icmp .ge 169, 3) := by decide +kernel
theorem dX5_whereIs_15 : decode cX5_whereIs 15 = .ok (.aload_n 0, 1) := by decide +kernel
theorem dX5_whereIs_16 : decode cX5_whereIs 16 = .ok (.iload 7, 2) := by decide +kernel
theorem dX5_whereIs_18 : decode cX5_whereIs 18 = .ok (.invokevirtual 7, 3) := by decide +kernel
theorem dX5_whereIs_21 : decode cX5_whereIs 21 = .ok (.istore 8, 2) := by decide +kernel
theorem dX5_whereIs_23 : decode cX5_whereIs 23 = .ok (.iload_n 1, 1) := by decide +kernel
theorem dX5_whereIs_24 : decode cX5_whereIs 24 = .ok (.i2l, 1) := by decide +kernel
theorem dX5_whereIs_25 : decode cX5_whereIs 25 = .ok (.aload_n 0, 1) := by decide +kernel
theorem dX5_whereIs_26 : decode cX5_whereIs 26 = .ok (.iload 7, 2) := by decide +kernel
theorem dX5_whereIs_28 : decode cX5_whereIs 28 = .ok (.invokevirtual 13, 3) := by decide +kernel
theorem dX5_whereIs_31 : decode cX5_whereIs 31 = .ok (.i2l, 1) := by decide +kernel
theorem dX5_whereIs_32 : decode cX5_whereIs 32 = .ok (.lmul, 1) := by decide +kernel
theorem dX5_whereIs_33 : decode cX5_whereIs 33 = .ok (.lstore 9, 2) := by decide +kernel
theorem dX5_whereIs_35 : decode cX5_whereIs 35 = .ok (.iload_n 1, 1) := by decide +kernel
theorem dX5_whereIs_36 : decode cX5_whereIs 36 = .ok (.i2l, 1) := by decide +kernel
theorem dX5_whereIs_37 : decode cX5_whereIs 37 = .ok (.aload_n 0, 1) := by decide +kernel
theorem dX5_whereIs_38 : decode cX5_whereIs 38 = .ok (.iload 7, 2) := by decide +kernel
theorem dX5_whereIs_40 : decode cX5_whereIs 40 = .ok (.invokevirtual 16, 3) := by decide +kernel
theorem dX5_whereIs_43 : decode cX5_whereIs 43 = .ok (.i2l, 1) := by decide +kernel
theorem dX5_whereIs_44 : decode cX5_whereIs 44 = .ok (.lmul, 1) := by decide +kernel
theorem dX5_whereIs_45 : decode cX5_whereIs 45 = .ok (.lstore 11, 2) := by decide +kernel
theorem dX5_whereIs_47 : decode cX5_whereIs 47 = .ok (.iload_n 1, 1) := by decide +kernel
theorem dX5_whereIs_48 : decode cX5_whereIs 48 = .ok (.i2l, 1) := by decide +kernel
theorem dX5_whereIs_49 : decode cX5_whereIs 49 = .ok (.aload_n 0, 1) := by decide +kernel
theorem dX5_whereIs_50 : decode cX5_whereIs 50 = .ok (.iload 8, 2) := by decide +kernel
theorem dX5_whereIs_52 : decode cX5_whereIs 52 = .ok (.invokevirtual 13, 3) := by decide +kernel
theorem dX5_whereIs_55 : decode cX5_whereIs 55 = .ok (.i2l, 1) := by decide +kernel
theorem dX5_whereIs_56 : decode cX5_whereIs 56 = .ok (.lmul, 1) := by decide +kernel
theorem dX5_whereIs_57 : decode cX5_whereIs 57 = .ok (.lstore 13, 2) := by decide +kernel
theorem dX5_whereIs_59 : decode cX5_whereIs 59 = .ok (.iload_n 1, 1) := by decide +kernel
theorem dX5_whereIs_60 : decode cX5_whereIs 60 = .ok (.i2l, 1) := by decide +kernel
theorem dX5_whereIs_61 : decode cX5_whereIs 61 = .ok (.aload_n 0, 1) := by decide +kernel
theorem dX5_whereIs_62 : decode cX5_whereIs 62 = .ok (.iload 8, 2) := by decide +kernel
theorem dX5_whereIs_64 : decode cX5_whereIs 64 = .ok (.invokevirtual 16, 3) := by decide +kernel
theorem dX5_whereIs_67 : decode cX5_whereIs 67 = .ok (.i2l, 1) := by decide +kernel
theorem dX5_whereIs_68 : decode cX5_whereIs 68 = .ok (.lmul, 1) := by decide +kernel
theorem dX5_whereIs_69 : decode cX5_whereIs 69 = .ok (.lstore 15, 2) := by decide +kernel
theorem dX5_whereIs_71 : decode cX5_whereIs 71 = .ok (.lload 9, 2) := by decide +kernel
theorem dX5_whereIs_73 : decode cX5_whereIs 73 = .ok (.lload 11, 2) := by decide +kernel
theorem dX5_whereIs_75 : decode cX5_whereIs 75 = .ok (.lload 13, 2) := by decide +kernel
theorem dX5_whereIs_77 : decode cX5_whereIs 77 = .ok (.lload 15, 2) := by decide +kernel
theorem dX5_whereIs_79 : decode cX5_whereIs 79 = .ok (.lload_n 2, 1) := by decide +kernel
theorem dX5_whereIs_80 : decode cX5_whereIs 80 = .ok (.lload 4, 2) := by decide +kernel
theorem dX5_whereIs_82 : decode cX5_whereIs 82 = .ok (.invokestatic 57, 3) := by decide +kernel
theorem dX5_whereIs_85 : decode cX5_whereIs 85 = .ok (.ifCond .eq 5, 3) := by decide +kernel
theorem dX5_whereIs_88 : decode cX5_whereIs 88 = .ok (.iconst 0, 1) := by decide +kernel
theorem dX5_whereIs_89 : decode cX5_whereIs 89 = .ok (.ireturn, 1) := by decide +kernel
theorem dX5_whereIs_90 : decode cX5_whereIs 90 = .ok (.lload 11, 2) := by decide +kernel
theorem dX5_whereIs_92 : decode cX5_whereIs 92 = .ok (.lload 4, 2) := by decide +kernel
theorem dX5_whereIs_94 : decode cX5_whereIs 94 = .ok (.lcmp, 1) := by decide +kernel
theorem dX5_whereIs_95 : decode cX5_whereIs 95 = .ok (.ifCond .le 7, 3) := by decide +kernel
theorem dX5_whereIs_98 : decode cX5_whereIs 98 = .ok (.iconst 1, 1) := by decide +kernel
theorem dX5_whereIs_99 : decode cX5_whereIs 99 = .ok (.goto 4, 3) := by decide +kernel
theorem dX5_whereIs_102 : decode cX5_whereIs 102 = .ok (.iconst 0, 1) := by decide +kernel
theorem dX5_whereIs_103 : decode cX5_whereIs 103 = .ok (.lload 15, 2) := by decide +kernel
theorem dX5_whereIs_105 : decode cX5_whereIs 105 = .ok (.lload 4, 2) := by decide +kernel
theorem dX5_whereIs_107 : decode cX5_whereIs 107 = .ok (.lcmp, 1) := by decide +kernel
theorem dX5_whereIs_108 : decode cX5_whereIs 108 = .ok (.ifCond .le 7, 3) := by decide +kernel
theorem dX5_whereIs_111 : decode cX5_whereIs 111 = .ok (.iconst 1, 1) := by decide +kernel
theorem dX5_whereIs_112 : decode cX5_whereIs 112 = .ok (.goto 4, 3) := by decide +kernel
theorem dX5_whereIs_115 : decode cX5_whereIs 115 = .ok (.iconst 0, 1) := by decide +kernel
theorem dX5_whereIs_116 : decode cX5_whereIs 116 = .ok (.if_icmp .eq 59, 3) := by decide +kernel
theorem dX5_whereIs_119 : decode cX5_whereIs 119 = .ok (.lload 9, 2) := by decide +kernel
theorem dX5_whereIs_121 : decode cX5_whereIs 121 = .ok (.lload 11, 2) := by decide +kernel
theorem dX5_whereIs_123 : decode cX5_whereIs 123 = .ok (.lload 13, 2) := by decide +kernel
theorem dX5_whereIs_125 : decode cX5_whereIs 125 = .ok (.lload 15, 2) := by decide +kernel
theorem dX5_whereIs_127 : decode cX5_whereIs 127 = .ok (.lload_n 2, 1) := by decide +kernel
theorem dX5_whereIs_128 : decode cX5_whereIs 128 = .ok (.lload 4, 2) := by decide +kernel
theorem dX5_whereIs_130 : decode cX5_whereIs 130 = .ok (.invokestatic 19, 3) := by decide +kernel
theorem dX5_whereIs_133 : decode cX5_whereIs 133 = .ok (.lconst 0, 1) := by decide +kernel
theorem dX5_whereIs_134 : decode cX5_whereIs 134 = .ok (.lcmp, 1) := by decide +kernel
theorem dX5_whereIs_135 : decode cX5_whereIs 135 = .ok (.ifCond .le 7, 3) := by decide +kernel
theorem dX5_whereIs_138 : decode cX5_whereIs 138 = .ok (.iconst 1, 1) := by decide +kernel
theorem dX5_whereIs_139 : decode cX5_whereIs 139 = .ok (.goto 4, 3) := by decide +kernel
theorem dX5_whereIs_142 : decode cX5_whereIs 142 = .ok (.iconst 0, 1) := by decide +kernel
theorem dX5_whereIs_143 : decode cX5_whereIs 143 = .ok (.istore 17, 2) := by decide +kernel
theorem dX5_whereIs_145 : decode cX5_whereIs 145 = .ok (.iload 17, 2) := by decide +kernel
theorem dX5_whereIs_147 : decode cX5_whereIs 147 = .ok (.lload 15, 2) := by decide +kernel
theorem dX5_whereIs_149 : decode cX5_whereIs 149 = .ok (.lload 11, 2) := by decide +kernel
theorem dX5_whereIs_151 : decode cX5_whereIs 151 = .ok (.lcmp, 1) := by decide +kernel
theorem dX5_whereIs_152 : decode cX5_whereIs 152 = .ok (.ifCond .le 7, 3) := by decide +kernel
theorem dX5_whereIs_155 : decode cX5_whereIs 155 = .ok (.iconst 1, 1) := by decide +kernel
theorem dX5_whereIs_156 : decode cX5_whereIs 156 = .ok (.goto 4, 3) := by decide +kernel
theorem dX5_whereIs_159 : decode cX5_whereIs 159 = .ok (.iconst 0, 1) := by decide +kernel
theorem dX5_whereIs_160 : decode cX5_whereIs 160 = .ok (.if_icmp .ne 15, 3) := by decide +kernel
theorem dX5_whereIs_163 : decode cX5_whereIs 163 = .ok (.iload 6, 2) := by decide +kernel
theorem dX5_whereIs_165 : decode cX5_whereIs 165 = .ok (.ifCond .ne 7, 3) := by decide +kernel
theorem dX5_whereIs_168 : decode cX5_whereIs 168 = .ok (.iconst 1, 1) := by decide +kernel
theorem dX5_whereIs_169 : decode cX5_whereIs 169 = .ok (.goto 4, 3) := by decide +kernel
theorem dX5_whereIs_172 : decode cX5_whereIs 172 = .ok (.iconst 0, 1) := by decide +kernel
theorem dX5_whereIs_173 : decode cX5_whereIs 173 = .ok (.istore 6, 2) := by decide +kernel
theorem dX5_whereIs_175 : decode cX5_whereIs 175 = .ok (.iinc 7 1, 3) := by decide +kernel
theorem dX5_whereIs_178 : decode cX5_whereIs 178 = .ok (.goto (-172), 3) := by decide +kernel
theorem dX5_whereIs_181 : decode cX5_whereIs 181 = .ok (.iload 6, 2) := by decide +kernel
theorem dX5_whereIs_183 : decode cX5_whereIs 183 = .ok (.ifCond .eq 7, 3) := by decide +kernel
theorem dX5_whereIs_186 : decode cX5_whereIs 186 = .ok (.iconst 1, 1) := by decide +kernel
theorem dX5_whereIs_187 : decode cX5_whereIs 187 = .ok (.goto 4, 3) := by decide +kernel
theorem dX5_whereIs_190 : decode cX5_whereIs 190 = .ok (.iconst (-1), 1) := by decide +kernel
theorem dX5_whereIs_191 : decode cX5_whereIs 191 = .ok (.ireturn, 1) := by decide +kernel
theorem dX5_bound_0 : decode cX5_bound 0 = .ok (.iconst 0, 1) := by decide +kernel
theorem dX5_bound_1 : decode cX5_bound 1 = .ok (.istore_n 2, 1) := by decide +kernel
theorem dX5_bound_2 : decode cX5_bound 2 = .ok (.iconst 0, 1) := by decide +kernel
theorem dX5_bound_3 : decode cX5_bound 3 = .ok (.istore_n 3, 1) := by decide +kernel
theorem dX5_bound_4 : decode cX5_bound 4 = .ok (.iload_n 3, 1) := by decide +kernel
theorem dX5_bound_5 : decode cX5_bound 5 = .ok (.aload_n 0, 1) := by decide +kernel
theorem dX5_bound_6 : decode cX5_bound 6 = .ok (.invokevirtual 25, 3) := by decide +kernel
theorem dX5_bound_9 : decode cX5_bound 9 = .ok (.if_icmp .ge 74, 3) := by decide +kernel
theorem dX5_bound_12 : decode cX5_bound 12 = .ok (.iload_n 1, 1) := by decide +kernel
theorem dX5_bound_13 : decode cX5_bound 13 = .ok (.iconst 2, 1) := by decide +kernel
theorem dX5_bound_14 : decode cX5_bound 14 = .ok (.if_icmp .ge 11, 3) := by decide +kernel
theorem dX5_bound_17 : decode cX5_bound 17 = .ok (.aload_n 0, 1) := by decide +kernel
theorem dX5_bound_18 : decode cX5_bound 18 = .ok (.iload_n 3, 1) := by decide +kernel
theorem dX5_bound_19 : decode cX5_bound 19 = .ok (.invokevirtual 13, 3) := by decide +kernel
theorem dX5_bound_22 : decode cX5_bound 22 = .ok (.goto 8, 3) := by decide +kernel
theorem dX5_bound_25 : decode cX5_bound 25 = .ok (.aload_n 0, 1) := by decide +kernel
theorem dX5_bound_26 : decode cX5_bound 26 = .ok (.iload_n 3, 1) := by decide +kernel
theorem dX5_bound_27 : decode cX5_bound 27 = .ok (.invokevirtual 16, 3) := by decide +kernel
theorem dX5_bound_30 : decode cX5_bound 30 = .ok (.istore 4, 2) := by decide +kernel
theorem dX5_bound_32 : decode cX5_bound 32 = .ok (.iload_n 1, 1) := by decide +kernel
theorem dX5_bound_33 : decode cX5_bound 33 = .ok (.iconst 2, 1) := by decide +kernel
theorem dX5_bound_34 : decode cX5_bound 34 = .ok (.irem, 1) := by decide +kernel
theorem dX5_bound_35 : decode cX5_bound 35 = .ok (.ifCond .ne 17, 3) := by decide +kernel
theorem dX5_bound_38 : decode cX5_bound 38 = .ok (.iload 4, 2) := by decide +kernel
theorem dX5_bound_40 : decode cX5_bound 40 = .ok (.iload_n 2, 1) := by decide +kernel
theorem dX5_bound_41 : decode cX5_bound 41 = .ok (.if_icmp .ge 7, 3) := by decide +kernel
theorem dX5_bound_44 : decode cX5_bound 44 = .ok (.iconst 1, 1) := by decide +kernel
theorem dX5_bound_45 : decode cX5_bound 45 = .ok (.goto 18, 3) := by decide +kernel
theorem dX5_bound_48 : decode cX5_bound 48 = .ok (.iconst 0, 1) := by decide +kernel
theorem dX5_bound_49 : decode cX5_bound 49 = .ok (.goto 14, 3) := by decide +kernel
theorem dX5_bound_52 : decode cX5_bound 52 = .ok (.iload 4, 2) := by decide +kernel
theorem dX5_bound_54 : decode cX5_bound 54 = .ok (.iload_n 2, 1) := by decide +kernel
theorem dX5_bound_55 : decode cX5_bound 55 = .ok (.if_icmp .le 7, 3) := by decide +kernel
theorem dX5_bound_58 : decode cX5_bound 58 = .ok (.iconst 1, 1) := by decide +kernel
theorem dX5_bound_59 : decode cX5_bound 59 = .ok (.goto 4, 3) := by decide +kernel
theorem dX5_bound_62 : decode cX5_bound 62 = .ok (.iconst 0, 1) := by decide +kernel
theorem dX5_bound_63 : decode cX5_bound 63 = .ok (.istore 5, 2) := by decide +kernel
theorem dX5_bound_65 : decode cX5_bound 65 = .ok (.iload_n 3, 1) := by decide +kernel
theorem dX5_bound_66 : decode cX5_bound 66 = .ok (.ifCond .eq 8, 3) := by decide +kernel
theorem dX5_bound_69 : decode cX5_bound 69 = .ok (.iload 5, 2) := by decide +kernel
theorem dX5_bound_71 : decode cX5_bound 71 = .ok (.ifCond .eq 6, 3) := by decide +kernel
theorem dX5_bound_74 : decode cX5_bound 74 = .ok (.iload 4, 2) := by decide +kernel
theorem dX5_bound_76 : decode cX5_bound 76 = .ok (.istore_n 2, 1) := by decide +kernel
theorem dX5_bound_77 : decode cX5_bound 77 = .ok (.iinc 3 1, 3) := by decide +kernel
theorem dX5_bound_80 : decode cX5_bound 80 = .ok (.goto (-76), 3) := by decide +kernel
theorem dX5_bound_83 : decode cX5_bound 83 = .ok (.iload_n 2, 1) := by decide +kernel
theorem dX5_bound_84 : decode cX5_bound 84 = .ok (.ireturn, 1) := by decide +kernel
theorem dX5_squaredWidth_0 : decode cX5_squaredWidth 0 = .ok (.lconst 0, 1) := by decide +kernel
theorem dX5_squaredWidth_1 : decode cX5_squaredWidth 1 = .ok (.lstore_n 2, 1) := by decide +kernel
theorem dX5_squaredWidth_2 : decode cX5_squaredWidth 2 = .ok (.lconst 0, 1) := by decide +kernel
theorem dX5_squaredWidth_3 : decode cX5_squaredWidth 3 = .ok (.lstore 4, 2) := by decide +kernel
theorem dX5_squaredWidth_5 : decode cX5_squaredWidth 5 = .ok (.iconst 0, 1) := by decide +kernel
theorem dX5_squaredWidth_6 : decode cX5_squaredWidth 6 = .ok (.istore 6, 2) := by decide +kernel
theorem dX5_squaredWidth_8 : decode cX5_squaredWidth 8 = .ok (.iload 6, 2) := by decide +kernel
theorem dX5_squaredWidth_10 : decode cX5_squaredWidth 10 = .ok (.aload_n 0, 1) := by decide +kernel
theorem dX5_squaredWidth_11 : decode cX5_squaredWidth 11 = .ok (.invokevirtual 25, 3) := by decide +kernel
theorem dX5_squaredWidth_14 : decode cX5_squaredWidth 14 = .ok (.if_icmp .ge 79, 3) := by decide +kernel
theorem dX5_squaredWidth_17 : decode cX5_squaredWidth 17 = .ok (.aload_n 0, 1) := by decide +kernel
theorem dX5_squaredWidth_18 : decode cX5_squaredWidth 18 = .ok (.iload 6, 2) := by decide +kernel
theorem dX5_squaredWidth_20 : decode cX5_squaredWidth 20 = .ok (.invokestatic 29, 3) := by decide +kernel
theorem dX5_squaredWidth_23 : decode cX5_squaredWidth 23 = .ok (.i2l, 1) := by decide +kernel
theorem dX5_squaredWidth_24 : decode cX5_squaredWidth 24 = .ok (.lstore 7, 2) := by decide +kernel
theorem dX5_squaredWidth_26 : decode cX5_squaredWidth 26 = .ok (.aload_n 0, 1) := by decide +kernel
theorem dX5_squaredWidth_27 : decode cX5_squaredWidth 27 = .ok (.iload 6, 2) := by decide +kernel
theorem dX5_squaredWidth_29 : decode cX5_squaredWidth 29 = .ok (.invokestatic 35, 3) := by decide +kernel
theorem dX5_squaredWidth_32 : decode cX5_squaredWidth 32 = .ok (.i2l, 1) := by decide +kernel
theorem dX5_squaredWidth_33 : decode cX5_squaredWidth 33 = .ok (.lstore 9, 2) := by decide +kernel
theorem dX5_squaredWidth_35 : decode cX5_squaredWidth 35 = .ok (.lload 7, 2) := by decide +kernel
theorem dX5_squaredWidth_37 : decode cX5_squaredWidth 37 = .ok (.lload 7, 2) := by decide +kernel
theorem dX5_squaredWidth_39 : decode cX5_squaredWidth 39 = .ok (.lmul, 1) := by decide +kernel
theorem dX5_squaredWidth_40 : decode cX5_squaredWidth 40 = .ok (.lload 9, 2) := by decide +kernel
theorem dX5_squaredWidth_42 : decode cX5_squaredWidth 42 = .ok (.lload 9, 2) := by decide +kernel
theorem dX5_squaredWidth_44 : decode cX5_squaredWidth 44 = .ok (.lmul, 1) := by decide +kernel
theorem dX5_squaredWidth_45 : decode cX5_squaredWidth 45 = .ok (.ladd, 1) := by decide +kernel
theorem dX5_squaredWidth_46 : decode cX5_squaredWidth 46 = .ok (.lstore 11, 2) := by decide +kernel
theorem dX5_squaredWidth_48 : decode cX5_squaredWidth 48 = .ok (.aload_n 0, 1) := by decide +kernel
theorem dX5_squaredWidth_49 : decode cX5_squaredWidth 49 = .ok (.iload 6, 2) := by decide +kernel
theorem dX5_squaredWidth_51 : decode cX5_squaredWidth 51 = .ok (.invokestatic 61, 3) := by decide +kernel
theorem dX5_squaredWidth_54 : decode cX5_squaredWidth 54 = .ok (.lstore 13, 2) := by decide +kernel
theorem dX5_squaredWidth_56 : decode cX5_squaredWidth 56 = .ok (.iload 6, 2) := by decide +kernel
theorem dX5_squaredWidth_58 : decode cX5_squaredWidth 58 = .ok (.ifCond .eq 19, 3) := by decide +kernel
theorem dX5_squaredWidth_61 : decode cX5_squaredWidth 61 = .ok (.lload 13, 2) := by decide +kernel
theorem dX5_squaredWidth_63 : decode cX5_squaredWidth 63 = .ok (.lload 13, 2) := by decide +kernel
theorem dX5_squaredWidth_65 : decode cX5_squaredWidth 65 = .ok (.lmul, 1) := by decide +kernel
theorem dX5_squaredWidth_66 : decode cX5_squaredWidth 66 = .ok (.lload 4, 2) := by decide +kernel
theorem dX5_squaredWidth_68 : decode cX5_squaredWidth 68 = .ok (.lmul, 1) := by decide +kernel
theorem dX5_squaredWidth_69 : decode cX5_squaredWidth 69 = .ok (.lload_n 2, 1) := by decide +kernel
theorem dX5_squaredWidth_70 : decode cX5_squaredWidth 70 = .ok (.lload 11, 2) := by decide +kernel
theorem dX5_squaredWidth_72 : decode cX5_squaredWidth 72 = .ok (.lmul, 1) := by decide +kernel
theorem dX5_squaredWidth_73 : decode cX5_squaredWidth 73 = .ok (.lcmp, 1) := by decide +kernel
theorem dX5_squaredWidth_74 : decode cX5_squaredWidth 74 = .ok (.ifCond .ge 13, 3) := by decide +kernel
theorem dX5_squaredWidth_77 : decode cX5_squaredWidth 77 = .ok (.lload 13, 2) := by decide +kernel
theorem dX5_squaredWidth_79 : decode cX5_squaredWidth 79 = .ok (.lload 13, 2) := by decide +kernel
theorem dX5_squaredWidth_81 : decode cX5_squaredWidth 81 = .ok (.lmul, 1) := by decide +kernel
theorem dX5_squaredWidth_82 : decode cX5_squaredWidth 82 = .ok (.lstore_n 2, 1) := by decide +kernel
theorem dX5_squaredWidth_83 : decode cX5_squaredWidth 83 = .ok (.lload 11, 2) := by decide +kernel
theorem dX5_squaredWidth_85 : decode cX5_squaredWidth 85 = .ok (.lstore 4, 2) := by decide +kernel
theorem dX5_squaredWidth_87 : decode cX5_squaredWidth 87 = .ok (.iinc 6 1, 3) := by decide +kernel
theorem dX5_squaredWidth_90 : decode cX5_squaredWidth 90 = .ok (.goto (-82), 3) := by decide +kernel
theorem dX5_squaredWidth_93 : decode cX5_squaredWidth 93 = .ok (.lload_n 2, 1) := by decide +kernel
theorem dX5_squaredWidth_94 : decode cX5_squaredWidth 94 = .ok (.lload 4, 2) := by decide +kernel
theorem dX5_squaredWidth_96 : decode cX5_squaredWidth 96 = .ok (.invokestatic 38, 3) := by decide +kernel
theorem dX5_squaredWidth_99 : decode cX5_squaredWidth 99 = .ok (.lstore 6, 2) := by decide +kernel
theorem dX5_squaredWidth_101 : decode cX5_squaredWidth 101 = .ok (.lload 6, 2) := by decide +kernel
theorem dX5_squaredWidth_103 : decode cX5_squaredWidth 103 = .ok (.lconst 0, 1) := by decide +kernel
theorem dX5_squaredWidth_104 : decode cX5_squaredWidth 104 = .ok (.lcmp, 1) := by decide +kernel
theorem dX5_squaredWidth_105 : decode cX5_squaredWidth 105 = .ok (.ifCond .ne 5, 3) := by decide +kernel
theorem dX5_squaredWidth_108 : decode cX5_squaredWidth 108 = .ok (.lconst 0, 1) := by decide +kernel
theorem dX5_squaredWidth_109 : decode cX5_squaredWidth 109 = .ok (.lreturn, 1) := by decide +kernel
theorem dX5_squaredWidth_110 : decode cX5_squaredWidth 110 = .ok (.iload_n 1, 1) := by decide +kernel
theorem dX5_squaredWidth_111 : decode cX5_squaredWidth 111 = .ok (.ifCond .eq 11, 3) := by decide +kernel
theorem dX5_squaredWidth_114 : decode cX5_squaredWidth 114 = .ok (.lload 4, 2) := by decide +kernel
theorem dX5_squaredWidth_116 : decode cX5_squaredWidth 116 = .ok (.lload 6, 2) := by decide +kernel
theorem dX5_squaredWidth_118 : decode cX5_squaredWidth 118 = .ok (.ldiv, 1) := by decide +kernel
theorem dX5_squaredWidth_119 : decode cX5_squaredWidth 119 = .ok (.goto 7, 3) := by decide +kernel
theorem dX5_squaredWidth_122 : decode cX5_squaredWidth 122 = .ok (.lload_n 2, 1) := by decide +kernel
theorem dX5_squaredWidth_123 : decode cX5_squaredWidth 123 = .ok (.lload 6, 2) := by decide +kernel
theorem dX5_squaredWidth_125 : decode cX5_squaredWidth 125 = .ok (.ldiv, 1) := by decide +kernel
theorem dX5_squaredWidth_126 : decode cX5_squaredWidth 126 = .ok (.lreturn, 1) := by decide +kernel
theorem dX5_reachFrom_0 : decode cX5_reachFrom 0 = .ok (.lconst 0, 1) := by decide +kernel
theorem dX5_reachFrom_1 : decode cX5_reachFrom 1 = .ok (.lstore_n 2, 1) := by decide +kernel
theorem dX5_reachFrom_2 : decode cX5_reachFrom 2 = .ok (.iconst 0, 1) := by decide +kernel
theorem dX5_reachFrom_3 : decode cX5_reachFrom 3 = .ok (.istore 4, 2) := by decide +kernel
theorem dX5_reachFrom_5 : decode cX5_reachFrom 5 = .ok (.iload 4, 2) := by decide +kernel
theorem dX5_reachFrom_7 : decode cX5_reachFrom 7 = .ok (.aload_n 0, 1) := by decide +kernel
theorem dX5_reachFrom_8 : decode cX5_reachFrom 8 = .ok (.invokevirtual 25, 3) := by decide +kernel
theorem dX5_reachFrom_11 : decode cX5_reachFrom 11 = .ok (.if_icmp .ge 26, 3) := by decide +kernel
theorem dX5_reachFrom_14 : decode cX5_reachFrom 14 = .ok (.lload_n 2, 1) := by decide +kernel
theorem dX5_reachFrom_15 : decode cX5_reachFrom 15 = .ok (.aload_n 0, 1) := by decide +kernel
theorem dX5_reachFrom_16 : decode cX5_reachFrom 16 = .ok (.iload_n 1, 1) := by decide +kernel
theorem dX5_reachFrom_17 : decode cX5_reachFrom 17 = .ok (.aload_n 0, 1) := by decide +kernel
theorem dX5_reachFrom_18 : decode cX5_reachFrom 18 = .ok (.iload_n 1, 1) := by decide +kernel
theorem dX5_reachFrom_19 : decode cX5_reachFrom 19 = .ok (.invokevirtual 7, 3) := by decide +kernel
theorem dX5_reachFrom_22 : decode cX5_reachFrom 22 = .ok (.iload 4, 2) := by decide +kernel
theorem dX5_reachFrom_24 : decode cX5_reachFrom 24 = .ok (.invokestatic 65, 3) := by decide +kernel
theorem dX5_reachFrom_27 : decode cX5_reachFrom 27 = .ok (.invokestatic 69, 3) := by decide +kernel
theorem dX5_reachFrom_30 : decode cX5_reachFrom 30 = .ok (.lstore_n 2, 1) := by decide +kernel
theorem dX5_reachFrom_31 : decode cX5_reachFrom 31 = .ok (.iinc 4 1, 3) := by decide +kernel
theorem dX5_reachFrom_34 : decode cX5_reachFrom 34 = .ok (.goto (-29), 3) := by decide +kernel
theorem dX5_reachFrom_37 : decode cX5_reachFrom 37 = .ok (.lload_n 2, 1) := by decide +kernel
theorem dX5_reachFrom_38 : decode cX5_reachFrom 38 = .ok (.lreturn, 1) := by decide +kernel
theorem dX5_closesSimply_0 : decode cX5_closesSimply 0 = .ok (.aload_n 0, 1) := by decide +kernel
theorem dX5_closesSimply_1 : decode cX5_closesSimply 1 = .ok (.invokevirtual 25, 3) := by decide +kernel
theorem dX5_closesSimply_4 : decode cX5_closesSimply 4 = .ok (.iconst 3, 1) := by decide +kernel
theorem dX5_closesSimply_5 : decode cX5_closesSimply 5 = .ok (.if_icmp .ge 5, 3) := by decide +kernel
theorem dX5_closesSimply_8 : decode cX5_closesSimply 8 = .ok (.iconst 0, 1) := by decide +kernel
theorem dX5_closesSimply_9 : decode cX5_closesSimply 9 = .ok (.ireturn, 1) := by decide +kernel
theorem dX5_closesSimply_10 : decode cX5_closesSimply 10 = .ok (.iconst 0, 1) := by decide +kernel
theorem dX5_closesSimply_11 : decode cX5_closesSimply 11 = .ok (.istore_n 1, 1) := by decide +kernel
theorem dX5_closesSimply_12 : decode cX5_closesSimply 12 = .ok (.iload_n 1, 1) := by decide +kernel
theorem dX5_closesSimply_13 : decode cX5_closesSimply 13 = .ok (.aload_n 0, 1) := by decide +kernel
theorem dX5_closesSimply_14 : decode cX5_closesSimply 14 = .ok (.invokevirtual 25, 3) := by decide +kernel
theorem dX5_closesSimply_17 : decode cX5_closesSimply 17 = .ok (.if_icmp .ge 87, 3) := by decide +kernel
theorem dX5_closesSimply_20 : decode cX5_closesSimply 20 = .ok (.aload_n 0, 1) := by decide +kernel
theorem dX5_closesSimply_21 : decode cX5_closesSimply 21 = .ok (.iload_n 1, 1) := by decide +kernel
theorem dX5_closesSimply_22 : decode cX5_closesSimply 22 = .ok (.invokestatic 72, 3) := by decide +kernel
theorem dX5_closesSimply_25 : decode cX5_closesSimply 25 = .ok (.ifCond .eq 5, 3) := by decide +kernel
theorem dX5_closesSimply_28 : decode cX5_closesSimply 28 = .ok (.iconst 0, 1) := by decide +kernel
theorem dX5_closesSimply_29 : decode cX5_closesSimply 29 = .ok (.ireturn, 1) := by decide +kernel
theorem dX5_closesSimply_30 : decode cX5_closesSimply 30 = .ok (.iload_n 1, 1) := by decide +kernel
theorem dX5_closesSimply_31 : decode cX5_closesSimply 31 = .ok (.iconst 1, 1) := by decide +kernel
theorem dX5_closesSimply_32 : decode cX5_closesSimply 32 = .ok (.iadd, 1) := by decide +kernel
theorem dX5_closesSimply_33 : decode cX5_closesSimply 33 = .ok (.istore_n 2, 1) := by decide +kernel
theorem dX5_closesSimply_34 : decode cX5_closesSimply 34 = .ok (.iload_n 2, 1) := by decide +kernel
theorem dX5_closesSimply_35 : decode cX5_closesSimply 35 = .ok (.aload_n 0, 1) := by decide +kernel
theorem dX5_closesSimply_36 : decode cX5_closesSimply 36 = .ok (.invokevirtual 25, 3) := by decide +kernel
theorem dX5_closesSimply_39 : decode cX5_closesSimply 39 = .ok (.if_icmp .ge 59, 3) := by decide +kernel
theorem dX5_closesSimply_42 : decode cX5_closesSimply 42 = .ok (.aload_n 0, 1) := by decide +kernel
theorem dX5_closesSimply_43 : decode cX5_closesSimply 43 = .ok (.iload_n 1, 1) := by decide +kernel
theorem dX5_closesSimply_44 : decode cX5_closesSimply 44 = .ok (.invokevirtual 7, 3) := by decide +kernel
theorem dX5_closesSimply_47 : decode cX5_closesSimply 47 = .ok (.iload_n 2, 1) := by decide +kernel
theorem dX5_closesSimply_48 : decode cX5_closesSimply 48 = .ok (.if_icmp .eq 12, 3) := by decide +kernel
theorem dX5_closesSimply_51 : decode cX5_closesSimply 51 = .ok (.aload_n 0, 1) := by decide +kernel
theorem dX5_closesSimply_52 : decode cX5_closesSimply 52 = .ok (.iload_n 2, 1) := by decide +kernel
theorem dX5_closesSimply_53 : decode cX5_closesSimply 53 = .ok (.invokevirtual 7, 3) := by decide +kernel
theorem dX5_closesSimply_56 : decode cX5_closesSimply 56 = .ok (.iload_n 1, 1) := by decide +kernel
theorem dX5_closesSimply_57 : decode cX5_closesSimply 57 = .ok (.if_icmp .ne 7, 3) := by decide +kernel
theorem dX5_closesSimply_60 : decode cX5_closesSimply 60 = .ok (.iconst 1, 1) := by decide +kernel
theorem dX5_closesSimply_61 : decode cX5_closesSimply 61 = .ok (.goto 4, 3) := by decide +kernel
theorem dX5_closesSimply_64 : decode cX5_closesSimply 64 = .ok (.iconst 0, 1) := by decide +kernel
theorem dX5_closesSimply_65 : decode cX5_closesSimply 65 = .ok (.istore_n 3, 1) := by decide +kernel
theorem dX5_closesSimply_66 : decode cX5_closesSimply 66 = .ok (.iload_n 3, 1) := by decide +kernel
theorem dX5_closesSimply_67 : decode cX5_closesSimply 67 = .ok (.ifCond .ne 25, 3) := by decide +kernel
theorem dX5_closesSimply_70 : decode cX5_closesSimply 70 = .ok (.aload_n 0, 1) := by decide +kernel
theorem dX5_closesSimply_71 : decode cX5_closesSimply 71 = .ok (.iload_n 1, 1) := by decide +kernel
theorem dX5_closesSimply_72 : decode cX5_closesSimply 72 = .ok (.aload_n 0, 1) := by decide +kernel
theorem dX5_closesSimply_73 : decode cX5_closesSimply 73 = .ok (.iload_n 1, 1) := by decide +kernel
theorem dX5_closesSimply_74 : decode cX5_closesSimply 74 = .ok (.invokevirtual 7, 3) := by decide +kernel
theorem dX5_closesSimply_77 : decode cX5_closesSimply 77 = .ok (.aload_n 0, 1) := by decide +kernel
theorem dX5_closesSimply_78 : decode cX5_closesSimply 78 = .ok (.iload_n 2, 1) := by decide +kernel
theorem dX5_closesSimply_79 : decode cX5_closesSimply 79 = .ok (.aload_n 0, 1) := by decide +kernel
theorem dX5_closesSimply_80 : decode cX5_closesSimply 80 = .ok (.iload_n 2, 1) := by decide +kernel
theorem dX5_closesSimply_81 : decode cX5_closesSimply 81 = .ok (.invokevirtual 7, 3) := by decide +kernel
theorem dX5_closesSimply_84 : decode cX5_closesSimply 84 = .ok (.invokestatic 76, 3) := by decide +kernel
theorem dX5_closesSimply_87 : decode cX5_closesSimply 87 = .ok (.ifCond .eq 5, 3) := by decide +kernel
theorem dX5_closesSimply_90 : decode cX5_closesSimply 90 = .ok (.iconst 0, 1) := by decide +kernel
theorem dX5_closesSimply_91 : decode cX5_closesSimply 91 = .ok (.ireturn, 1) := by decide +kernel
theorem dX5_closesSimply_92 : decode cX5_closesSimply 92 = .ok (.iinc 2 1, 3) := by decide +kernel
theorem dX5_closesSimply_95 : decode cX5_closesSimply 95 = .ok (.goto (-61), 3) := by decide +kernel
theorem dX5_closesSimply_98 : decode cX5_closesSimply 98 = .ok (.iinc 1 1, 3) := by decide +kernel
theorem dX5_closesSimply_101 : decode cX5_closesSimply 101 = .ok (.goto (-89), 3) := by decide +kernel
theorem dX5_closesSimply_104 : decode cX5_closesSimply 104 = .ok (.iconst 1, 1) := by decide +kernel
theorem dX5_closesSimply_105 : decode cX5_closesSimply 105 = .ok (.ireturn, 1) := by decide +kernel
theorem dX5_foldsBack_0 : decode cX5_foldsBack 0 = .ok (.aload_n 0, 1) := by decide +kernel
theorem dX5_foldsBack_1 : decode cX5_foldsBack 1 = .ok (.iload_n 1, 1) := by decide +kernel
theorem dX5_foldsBack_2 : decode cX5_foldsBack 2 = .ok (.invokevirtual 80, 3) := by decide +kernel
theorem dX5_foldsBack_5 : decode cX5_foldsBack 5 = .ok (.istore_n 2, 1) := by decide +kernel
theorem dX5_foldsBack_6 : decode cX5_foldsBack 6 = .ok (.aload_n 0, 1) := by decide +kernel
theorem dX5_foldsBack_7 : decode cX5_foldsBack 7 = .ok (.iload_n 1, 1) := by decide +kernel
theorem dX5_foldsBack_8 : decode cX5_foldsBack 8 = .ok (.invokevirtual 7, 3) := by decide +kernel
theorem dX5_foldsBack_11 : decode cX5_foldsBack 11 = .ok (.istore_n 3, 1) := by decide +kernel
theorem dX5_foldsBack_12 : decode cX5_foldsBack 12 = .ok (.aload_n 0, 1) := by decide +kernel
theorem dX5_foldsBack_13 : decode cX5_foldsBack 13 = .ok (.iload_n 1, 1) := by decide +kernel
theorem dX5_foldsBack_14 : decode cX5_foldsBack 14 = .ok (.iload_n 3, 1) := by decide +kernel
theorem dX5_foldsBack_15 : decode cX5_foldsBack 15 = .ok (.aload_n 0, 1) := by decide +kernel
theorem dX5_foldsBack_16 : decode cX5_foldsBack 16 = .ok (.iload_n 2, 1) := by decide +kernel
theorem dX5_foldsBack_17 : decode cX5_foldsBack 17 = .ok (.invokestatic 83, 3) := by decide +kernel
theorem dX5_foldsBack_20 : decode cX5_foldsBack 20 = .ok (.ifCond .ne 14, 3) := by decide +kernel
theorem dX5_foldsBack_23 : decode cX5_foldsBack 23 = .ok (.aload_n 0, 1) := by decide +kernel
theorem dX5_foldsBack_24 : decode cX5_foldsBack 24 = .ok (.iload_n 2, 1) := by decide +kernel
theorem dX5_foldsBack_25 : decode cX5_foldsBack 25 = .ok (.iload_n 1, 1) := by decide +kernel
theorem dX5_foldsBack_26 : decode cX5_foldsBack 26 = .ok (.aload_n 0, 1) := by decide +kernel
theorem dX5_foldsBack_27 : decode cX5_foldsBack 27 = .ok (.iload_n 3, 1) := by decide +kernel
theorem dX5_foldsBack_28 : decode cX5_foldsBack 28 = .ok (.invokestatic 83, 3) := by decide +kernel
theorem dX5_foldsBack_31 : decode cX5_foldsBack 31 = .ok (.ifCond .eq 7, 3) := by decide +kernel
theorem dX5_foldsBack_34 : decode cX5_foldsBack 34 = .ok (.iconst 1, 1) := by decide +kernel
theorem dX5_foldsBack_35 : decode cX5_foldsBack 35 = .ok (.goto 4, 3) := by decide +kernel
theorem dX5_foldsBack_38 : decode cX5_foldsBack 38 = .ok (.iconst 0, 1) := by decide +kernel
theorem dX5_foldsBack_39 : decode cX5_foldsBack 39 = .ok (.ireturn, 1) := by decide +kernel
theorem dX5_isOpenBetween_0 : decode cX5_isOpenBetween 0 = .ok (.iconst 0, 1) := by decide +kernel
theorem dX5_isOpenBetween_1 : decode cX5_isOpenBetween 1 = .ok (.istore_n 3, 1) := by decide +kernel
theorem dX5_isOpenBetween_2 : decode cX5_isOpenBetween 2 = .ok (.iload_n 3, 1) := by decide +kernel
theorem dX5_isOpenBetween_3 : decode cX5_isOpenBetween 3 = .ok (.aload_n 0, 1) := by decide +kernel
theorem dX5_isOpenBetween_4 : decode cX5_isOpenBetween 4 = .ok (.invokevirtual 25, 3) := by decide +kernel
theorem dX5_isOpenBetween_7 : decode cX5_isOpenBetween 7 = .ok (.if_icmp .ge 27, 3) := by decide +kernel
theorem dX5_isOpenBetween_10 : decode cX5_isOpenBetween 10 = .ok (.aload_n 0, 1) := by decide +kernel
theorem dX5_isOpenBetween_11 : decode cX5_isOpenBetween 11 = .ok (.iload_n 1, 1) := by decide +kernel
theorem dX5_isOpenBetween_12 : decode cX5_isOpenBetween 12 = .ok (.iload_n 2, 1) := by decide +kernel
theorem dX5_isOpenBetween_13 : decode cX5_isOpenBetween 13 = .ok (.aload_n 0, 1) := by decide +kernel
theorem dX5_isOpenBetween_14 : decode cX5_isOpenBetween 14 = .ok (.iload_n 3, 1) := by decide +kernel
theorem dX5_isOpenBetween_15 : decode cX5_isOpenBetween 15 = .ok (.aload_n 0, 1) := by decide +kernel
theorem dX5_isOpenBetween_16 : decode cX5_isOpenBetween 16 = .ok (.iload_n 3, 1) := by decide +kernel
theorem dX5_isOpenBetween_17 : decode cX5_isOpenBetween 17 = .ok (.invokevirtual 7, 3) := by decide +kernel
theorem dX5_isOpenBetween_20 : decode cX5_isOpenBetween 20 = .ok (.invokestatic 87, 3) := by decide +kernel
theorem dX5_isOpenBetween_23 : decode cX5_isOpenBetween 23 = .ok (.ifCond .eq 5, 3) := by decide +kernel
theorem dX5_isOpenBetween_26 : decode cX5_isOpenBetween 26 = .ok (.iconst 0, 1) := by decide +kernel
theorem dX5_isOpenBetween_27 : decode cX5_isOpenBetween 27 = .ok (.ireturn, 1) := by decide +kernel
theorem dX5_isOpenBetween_28 : decode cX5_isOpenBetween 28 = .ok (.iinc 3 1, 3) := by decide +kernel
theorem dX5_isOpenBetween_31 : decode cX5_isOpenBetween 31 = .ok (.goto (-29), 3) := by decide +kernel
theorem dX5_isOpenBetween_34 : decode cX5_isOpenBetween 34 = .ok (.iconst 0, 1) := by decide +kernel
theorem dX5_isOpenBetween_35 : decode cX5_isOpenBetween 35 = .ok (.istore_n 3, 1) := by decide +kernel
theorem dX5_isOpenBetween_36 : decode cX5_isOpenBetween 36 = .ok (.iload_n 3, 1) := by decide +kernel
theorem dX5_isOpenBetween_37 : decode cX5_isOpenBetween 37 = .ok (.aload_n 0, 1) := by decide +kernel
theorem dX5_isOpenBetween_38 : decode cX5_isOpenBetween 38 = .ok (.invokevirtual 25, 3) := by decide +kernel
theorem dX5_isOpenBetween_41 : decode cX5_isOpenBetween 41 = .ok (.if_icmp .ge 67, 3) := by decide +kernel
theorem dX5_isOpenBetween_44 : decode cX5_isOpenBetween 44 = .ok (.aload_n 0, 1) := by decide +kernel
theorem dX5_isOpenBetween_45 : decode cX5_isOpenBetween 45 = .ok (.iload_n 1, 1) := by decide +kernel
theorem dX5_isOpenBetween_46 : decode cX5_isOpenBetween 46 = .ok (.iload_n 2, 1) := by decide +kernel
theorem dX5_isOpenBetween_47 : decode cX5_isOpenBetween 47 = .ok (.aload_n 0, 1) := by decide +kernel
theorem dX5_isOpenBetween_48 : decode cX5_isOpenBetween 48 = .ok (.iload_n 3, 1) := by decide +kernel
theorem dX5_isOpenBetween_49 : decode cX5_isOpenBetween 49 = .ok (.invokestatic 83, 3) := by decide +kernel
theorem dX5_isOpenBetween_52 : decode cX5_isOpenBetween 52 = .ok (.ifCond .ne 6, 3) := by decide +kernel
theorem dX5_isOpenBetween_55 : decode cX5_isOpenBetween 55 = .ok (.goto 47, 3) := by decide +kernel
theorem dX5_isOpenBetween_58 : decode cX5_isOpenBetween 58 = .ok (.iload_n 3, 1) := by decide +kernel
theorem dX5_isOpenBetween_59 : decode cX5_isOpenBetween 59 = .ok (.iconst 1, 1) := by decide +kernel
theorem dX5_isOpenBetween_60 : decode cX5_isOpenBetween 60 = .ok (.iadd, 1) := by decide +kernel
theorem dX5_isOpenBetween_61 : decode cX5_isOpenBetween 61 = .ok (.istore 4, 2) := by decide +kernel
theorem dX5_isOpenBetween_63 : decode cX5_isOpenBetween 63 = .ok (.iload 4, 2) := by decide +kernel
theorem dX5_isOpenBetween_65 : decode cX5_isOpenBetween 65 = .ok (.aload_n 0, 1) := by decide +kernel
theorem dX5_isOpenBetween_66 : decode cX5_isOpenBetween 66 = .ok (.invokevirtual 25, 3) := by decide +kernel
theorem dX5_isOpenBetween_69 : decode cX5_isOpenBetween 69 = .ok (.if_icmp .ge 33, 3) := by decide +kernel
theorem dX5_isOpenBetween_72 : decode cX5_isOpenBetween 72 = .ok (.aload_n 0, 1) := by decide +kernel
theorem dX5_isOpenBetween_73 : decode cX5_isOpenBetween 73 = .ok (.iload_n 1, 1) := by decide +kernel
theorem dX5_isOpenBetween_74 : decode cX5_isOpenBetween 74 = .ok (.iload_n 2, 1) := by decide +kernel
theorem dX5_isOpenBetween_75 : decode cX5_isOpenBetween 75 = .ok (.aload_n 0, 1) := by decide +kernel
theorem dX5_isOpenBetween_76 : decode cX5_isOpenBetween 76 = .ok (.iload 4, 2) := by decide +kernel
theorem dX5_isOpenBetween_78 : decode cX5_isOpenBetween 78 = .ok (.invokestatic 83, 3) := by decide +kernel
theorem dX5_isOpenBetween_81 : decode cX5_isOpenBetween 81 = .ok (.ifCond .eq 15, 3) := by decide +kernel
theorem dX5_isOpenBetween_84 : decode cX5_isOpenBetween 84 = .ok (.aload_n 0, 1) := by decide +kernel
theorem dX5_isOpenBetween_85 : decode cX5_isOpenBetween 85 = .ok (.iload_n 3, 1) := by decide +kernel
theorem dX5_isOpenBetween_86 : decode cX5_isOpenBetween 86 = .ok (.iload 4, 2) := by decide +kernel
theorem dX5_isOpenBetween_88 : decode cX5_isOpenBetween 88 = .ok (.invokestatic 90, 3) := by decide +kernel
theorem dX5_isOpenBetween_91 : decode cX5_isOpenBetween 91 = .ok (.ifCond .ge 5, 3) := by decide +kernel
theorem dX5_isOpenBetween_94 : decode cX5_isOpenBetween 94 = .ok (.iconst 0, 1) := by decide +kernel
theorem dX5_isOpenBetween_95 : decode cX5_isOpenBetween 95 = .ok (.ireturn, 1) := by decide +kernel
theorem dX5_isOpenBetween_96 : decode cX5_isOpenBetween 96 = .ok (.iinc 4 1, 3) := by decide +kernel
theorem dX5_isOpenBetween_99 : decode cX5_isOpenBetween 99 = .ok (.goto (-36), 3) := by decide +kernel
theorem dX5_isOpenBetween_102 : decode cX5_isOpenBetween 102 = .ok (.iinc 3 1, 3) := by decide +kernel
theorem dX5_isOpenBetween_105 : decode cX5_isOpenBetween 105 = .ok (.goto (-69), 3) := by decide +kernel
theorem dX5_isOpenBetween_108 : decode cX5_isOpenBetween 108 = .ok (.iconst 1, 1) := by decide +kernel
theorem dX5_isOpenBetween_109 : decode cX5_isOpenBetween 109 = .ok (.ireturn, 1) := by decide +kernel
theorem dX5_whereIsMiddle_0 : decode cX5_whereIsMiddle 0 = .ok (.aload_n 0, 1) := by decide +kernel
theorem dX5_whereIsMiddle_1 : decode cX5_whereIsMiddle 1 = .ok (.iload_n 1, 1) := by decide +kernel
theorem dX5_whereIsMiddle_2 : decode cX5_whereIsMiddle 2 = .ok (.invokevirtual 13, 3) := by decide +kernel
theorem dX5_whereIsMiddle_5 : decode cX5_whereIsMiddle 5 = .ok (.i2l, 1) := by decide +kernel
theorem dX5_whereIsMiddle_6 : decode cX5_whereIsMiddle 6 = .ok (.aload_n 0, 1) := by decide +kernel
theorem dX5_whereIsMiddle_7 : decode cX5_whereIsMiddle 7 = .ok (.iload_n 2, 1) := by decide +kernel
theorem dX5_whereIsMiddle_8 : decode cX5_whereIsMiddle 8 = .ok (.invokevirtual 13, 3) := by decide +kernel
theorem dX5_whereIsMiddle_11 : decode cX5_whereIsMiddle 11 = .ok (.i2l, 1) := by decide +kernel
theorem dX5_whereIsMiddle_12 : decode cX5_whereIsMiddle 12 = .ok (.ladd, 1) := by decide +kernel
theorem dX5_whereIsMiddle_13 : decode cX5_whereIsMiddle 13 = .ok (.lstore_n 3, 1) := by decide +kernel
theorem dX5_whereIsMiddle_14 : decode cX5_whereIsMiddle 14 = .ok (.aload_n 0, 1) := by decide +kernel
theorem dX5_whereIsMiddle_15 : decode cX5_whereIsMiddle 15 = .ok (.iload_n 1, 1) := by decide +kernel
theorem dX5_whereIsMiddle_16 : decode cX5_whereIsMiddle 16 = .ok (.invokevirtual 16, 3) := by decide +kernel
theorem dX5_whereIsMiddle_19 : decode cX5_whereIsMiddle 19 = .ok (.i2l, 1) := by decide +kernel
theorem dX5_whereIsMiddle_20 : decode cX5_whereIsMiddle 20 = .ok (.aload_n 0, 1) := by decide +kernel
theorem dX5_whereIsMiddle_21 : decode cX5_whereIsMiddle 21 = .ok (.iload_n 2, 1) := by decide +kernel
theorem dX5_whereIsMiddle_22 : decode cX5_whereIsMiddle 22 = .ok (.invokevirtual 16, 3) := by decide +kernel
theorem dX5_whereIsMiddle_25 : decode cX5_whereIsMiddle 25 = .ok (.i2l, 1) := by decide +kernel
theorem dX5_whereIsMiddle_26 : decode cX5_whereIsMiddle 26 = .ok (.ladd, 1) := by decide +kernel
theorem dX5_whereIsMiddle_27 : decode cX5_whereIsMiddle 27 = .ok (.lstore 5, 2) := by decide +kernel
theorem dX5_whereIsMiddle_29 : decode cX5_whereIsMiddle 29 = .ok (.aload_n 0, 1) := by decide +kernel
theorem dX5_whereIsMiddle_30 : decode cX5_whereIsMiddle 30 = .ok (.iconst 2, 1) := by decide +kernel
theorem dX5_whereIsMiddle_31 : decode cX5_whereIsMiddle 31 = .ok (.lload_n 3, 1) := by decide +kernel
theorem dX5_whereIsMiddle_32 : decode cX5_whereIsMiddle 32 = .ok (.lload 5, 2) := by decide +kernel
theorem dX5_whereIsMiddle_34 : decode cX5_whereIsMiddle 34 = .ok (.invokestatic 94, 3) := by decide +kernel
theorem dX5_whereIsMiddle_37 : decode cX5_whereIsMiddle 37 = .ok (.ireturn, 1) := by decide +kernel
theorem dX6_init_0 : decode cX6_init 0 = .ok (.aload_n 0, 1) := by decide +kernel
theorem dX6_init_1 : decode cX6_init 1 = .ok (.invokespecial 3, 3) := by decide +kernel
theorem dX6_init_4 : decode cX6_init 4 = .ok (.aload_n 0, 1) := by decide +kernel
theorem dX6_init_5 : decode cX6_init 5 = .ok (.new 9, 3) := by decide +kernel
theorem dX6_init_8 : decode cX6_init 8 = .ok (.dup, 1) := by decide +kernel
theorem dX6_init_9 : decode cX6_init 9 = .ok (.bipush 60, 2) := by decide +kernel
theorem dX6_init_11 : decode cX6_init 11 = .ok (.invokespecial 11, 3) := by decide +kernel
theorem dX6_init_14 : decode cX6_init 14 = .ok (.putfield 14, 3) := by decide +kernel
theorem dX6_init_17 : decode cX6_init 17 = .ok (.aload_n 0, 1) := by decide +kernel
theorem dX6_init_18 : decode cX6_init 18 = .ok (.new 9, 3) := by decide +kernel
theorem dX6_init_21 : decode cX6_init 21 = .ok (.dup, 1) := by decide +kernel
theorem dX6_init_22 : decode cX6_init 22 = .ok (.bipush 40, 2) := by decide +kernel
theorem dX6_init_24 : decode cX6_init 24 = .ok (.invokespecial 11, 3) := by decide +kernel
theorem dX6_init_27 : decode cX6_init 27 = .ok (.putfield 20, 3) := by decide +kernel
theorem dX6_init_30 : decode cX6_init 30 = .ok (.aload_n 0, 1) := by decide +kernel
theorem dX6_init_31 : decode cX6_init 31 = .ok (.iconst 4, 1) := by decide +kernel
theorem dX6_init_32 : decode cX6_init 32 = .ok (.anewarray 9, 3) := by decide +kernel
theorem dX6_init_35 : decode cX6_init 35 = .ok (.putfield 23, 3) := by decide +kernel
theorem dX6_init_38 : decode cX6_init 38 = .ok (.aload_n 0, 1) := by decide +kernel
theorem dX6_init_39 : decode cX6_init 39 = .ok (.new 9, 3) := by decide +kernel
theorem dX6_init_42 : decode cX6_init 42 = .ok (.dup, 1) := by decide +kernel
theorem dX6_init_43 : decode cX6_init 43 = .ok (.iconst 0, 1) := by decide +kernel
theorem dX6_init_44 : decode cX6_init 44 = .ok (.invokespecial 11, 3) := by decide +kernel
theorem dX6_init_47 : decode cX6_init 47 = .ok (.putfield 27, 3) := by decide +kernel
theorem dX6_init_50 : decode cX6_init 50 = .ok (.iconst 0, 1) := by decide +kernel
theorem dX6_init_51 : decode cX6_init 51 = .ok (.istore_n 1, 1) := by decide +kernel
theorem dX6_init_52 : decode cX6_init 52 = .ok (.iload_n 1, 1) := by decide +kernel
theorem dX6_init_53 : decode cX6_init 53 = .ok (.aload_n 0, 1) := by decide +kernel
theorem dX6_init_54 : decode cX6_init 54 = .ok (.getfield 23, 3) := by decide +kernel
theorem dX6_init_57 : decode cX6_init 57 = .ok (.arraylength, 1) := by decide +kernel
theorem dX6_init_58 : decode cX6_init 58 = .ok (.if_icmp .ge 24, 3) := by decide +kernel
theorem dX6_init_61 : decode cX6_init 61 = .ok (.aload_n 0, 1) := by decide +kernel
theorem dX6_init_62 : decode cX6_init 62 = .ok (.getfield 23, 3) := by decide +kernel
theorem dX6_init_65 : decode cX6_init 65 = .ok (.iload_n 1, 1) := by decide +kernel
theorem dX6_init_66 : decode cX6_init 66 = .ok (.new 9, 3) := by decide +kernel
theorem dX6_init_69 : decode cX6_init 69 = .ok (.dup, 1) := by decide +kernel
theorem dX6_init_70 : decode cX6_init 70 = .ok (.bipush 16, 2) := by decide +kernel
theorem dX6_init_72 : decode cX6_init 72 = .ok (.invokespecial 11, 3) := by decide +kernel
theorem dX6_init_75 : decode cX6_init 75 = .ok (.aastore, 1) := by decide +kernel
theorem dX6_init_76 : decode cX6_init 76 = .ok (.iinc 1 1, 3) := by decide +kernel
theorem dX6_init_79 : decode cX6_init 79 = .ok (.goto (-27), 3) := by decide +kernel
theorem dX6_init_82 : decode cX6_init 82 = .ok (.return_, 1) := by decide +kernel
theorem dX6_polygonAt_0 : decode cX6_polygonAt 0 = .ok (.iload_n 1, 1) := by decide +kernel
theorem dX6_polygonAt_1 : decode cX6_polygonAt 1 = .ok (.ifCond .lt 21, 3) := by decide +kernel
theorem dX6_polygonAt_4 : decode cX6_polygonAt 4 = .ok (.iload_n 1, 1) := by decide +kernel
theorem dX6_polygonAt_5 : decode cX6_polygonAt 5 = .ok (.aload_n 0, 1) := by decide +kernel
theorem dX6_polygonAt_6 : decode cX6_polygonAt 6 = .ok (.getfield 23, 3) := by decide +kernel
theorem dX6_polygonAt_9 : decode cX6_polygonAt 9 = .ok (.arraylength, 1) := by decide +kernel
theorem dX6_polygonAt_10 : decode cX6_polygonAt 10 = .ok (.if_icmp .ge 12, 3) := by decide +kernel
theorem dX6_polygonAt_13 : decode cX6_polygonAt 13 = .ok (.aload_n 0, 1) := by decide +kernel
theorem dX6_polygonAt_14 : decode cX6_polygonAt 14 = .ok (.getfield 23, 3) := by decide +kernel
theorem dX6_polygonAt_17 : decode cX6_polygonAt 17 = .ok (.iload_n 1, 1) := by decide +kernel
theorem dX6_polygonAt_18 : decode cX6_polygonAt 18 = .ok (.aaload, 1) := by decide +kernel
theorem dX6_polygonAt_19 : decode cX6_polygonAt 19 = .ok (.goto 4, 3) := by decide +kernel
theorem dX6_polygonAt_22 : decode cX6_polygonAt 22 = .ok (.aconst_null, 1) := by decide +kernel
theorem dX6_polygonAt_23 : decode cX6_polygonAt 23 = .ok (.astore_n 2, 1) := by decide +kernel
theorem dX6_polygonAt_24 : decode cX6_polygonAt 24 = .ok (.aload_n 2, 1) := by decide +kernel
theorem dX6_polygonAt_25 : decode cX6_polygonAt 25 = .ok (.ifnonnull 10, 3) := by decide +kernel
theorem dX6_polygonAt_28 : decode cX6_polygonAt 28 = .ok (.aload_n 0, 1) := by decide +kernel
theorem dX6_polygonAt_29 : decode cX6_polygonAt 29 = .ok (.getfield 27, 3) := by decide +kernel
theorem dX6_polygonAt_32 : decode cX6_polygonAt 32 = .ok (.goto 4, 3) := by decide +kernel
theorem dX6_polygonAt_35 : decode cX6_polygonAt 35 = .ok (.aload_n 2, 1) := by decide +kernel
theorem dX6_polygonAt_36 : decode cX6_polygonAt 36 = .ok (.areturn, 1) := by decide +kernel
theorem dX6_hasPoint_0 : decode cX6_hasPoint 0 = .ok (.iload_n 1, 1) := by decide +kernel
theorem dX6_hasPoint_1 : decode cX6_hasPoint 1 = .ok (.ifCond .lt 30, 3) := by decide +kernel
theorem dX6_hasPoint_4 : decode cX6_hasPoint 4 = .ok (.iload_n 1, 1) := by decide +kernel
theorem dX6_hasPoint_5 : decode cX6_hasPoint 5 = .ok (.aload_n 0, 1) := by decide +kernel
theorem dX6_hasPoint_6 : decode cX6_hasPoint 6 = .ok (.getfield 14, 3) := by decide +kernel
theorem dX6_hasPoint_9 : decode cX6_hasPoint 9 = .ok (.invokevirtual 30, 3) := by decide +kernel
theorem dX6_hasPoint_12 : decode cX6_hasPoint 12 = .ok (.if_icmp .ge 19, 3) := by decide +kernel
theorem dX6_hasPoint_15 : decode cX6_hasPoint 15 = .ok (.aload_n 0, 1) := by decide +kernel
theorem dX6_hasPoint_16 : decode cX6_hasPoint 16 = .ok (.getfield 14, 3) := by decide +kernel
theorem dX6_hasPoint_19 : decode cX6_hasPoint 19 = .ok (.iload_n 1, 1) := by decide +kernel
theorem dX6_hasPoint_20 : decode cX6_hasPoint 20 = .ok (.invokevirtual 34, 3) := by decide +kernel
theorem dX6_hasPoint_23 : decode cX6_hasPoint 23 = .ok (.iconst (-1), 1) := by decide +kernel
theorem dX6_hasPoint_24 : decode cX6_hasPoint 24 = .ok (.if_icmp .eq 7, 3) := by decide +kernel
theorem dX6_hasPoint_27 : decode cX6_hasPoint 27 = .ok (.iconst 1, 1) := by decide +kernel
theorem dX6_hasPoint_28 : decode cX6_hasPoint 28 = .ok (.goto 4, 3) := by decide +kernel
theorem dX6_hasPoint_31 : decode cX6_hasPoint 31 = .ok (.iconst 0, 1) := by decide +kernel
theorem dX6_hasPoint_32 : decode cX6_hasPoint 32 = .ok (.ireturn, 1) := by decide +kernel
theorem dX6_heapSize_0 : decode cX6_heapSize 0 = .ok (.iconst 0, 1) := by decide +kernel
theorem dX6_heapSize_1 : decode cX6_heapSize 1 = .ok (.istore_n 2, 1) := by decide +kernel
theorem dX6_heapSize_2 : decode cX6_heapSize 2 = .ok (.iconst 0, 1) := by decide +kernel
theorem dX6_heapSize_3 : decode cX6_heapSize 3 = .ok (.istore_n 3, 1) := by decide +kernel
theorem dX6_heapSize_4 : decode cX6_heapSize 4 = .ok (.iload_n 3, 1) := by decide +kernel
theorem dX6_heapSize_5 : decode cX6_heapSize 5 = .ok (.aload_n 0, 1) := by decide +kernel
theorem dX6_heapSize_6 : decode cX6_heapSize 6 = .ok (.getfield 14, 3) := by decide +kernel
theorem dX6_heapSize_9 : decode cX6_heapSize 9 = .ok (.invokevirtual 30, 3) := by decide +kernel
theorem dX6_heapSize_12 : decode cX6_heapSize 12 = .ok (.if_icmp .ge 24, 3) := by decide +kernel
theorem dX6_heapSize_15 : decode cX6_heapSize 15 = .ok (.aload_n 0, 1) := by decide +kernel
theorem dX6_heapSize_16 : decode cX6_heapSize 16 = .ok (.getfield 14, 3) := by decide +kernel
theorem dX6_heapSize_19 : decode cX6_heapSize 19 = .ok (.iload_n 3, 1) := by decide +kernel
theorem dX6_heapSize_20 : decode cX6_heapSize 20 = .ok (.invokevirtual 34, 3) := by decide +kernel
theorem dX6_heapSize_23 : decode cX6_heapSize 23 = .ok (.iload_n 1, 1) := by decide +kernel
theorem dX6_heapSize_24 : decode cX6_heapSize 24 = .ok (.if_icmp .ne 6, 3) := by decide +kernel
theorem dX6_heapSize_27 : decode cX6_heapSize 27 = .ok (.iinc 2 1, 3) := by decide +kernel
theorem dX6_heapSize_30 : decode cX6_heapSize 30 = .ok (.iinc 3 1, 3) := by decide +kernel
theorem dX6_heapSize_33 : decode cX6_heapSize 33 = .ok (.goto (-29), 3) := by decide +kernel
theorem dX6_heapSize_36 : decode cX6_heapSize 36 = .ok (.iload_n 2, 1) := by decide +kernel
theorem dX6_heapSize_37 : decode cX6_heapSize 37 = .ok (.ireturn, 1) := by decide +kernel
theorem dX6_putInOrder_0 : decode cX6_putInOrder 0 = .ok (.iconst 0, 1) := by decide +kernel
theorem dX6_putInOrder_1 : decode cX6_putInOrder 1 = .ok (.istore_n 3, 1) := by decide +kernel
theorem dX6_putInOrder_2 : decode cX6_putInOrder 2 = .ok (.iload_n 3, 1) := by decide +kernel
theorem dX6_putInOrder_3 : decode cX6_putInOrder 3 = .ok (.aload_n 0, 1) := by decide +kernel
theorem dX6_putInOrder_4 : decode cX6_putInOrder 4 = .ok (.getfield 14, 3) := by decide +kernel
theorem dX6_putInOrder_7 : decode cX6_putInOrder 7 = .ok (.invokevirtual 30, 3) := by decide +kernel
theorem dX6_putInOrder_10 : decode cX6_putInOrder 10 = .ok (.if_icmp .ge 42, 3) := by decide +kernel
theorem dX6_putInOrder_13 : decode cX6_putInOrder 13 = .ok (.aload_n 0, 1) := by decide +kernel
theorem dX6_putInOrder_14 : decode cX6_putInOrder 14 = .ok (.getfield 14, 3) := by decide +kernel
theorem dX6_putInOrder_17 : decode cX6_putInOrder 17 = .ok (.iload_n 3, 1) := by decide +kernel
theorem dX6_putInOrder_18 : decode cX6_putInOrder 18 = .ok (.invokevirtual 34, 3) := by decide +kernel
theorem dX6_putInOrder_21 : decode cX6_putInOrder 21 = .ok (.iload_n 1, 1) := by decide +kernel
theorem dX6_putInOrder_22 : decode cX6_putInOrder 22 = .ok (.if_icmp .ne 24, 3) := by decide +kernel
theorem dX6_putInOrder_25 : decode cX6_putInOrder 25 = .ok (.aload_n 2, 1) := by decide +kernel
theorem dX6_putInOrder_26 : decode cX6_putInOrder 26 = .ok (.aload_n 0, 1) := by decide +kernel
theorem dX6_putInOrder_27 : decode cX6_putInOrder 27 = .ok (.getfield 14, 3) := by decide +kernel
theorem dX6_putInOrder_30 : decode cX6_putInOrder 30 = .ok (.iload_n 3, 1) := by decide +kernel
theorem dX6_putInOrder_31 : decode cX6_putInOrder 31 = .ok (.invokevirtual 38, 3) := by decide +kernel
theorem dX6_putInOrder_34 : decode cX6_putInOrder 34 = .ok (.aload_n 0, 1) := by decide +kernel
theorem dX6_putInOrder_35 : decode cX6_putInOrder 35 = .ok (.getfield 14, 3) := by decide +kernel
theorem dX6_putInOrder_38 : decode cX6_putInOrder 38 = .ok (.iload_n 3, 1) := by decide +kernel
theorem dX6_putInOrder_39 : decode cX6_putInOrder 39 = .ok (.invokevirtual 41, 3) := by decide +kernel
theorem dX6_putInOrder_42 : decode cX6_putInOrder 42 = .ok (.iload_n 3, 1) := by decide +kernel
theorem dX6_putInOrder_43 : decode cX6_putInOrder 43 = .ok (.invokevirtual 44, 3) := by decide +kernel
theorem dX6_putInOrder_46 : decode cX6_putInOrder 46 = .ok (.iinc 3 1, 3) := by decide +kernel
theorem dX6_putInOrder_49 : decode cX6_putInOrder 49 = .ok (.goto (-47), 3) := by decide +kernel
theorem dX6_putInOrder_52 : decode cX6_putInOrder 52 = .ok (.return_, 1) := by decide +kernel
theorem dX6_squaredDistance_0 : decode cX6_squaredDistance 0 = .ok (.aload_n 0, 1) := by decide +kernel
theorem dX6_squaredDistance_1 : decode cX6_squaredDistance 1 = .ok (.getfield 14, 3) := by decide +kernel
theorem dX6_squaredDistance_4 : decode cX6_squaredDistance 4 = .ok (.iload_n 2, 1) := by decide +kernel
theorem dX6_squaredDistance_5 : decode cX6_squaredDistance 5 = .ok (.invokevirtual 38, 3) := by decide +kernel
theorem dX6_squaredDistance_8 : decode cX6_squaredDistance 8 = .ok (.aload_n 0, 1) := by decide +kernel
theorem dX6_squaredDistance_9 : decode cX6_squaredDistance 9 = .ok (.getfield 14, 3) := by decide +kernel
theorem dX6_squaredDistance_12 : decode cX6_squaredDistance 12 = .ok (.iload_n 1, 1) := by decide +kernel
theorem dX6_squaredDistance_13 : decode cX6_squaredDistance 13 = .ok (.invokevirtual 38, 3) := by decide +kernel
theorem dX6_squaredDistance_16 : decode cX6_squaredDistance 16 = .ok (.isub, 1) := by decide +kernel
theorem dX6_squaredDistance_17 : decode cX6_squaredDistance 17 = .ok (.istore_n 3, 1) := by decide +kernel
theorem dX6_squaredDistance_18 : decode cX6_squaredDistance 18 = .ok (.aload_n 0, 1) := by decide +kernel
theorem dX6_squaredDistance_19 : decode cX6_squaredDistance 19 = .ok (.getfield 14, 3) := by decide +kernel
theorem dX6_squaredDistance_22 : decode cX6_squaredDistance 22 = .ok (.iload_n 2, 1) := by decide +kernel
theorem dX6_squaredDistance_23 : decode cX6_squaredDistance 23 = .ok (.invokevirtual 41, 3) := by decide +kernel
theorem dX6_squaredDistance_26 : decode cX6_squaredDistance 26 = .ok (.aload_n 0, 1) := by decide +kernel
theorem dX6_squaredDistance_27 : decode cX6_squaredDistance 27 = .ok (.getfield 14, 3) := by decide +kernel
theorem dX6_squaredDistance_30 : decode cX6_squaredDistance 30 = .ok (.iload_n 1, 1) := by decide +kernel
theorem dX6_squaredDistance_31 : decode cX6_squaredDistance 31 = .ok (.invokevirtual 41, 3) := by decide +kernel
theorem dX6_squaredDistance_34 : decode cX6_squaredDistance 34 = .ok (.isub, 1) := by decide +kernel
theorem dX6_squaredDistance_35 : decode cX6_squaredDistance 35 = .ok (.istore 4, 2) := by decide +kernel
theorem dX6_squaredDistance_37 : decode cX6_squaredDistance 37 = .ok (.iload_n 3, 1) := by decide +kernel
theorem dX6_squaredDistance_38 : decode cX6_squaredDistance 38 = .ok (.iload_n 3, 1) := by decide +kernel
theorem dX6_squaredDistance_39 : decode cX6_squaredDistance 39 = .ok (.imul, 1) := by decide +kernel
theorem dX6_squaredDistance_40 : decode cX6_squaredDistance 40 = .ok (.iload 4, 2) := by decide +kernel
theorem dX6_squaredDistance_42 : decode cX6_squaredDistance 42 = .ok (.iload 4, 2) := by decide +kernel
theorem dX6_squaredDistance_44 : decode cX6_squaredDistance 44 = .ok (.imul, 1) := by decide +kernel
theorem dX6_squaredDistance_45 : decode cX6_squaredDistance 45 = .ok (.iadd, 1) := by decide +kernel
theorem dX6_squaredDistance_46 : decode cX6_squaredDistance 46 = .ok (.ireturn, 1) := by decide +kernel
theorem dX6_extremePair_0 : decode cX6_extremePair 0 = .ok (.iconst (-1), 1) := by decide +kernel
theorem dX6_extremePair_1 : decode cX6_extremePair 1 = .ok (.istore_n 3, 1) := by decide +kernel
theorem dX6_extremePair_2 : decode cX6_extremePair 2 = .ok (.iconst 0, 1) := by decide +kernel
theorem dX6_extremePair_3 : decode cX6_extremePair 3 = .ok (.istore 4, 2) := by decide +kernel
theorem dX6_extremePair_5 : decode cX6_extremePair 5 = .ok (.iconst 0, 1) := by decide +kernel
theorem dX6_extremePair_6 : decode cX6_extremePair 6 = .ok (.istore 5, 2) := by decide +kernel
theorem dX6_extremePair_8 : decode cX6_extremePair 8 = .ok (.iload 5, 2) := by decide +kernel
theorem dX6_extremePair_10 : decode cX6_extremePair 10 = .ok (.aload_n 0, 1) := by decide +kernel
theorem dX6_extremePair_11 : decode cX6_extremePair 11 = .ok (.getfield 14, 3) := by decide +kernel
theorem dX6_extremePair_14 : decode cX6_extremePair 14 = .ok (.invokevirtual 30, 3) := by decide +kernel
theorem dX6_extremePair_17 : decode cX6_extremePair 17 = .ok (.if_icmp .ge 130, 3) := by decide +kernel
theorem dX6_extremePair_20 : decode cX6_extremePair 20 = .ok (.aload_n 0, 1) := by decide +kernel
theorem dX6_extremePair_21 : decode cX6_extremePair 21 = .ok (.getfield 14, 3) := by decide +kernel
theorem dX6_extremePair_24 : decode cX6_extremePair 24 = .ok (.iload 5, 2) := by decide +kernel
theorem dX6_extremePair_26 : decode cX6_extremePair 26 = .ok (.invokevirtual 34, 3) := by decide +kernel
theorem dX6_extremePair_29 : decode cX6_extremePair 29 = .ok (.iload_n 1, 1) := by decide +kernel
theorem dX6_extremePair_30 : decode cX6_extremePair 30 = .ok (.if_icmp .eq 6, 3) := by decide +kernel
theorem dX6_extremePair_33 : decode cX6_extremePair 33 = .ok (.goto 108, 3) := by decide +kernel
theorem dX6_extremePair_36 : decode cX6_extremePair 36 = .ok (.iload 5, 2) := by decide +kernel
theorem dX6_extremePair_38 : decode cX6_extremePair 38 = .ok (.iconst 1, 1) := by decide +kernel
theorem dX6_extremePair_39 : decode cX6_extremePair 39 = .ok (.iadd, 1) := by decide +kernel
theorem dX6_extremePair_40 : decode cX6_extremePair 40 = .ok (.istore 6, 2) := by decide +kernel
theorem dX6_extremePair_42 : decode cX6_extremePair 42 = .ok (.iload 6, 2) := by decide +kernel
theorem dX6_extremePair_44 : decode cX6_extremePair 44 = .ok (.aload_n 0, 1) := by decide +kernel
theorem dX6_extremePair_45 : decode cX6_extremePair 45 = .ok (.getfield 14, 3) := by decide +kernel
theorem dX6_extremePair_48 : decode cX6_extremePair 48 = .ok (.invokevirtual 30, 3) := by decide +kernel
theorem dX6_extremePair_51 : decode cX6_extremePair 51 = .ok (.if_icmp .ge 90, 3) := by decide +kernel
theorem dX6_extremePair_54 : decode cX6_extremePair 54 = .ok (.aload_n 0, 1) := by decide +kernel
theorem dX6_extremePair_55 : decode cX6_extremePair 55 = .ok (.getfield 14, 3) := by decide +kernel
theorem dX6_extremePair_58 : decode cX6_extremePair 58 = .ok (.iload 6, 2) := by decide +kernel
theorem dX6_extremePair_60 : decode cX6_extremePair 60 = .ok (.invokevirtual 34, 3) := by decide +kernel
theorem dX6_extremePair_63 : decode cX6_extremePair 63 = .ok (.iload_n 1, 1) := by decide +kernel
theorem dX6_extremePair_64 : decode cX6_extremePair 64 = .ok (.if_icmp .eq 6, 3) := by decide +kernel
theorem dX6_extremePair_67 : decode cX6_extremePair 67 = .ok (.goto 68, 3) := by decide +kernel
theorem dX6_extremePair_70 : decode cX6_extremePair 70 = .ok (.aload_n 0, 1) := by decide +kernel
theorem dX6_extremePair_71 : decode cX6_extremePair 71 = .ok (.iload 5, 2) := by decide +kernel
theorem dX6_extremePair_73 : decode cX6_extremePair 73 = .ok (.iload 6, 2) := by decide +kernel
theorem dX6_extremePair_75 : decode cX6_extremePair 75 = .ok (.invokevirtual 48, 3) := by decide +kernel
theorem dX6_extremePair_78 : decode cX6_extremePair 78 = .ok (.istore 7, 2) := by decide +kernel
theorem dX6_extremePair_80 : decode cX6_extremePair 80 = .ok (.iload_n 2, 1) := by decide +kernel
theorem dX6_extremePair_81 : decode cX6_extremePair 81 = .ok (.ifCond .eq 18, 3) := by decide +kernel
theorem dX6_extremePair_84 : decode cX6_extremePair 84 = .ok (.iload 7, 2) := by decide +kernel
theorem dX6_extremePair_86 : decode cX6_extremePair 86 = .ok (.iload 4, 2) := by decide +kernel
theorem dX6_extremePair_88 : decode cX6_extremePair 88 = .ok (.if_icmp .le 7, 3) := by decide +kernel
theorem dX6_extremePair_91 : decode cX6_extremePair 91 = .ok (.iconst 1, 1) := by decide +kernel
theorem dX6_extremePair_92 : decode cX6_extremePair 92 = .ok (.goto 19, 3) := by decide +kernel
theorem dX6_extremePair_95 : decode cX6_extremePair 95 = .ok (.iconst 0, 1) := by decide +kernel
theorem dX6_extremePair_96 : decode cX6_extremePair 96 = .ok (.goto 15, 3) := by decide +kernel
theorem dX6_extremePair_99 : decode cX6_extremePair 99 = .ok (.iload 7, 2) := by decide +kernel
theorem dX6_extremePair_101 : decode cX6_extremePair 101 = .ok (.iload 4, 2) := by decide +kernel
theorem dX6_extremePair_103 : decode cX6_extremePair 103 = .ok (.if_icmp .ge 7, 3) := by decide +kernel
theorem dX6_extremePair_106 : decode cX6_extremePair 106 = .ok (.iconst 1, 1) := by decide +kernel
theorem dX6_extremePair_107 : decode cX6_extremePair 107 = .ok (.goto 4, 3) := by decide +kernel
theorem dX6_extremePair_110 : decode cX6_extremePair 110 = .ok (.iconst 0, 1) := by decide +kernel
theorem dX6_extremePair_111 : decode cX6_extremePair 111 = .ok (.istore 8, 2) := by decide +kernel
theorem dX6_extremePair_113 : decode cX6_extremePair 113 = .ok (.iload_n 3, 1) := by decide +kernel
theorem dX6_extremePair_114 : decode cX6_extremePair 114 = .ok (.ifCond .lt 8, 3) := by decide +kernel
theorem dX6_extremePair_117 : decode cX6_extremePair 117 = .ok (.iload 8, 2) := by decide +kernel
theorem dX6_extremePair_119 : decode cX6_extremePair 119 = .ok (.ifCond .eq 16, 3) := by decide +kernel
theorem dX6_extremePair_122 : decode cX6_extremePair 122 = .ok (.bipush 100, 2) := by decide +kernel
theorem dX6_extremePair_124 : decode cX6_extremePair 124 = .ok (.iload 5, 2) := by decide +kernel
theorem dX6_extremePair_126 : decode cX6_extremePair 126 = .ok (.imul, 1) := by decide +kernel
theorem dX6_extremePair_127 : decode cX6_extremePair 127 = .ok (.iload 6, 2) := by decide +kernel
theorem dX6_extremePair_129 : decode cX6_extremePair 129 = .ok (.iadd, 1) := by decide +kernel
theorem dX6_extremePair_130 : decode cX6_extremePair 130 = .ok (.istore_n 3, 1) := by decide +kernel
theorem dX6_extremePair_131 : decode cX6_extremePair 131 = .ok (.iload 7, 2) := by decide +kernel
theorem dX6_extremePair_133 : decode cX6_extremePair 133 = .ok (.istore 4, 2) := by decide +kernel
theorem dX6_extremePair_135 : decode cX6_extremePair 135 = .ok (.iinc 6 1, 3) := by decide +kernel
theorem dX6_extremePair_138 : decode cX6_extremePair 138 = .ok (.goto (-96), 3) := by decide +kernel
theorem dX6_extremePair_141 : decode cX6_extremePair 141 = .ok (.iinc 5 1, 3) := by decide +kernel
theorem dX6_extremePair_144 : decode cX6_extremePair 144 = .ok (.goto (-136), 3) := by decide +kernel
theorem dX6_extremePair_147 : decode cX6_extremePair 147 = .ok (.iload_n 3, 1) := by decide +kernel
theorem dX6_extremePair_148 : decode cX6_extremePair 148 = .ok (.ireturn, 1) := by decide +kernel
theorem dX6_lineCount_0 : decode cX6_lineCount 0 = .ok (.aload_n 0, 1) := by decide +kernel
theorem dX6_lineCount_1 : decode cX6_lineCount 1 = .ok (.getfield 20, 3) := by decide +kernel
theorem dX6_lineCount_4 : decode cX6_lineCount 4 = .ok (.invokevirtual 30, 3) := by decide +kernel
theorem dX6_lineCount_7 : decode cX6_lineCount 7 = .ok (.iconst 2, 1) := by decide +kernel
theorem dX6_lineCount_8 : decode cX6_lineCount 8 = .ok (.idiv, 1) := by decide +kernel
theorem dX6_lineCount_9 : decode cX6_lineCount 9 = .ok (.ireturn, 1) := by decide +kernel
theorem dX6_linesMeet_0 : decode cX6_linesMeet 0 = .ok (.aload_n 0, 1) := by decide +kernel
theorem dX6_linesMeet_1 : decode cX6_linesMeet 1 = .ok (.getfield 20, 3) := by decide +kernel
theorem dX6_linesMeet_4 : decode cX6_linesMeet 4 = .ok (.iconst 2, 1) := by decide +kernel
theorem dX6_linesMeet_5 : decode cX6_linesMeet 5 = .ok (.iload_n 1, 1) := by decide +kernel
theorem dX6_linesMeet_6 : decode cX6_linesMeet 6 = .ok (.imul, 1) := by decide +kernel
theorem dX6_linesMeet_7 : decode cX6_linesMeet 7 = .ok (.iconst 2, 1) := by decide +kernel
theorem dX6_linesMeet_8 : decode cX6_linesMeet 8 = .ok (.iload_n 1, 1) := by decide +kernel
theorem dX6_linesMeet_9 : decode cX6_linesMeet 9 = .ok (.imul, 1) := by decide +kernel
theorem dX6_linesMeet_10 : decode cX6_linesMeet 10 = .ok (.iconst 1, 1) := by decide +kernel
theorem dX6_linesMeet_11 : decode cX6_linesMeet 11 = .ok (.iadd, 1) := by decide +kernel
theorem dX6_linesMeet_12 : decode cX6_linesMeet 12 = .ok (.aload_n 0, 1) := by decide +kernel
theorem dX6_linesMeet_13 : decode cX6_linesMeet 13 = .ok (.getfield 20, 3) := by decide +kernel
theorem dX6_linesMeet_16 : decode cX6_linesMeet 16 = .ok (.iconst 2, 1) := by decide +kernel
theorem dX6_linesMeet_17 : decode cX6_linesMeet 17 = .ok (.iload_n 2, 1) := by decide +kernel
theorem dX6_linesMeet_18 : decode cX6_linesMeet 18 = .ok (.imul, 1) := by decide +kernel
theorem dX6_linesMeet_19 : decode cX6_linesMeet 19 = .ok (.iconst 2, 1) := by decide +kernel
theorem dX6_linesMeet_20 : decode cX6_linesMeet 20 = .ok (.iload_n 2, 1) := by decide +kernel
theorem dX6_linesMeet_21 : decode cX6_linesMeet 21 = .ok (.imul, 1) := by decide +kernel
theorem dX6_linesMeet_22 : decode cX6_linesMeet 22 = .ok (.iconst 1, 1) := by decide +kernel
theorem dX6_linesMeet_23 : decode cX6_linesMeet 23 = .ok (.iadd, 1) := by decide +kernel
theorem dX6_linesMeet_24 : decode cX6_linesMeet 24 = .ok (.invokestatic 52, 3) := by decide +kernel
theorem dX6_linesMeet_27 : decode cX6_linesMeet 27 = .ok (.ireturn, 1) := by decide +kernel
theorem dX6_copyFrom_0 : decode cX6_copyFrom 0 = .ok (.aload_n 0, 1) := by decide +kernel
theorem dX6_copyFrom_1 : decode cX6_copyFrom 1 = .ok (.getfield 14, 3) := by decide +kernel
theorem dX6_copyFrom_4 : decode cX6_copyFrom 4 = .ok (.aload_n 1, 1) := by decide +kernel
theorem dX6_copyFrom_5 : decode cX6_copyFrom 5 = .ok (.getfield 14, 3) := by decide +kernel
theorem dX6_copyFrom_8 : decode cX6_copyFrom 8 = .ok (.invokevirtual 58, 3) := by decide +kernel
theorem dX6_copyFrom_11 : decode cX6_copyFrom 11 = .ok (.aload_n 0, 1) := by decide +kernel
theorem dX6_copyFrom_12 : decode cX6_copyFrom 12 = .ok (.getfield 20, 3) := by decide +kernel
theorem dX6_copyFrom_15 : decode cX6_copyFrom 15 = .ok (.aload_n 1, 1) := by decide +kernel
theorem dX6_copyFrom_16 : decode cX6_copyFrom 16 = .ok (.getfield 20, 3) := by decide +kernel
theorem dX6_copyFrom_19 : decode cX6_copyFrom 19 = .ok (.invokevirtual 58, 3) := by decide +kernel
theorem dX6_copyFrom_22 : decode cX6_copyFrom 22 = .ok (.iconst 0, 1) := by decide +kernel
theorem dX6_copyFrom_23 : decode cX6_copyFrom 23 = .ok (.istore_n 2, 1) := by decide +kernel
theorem dX6_copyFrom_24 : decode cX6_copyFrom 24 = .ok (.iload_n 2, 1) := by decide +kernel
theorem dX6_copyFrom_25 : decode cX6_copyFrom 25 = .ok (.iconst 4, 1) := by decide +kernel
theorem dX6_copyFrom_26 : decode cX6_copyFrom 26 = .ok (.if_icmp .ge 22, 3) := by decide +kernel
theorem dX6_copyFrom_29 : decode cX6_copyFrom 29 = .ok (.aload_n 0, 1) := by decide +kernel
theorem dX6_copyFrom_30 : decode cX6_copyFrom 30 = .ok (.iload_n 2, 1) := by decide +kernel
theorem dX6_copyFrom_31 : decode cX6_copyFrom 31 = .ok (.invokevirtual 62, 3) := by decide +kernel
theorem dX6_copyFrom_34 : decode cX6_copyFrom 34 = .ok (.aload_n 1, 1) := by decide +kernel
theorem dX6_copyFrom_35 : decode cX6_copyFrom 35 = .ok (.iload_n 2, 1) := by decide +kernel
theorem dX6_copyFrom_36 : decode cX6_copyFrom 36 = .ok (.invokevirtual 62, 3) := by decide +kernel
theorem dX6_copyFrom_39 : decode cX6_copyFrom 39 = .ok (.invokevirtual 58, 3) := by decide +kernel
theorem dX6_copyFrom_42 : decode cX6_copyFrom 42 = .ok (.iinc 2 1, 3) := by decide +kernel
theorem dX6_copyFrom_45 : decode cX6_copyFrom 45 = .ok (.goto (-21), 3) := by decide +kernel
theorem dX6_copyFrom_48 : decode cX6_copyFrom 48 = .ok (.return_, 1) := by decide +kernel
theorem dJ6_signum_0f7a4_0 : decode cJ6_signum_0f7a4 0 = .ok (.iload_n 0, 1) := by decide +kernel
theorem dJ6_signum_0f7a4_1 : decode cJ6_signum_0f7a4 1 = .ok (.bipush 31, 2) := by decide +kernel
theorem dJ6_signum_0f7a4_3 : decode cJ6_signum_0f7a4 3 = .ok (.ishr, 1) := by decide +kernel
theorem dJ6_signum_0f7a4_4 : decode cJ6_signum_0f7a4 4 = .ok (.iload_n 0, 1) := by decide +kernel
theorem dJ6_signum_0f7a4_5 : decode cJ6_signum_0f7a4 5 = .ok (.ineg, 1) := by decide +kernel
theorem dJ6_signum_0f7a4_6 : decode cJ6_signum_0f7a4 6 = .ok (.bipush 31, 2) := by decide +kernel
theorem dJ6_signum_0f7a4_8 : decode cJ6_signum_0f7a4 8 = .ok (.iushr, 1) := by decide +kernel
theorem dJ6_signum_0f7a4_9 : decode cJ6_signum_0f7a4 9 = .ok (.ior, 1) := by decide +kernel
theorem dJ6_signum_0f7a4_10 : decode cJ6_signum_0f7a4 10 = .ok (.ireturn, 1) := by decide +kernel
theorem dJ9_floorDiv_7cf53_0 : decode cJ9_floorDiv_7cf53 0 = .ok (.iload_n 0, 1) := by decide +kernel
theorem dJ9_floorDiv_7cf53_1 : decode cJ9_floorDiv_7cf53 1 = .ok (.iload_n 1, 1) := by decide +kernel
theorem dJ9_floorDiv_7cf53_2 : decode cJ9_floorDiv_7cf53 2 = .ok (.idiv, 1) := by decide +kernel
theorem dJ9_floorDiv_7cf53_3 : decode cJ9_floorDiv_7cf53 3 = .ok (.istore_n 2, 1) := by decide +kernel
theorem dJ9_floorDiv_7cf53_4 : decode cJ9_floorDiv_7cf53 4 = .ok (.iload_n 0, 1) := by decide +kernel
theorem dJ9_floorDiv_7cf53_5 : decode cJ9_floorDiv_7cf53 5 = .ok (.iload_n 1, 1) := by decide +kernel
theorem dJ9_floorDiv_7cf53_6 : decode cJ9_floorDiv_7cf53 6 = .ok (.ixor, 1) := by decide +kernel
theorem dJ9_floorDiv_7cf53_7 : decode cJ9_floorDiv_7cf53 7 = .ok (.ifCond .ge 14, 3) := by decide +kernel
theorem dJ9_floorDiv_7cf53_10 : decode cJ9_floorDiv_7cf53 10 = .ok (.iload_n 2, 1) := by decide +kernel
theorem dJ9_floorDiv_7cf53_11 : decode cJ9_floorDiv_7cf53 11 = .ok (.iload_n 1, 1) := by decide +kernel
theorem dJ9_floorDiv_7cf53_12 : decode cJ9_floorDiv_7cf53 12 = .ok (.imul, 1) := by decide +kernel
theorem dJ9_floorDiv_7cf53_13 : decode cJ9_floorDiv_7cf53 13 = .ok (.iload_n 0, 1) := by decide +kernel
theorem dJ9_floorDiv_7cf53_14 : decode cJ9_floorDiv_7cf53 14 = .ok (.if_icmp .eq 7, 3) := by decide +kernel
theorem dJ9_floorDiv_7cf53_17 : decode cJ9_floorDiv_7cf53 17 = .ok (.iload_n 2, 1) := by decide +kernel
theorem dJ9_floorDiv_7cf53_18 : decode cJ9_floorDiv_7cf53 18 = .ok (.iconst 1, 1) := by decide +kernel
theorem dJ9_floorDiv_7cf53_19 : decode cJ9_floorDiv_7cf53 19 = .ok (.isub, 1) := by decide +kernel
theorem dJ9_floorDiv_7cf53_20 : decode cJ9_floorDiv_7cf53 20 = .ok (.ireturn, 1) := by decide +kernel
theorem dJ9_floorDiv_7cf53_21 : decode cJ9_floorDiv_7cf53 21 = .ok (.iload_n 2, 1) := by decide +kernel
theorem dJ9_floorDiv_7cf53_22 : decode cJ9_floorDiv_7cf53 22 = .ok (.ireturn, 1) := by decide +kernel
theorem dJ9_abs_0f7a4_0 : decode cJ9_abs_0f7a4 0 = .ok (.iload_n 0, 1) := by decide +kernel
theorem dJ9_abs_0f7a4_1 : decode cJ9_abs_0f7a4 1 = .ok (.ifCond .ge 8, 3) := by decide +kernel
theorem dJ9_abs_0f7a4_4 : decode cJ9_abs_0f7a4 4 = .ok (.iload_n 0, 1) := by decide +kernel
theorem dJ9_abs_0f7a4_5 : decode cJ9_abs_0f7a4 5 = .ok (.ineg, 1) := by decide +kernel
theorem dJ9_abs_0f7a4_6 : decode cJ9_abs_0f7a4 6 = .ok (.goto 4, 3) := by decide +kernel
theorem dJ9_abs_0f7a4_9 : decode cJ9_abs_0f7a4 9 = .ok (.iload_n 0, 1) := by decide +kernel
theorem dJ9_abs_0f7a4_10 : decode cJ9_abs_0f7a4 10 = .ok (.ireturn, 1) := by decide +kernel
theorem dJ9_abs_067f4_0 : decode cJ9_abs_067f4 0 = .ok (.lload_n 0, 1) := by decide +kernel
theorem dJ9_abs_067f4_1 : decode cJ9_abs_067f4 1 = .ok (.lconst 0, 1) := by decide +kernel
theorem dJ9_abs_067f4_2 : decode cJ9_abs_067f4 2 = .ok (.lcmp, 1) := by decide +kernel
theorem dJ9_abs_067f4_3 : decode cJ9_abs_067f4 3 = .ok (.ifCond .ge 8, 3) := by decide +kernel
theorem dJ9_abs_067f4_6 : decode cJ9_abs_067f4 6 = .ok (.lload_n 0, 1) := by decide +kernel
theorem dJ9_abs_067f4_7 : decode cJ9_abs_067f4 7 = .ok (.lneg, 1) := by decide +kernel
theorem dJ9_abs_067f4_8 : decode cJ9_abs_067f4 8 = .ok (.goto 4, 3) := by decide +kernel
theorem dJ9_abs_067f4_11 : decode cJ9_abs_067f4 11 = .ok (.lload_n 0, 1) := by decide +kernel
theorem dJ9_abs_067f4_12 : decode cJ9_abs_067f4 12 = .ok (.lreturn, 1) := by decide +kernel
theorem dJ9_max_7cf53_0 : decode cJ9_max_7cf53 0 = .ok (.iload_n 0, 1) := by decide +kernel
theorem dJ9_max_7cf53_1 : decode cJ9_max_7cf53 1 = .ok (.iload_n 1, 1) := by decide +kernel
theorem dJ9_max_7cf53_2 : decode cJ9_max_7cf53 2 = .ok (.if_icmp .lt 7, 3) := by decide +kernel
theorem dJ9_max_7cf53_5 : decode cJ9_max_7cf53 5 = .ok (.iload_n 0, 1) := by decide +kernel
theorem dJ9_max_7cf53_6 : decode cJ9_max_7cf53 6 = .ok (.goto 4, 3) := by decide +kernel
theorem dJ9_max_7cf53_9 : decode cJ9_max_7cf53 9 = .ok (.iload_n 1, 1) := by decide +kernel
theorem dJ9_max_7cf53_10 : decode cJ9_max_7cf53 10 = .ok (.ireturn, 1) := by decide +kernel
theorem dJ9_max_f86c9_0 : decode cJ9_max_f86c9 0 = .ok (.lload_n 0, 1) := by decide +kernel
theorem dJ9_max_f86c9_1 : decode cJ9_max_f86c9 1 = .ok (.lload_n 2, 1) := by decide +kernel
theorem dJ9_max_f86c9_2 : decode cJ9_max_f86c9 2 = .ok (.lcmp, 1) := by decide +kernel
theorem dJ9_max_f86c9_3 : decode cJ9_max_f86c9 3 = .ok (.ifCond .lt 7, 3) := by decide +kernel
theorem dJ9_max_f86c9_6 : decode cJ9_max_f86c9 6 = .ok (.lload_n 0, 1) := by decide +kernel
theorem dJ9_max_f86c9_7 : decode cJ9_max_f86c9 7 = .ok (.goto 4, 3) := by decide +kernel
theorem dJ9_max_f86c9_10 : decode cJ9_max_f86c9 10 = .ok (.lload_n 2, 1) := by decide +kernel
theorem dJ9_max_f86c9_11 : decode cJ9_max_f86c9 11 = .ok (.lreturn, 1) := by decide +kernel
theorem dJ9_min_7cf53_0 : decode cJ9_min_7cf53 0 = .ok (.iload_n 0, 1) := by decide +kernel
theorem dJ9_min_7cf53_1 : decode cJ9_min_7cf53 1 = .ok (.iload_n 1, 1) := by decide +kernel
theorem dJ9_min_7cf53_2 : decode cJ9_min_7cf53 2 = .ok (.if_icmp .gt 7, 3) := by decide +kernel
theorem dJ9_min_7cf53_5 : decode cJ9_min_7cf53 5 = .ok (.iload_n 0, 1) := by decide +kernel
theorem dJ9_min_7cf53_6 : decode cJ9_min_7cf53 6 = .ok (.goto 4, 3) := by decide +kernel
theorem dJ9_min_7cf53_9 : decode cJ9_min_7cf53 9 = .ok (.iload_n 1, 1) := by decide +kernel
theorem dJ9_min_7cf53_10 : decode cJ9_min_7cf53 10 = .ok (.ireturn, 1) := by decide +kernel
theorem dJ9_min_f86c9_0 : decode cJ9_min_f86c9 0 = .ok (.lload_n 0, 1) := by decide +kernel
theorem dJ9_min_f86c9_1 : decode cJ9_min_f86c9 1 = .ok (.lload_n 2, 1) := by decide +kernel
theorem dJ9_min_f86c9_2 : decode cJ9_min_f86c9 2 = .ok (.lcmp, 1) := by decide +kernel
theorem dJ9_min_f86c9_3 : decode cJ9_min_f86c9 3 = .ok (.ifCond .gt 7, 3) := by decide +kernel
theorem dJ9_min_f86c9_6 : decode cJ9_min_f86c9 6 = .ok (.lload_n 0, 1) := by decide +kernel
theorem dJ9_min_f86c9_7 : decode cJ9_min_f86c9 7 = .ok (.goto 4, 3) := by decide +kernel
theorem dJ9_min_f86c9_10 : decode cJ9_min_f86c9 10 = .ok (.lload_n 2, 1) := by decide +kernel
theorem dJ9_min_f86c9_11 : decode cJ9_min_f86c9 11 = .ok (.lreturn, 1) := by decide +kernel
